theorem z_cV3 {G : Gt} {d d' : Nat} {Y Y' : YC} {F : Fn} {pc idx i ci : Nat} {lv : List (Nat × Value)} {st : List Value} {μ : Mm} {r a1 a2 a3 : Value} (hdg : decode Y.2.1 pc = .ok (.invokevirtual idx, 3)) (L : LkV Y.1.cls idx Y' 3) (hd : d' < d) (hF : Fo i ci) (hci : (vwCl[ci]?).map (fun q => q.1) = some Y'.1.cls) (hr : (st.map fun v => v.category).sum ≤ 8) (h : EVr G d' Y' [rf G i, a1, a2, a3] μ r) (kk : Zs G d Y F (pc + 3) lv (r :: st) μ) : Zs G d Y F pc lv (a3 :: a2 :: a1 :: rf G i :: st) μ :=
  z_callV (As := [a1, a2, a3]) hdg rfl L rfl hd hF hci hr h (fun v μ' q => by obtain ⟨rfl, rfl⟩ := q; exact kk)
def nmN (T : Nat → Nat) (n c : Nat) : Option Nat × Nat :=
  if c < n ∧ T c = 32 then
    (if skS T n c < n ∧ isDg (T (skS T n c)) = true then
      (if skS T n c + 1 < n ∧ isDg (T (skS T n c + 1)) = true then (some (10 * (T (skS T n c) - 48) + (T (skS T n c + 1) - 48)), skS T n c + 2)
       else (some (T (skS T n c) - 48), skS T n c + 1))
     else (none, skS T n c))
  else (none, c)
def nmW (r : Option Nat × Nat) (μ : Mm) : Mm := match r.1 with
  | some _ => uF μ 33 2 (nI r.2)
  | none => uF (uF μ 33 2 (nI r.2)) 33 3 (nI r.2)
theorem isDg_i {x : Nat} (h : isDg x = true) : 48 ≤ x ∧ x ≤ 57 := by
  unfold isDg at h; rw [Bool.and_eq_true, decide_eq_true_eq, decide_eq_true_eq] at h; exact h
theorem nm_le {T : Nat → Nat} {n c : Nat} (hcn : c ≤ n) : (nmN T n c).2 ≤ n := by
  have hk := scL_le (g := fun k => isSp (T k)) (n - c) c hcn
  unfold nmN
  split
  · split
    · next q => split
                · next q2 => show skS T n c + 2 ≤ n; omega
                · show skS T n c + 1 ≤ n; omega
    · exact hk
  · exact hcn
theorem nm_lt {T : Nat → Nat} {n c x : Nat} (h : (nmN T n c).1 = some x) : x < 100 := by
  unfold nmN at h
  split at h
  · split at h
    · next q => split at h
                · next q2 =>
                  cases h
                  have := isDg_i q.2
                  have := isDg_i q2.2
                  omega
                · cases h
                  have := isDg_i q.2
                  omega
    · cases h
  · cases h
set_option maxRecDepth 100000 in
theorem ev_X1_readNumber (G : Gt) {n c : Nat} {T : Nat → Nat} {μ : Mm} (h : txOK μ n T) (hc : μ.1 33 2 = nI c) (hcn : c ≤ n) : EVw G 2 Y_X1_readNumber [rf G 33] μ (.int (oI (nmN T n c).1)) (nmW (nmN T n c) μ) := by
  have hn := h.le
  have hT : ∀ j, j < n → T j < 128 := fun j hj => h.tl hj
  refine ev_of (by decide) (Nat.le_of_ble_eq_true rfl) ?_
  show Zs G 2 Y_X1_readNumber (fnN G _) 0 [(0, rf G 33)] [] μ
  refine z_aload_n dX1_readNumber_0 rfl ?_
  refine z_cV0 dX1_readNumber_1 lk_X1_45 (by decide) ⟨by decide, _, rfl⟩ rfl (Nat.le_of_ble_eq_true rfl) (ev_X1_peek G h hc hcn) ?_
  refine z_bipush (v := nI 32) dX1_readNumber_4 (by decide) ?_
  refine z_icmp_eq (tgt := 19) dX1_readNumber_6 (by decide) (fun c6 => ?_) (fun c6 => ?_)
  · have e1 := (pkn_eq hT (by decide)).mp c6
    have hk := scL_le (g := fun k => isSp (T k)) (n - c) c hcn
    refine z_aload_n dX1_readNumber_19 rfl ?_
    refine z_cV0v dX1_readNumber_20 lk_X1_42 (by decide) ⟨by decide, _, rfl⟩ rfl (Nat.le_of_ble_eq_true rfl) (ev_X1_skipSpaces G h hc hcn) ?_
    have h2 := h.u (k := 2) (by decide) (nI (skS T n c))
    refine z_aload_n dX1_readNumber_23 rfl ?_
    refine z_cV0 dX1_readNumber_24 lk_X1_45 (by decide) ⟨by decide, _, rfl⟩ rfl (Nat.le_of_ble_eq_true rfl) (ev_X1_peek G h2 (uF_s _ _ _ _) hk) ?_
    refine z_cS1 dX1_readNumber_27 lk_X1_99 (by decide) (Nat.le_of_ble_eq_true rfl) (ev_isDigit_pk G hT) ?_
    refine z_ifB_ne (tgt := 43) dX1_readNumber_30 (by decide) (fun c30 => ?_) (fun c30 => ?_)
    · have e2 : skS T n c < n ∧ isDg (T (skS T n c)) = true := by rw [Bool.and_eq_true, decide_eq_true_eq] at c30; exact c30
      have ed := isDg_i e2.2
      have ht := hT _ e2.1
      refine z_aload_n dX1_readNumber_43 rfl ?_
      refine z_cV0 dX1_readNumber_44 lk_X1_45 (by decide) ⟨by decide, _, rfl⟩ rfl (Nat.le_of_ble_eq_true rfl) (ev_X1_peek G h2 (uF_s _ _ _ _) hk) ?_
      rw [pkn_in e2.1]
      refine z_bipush (v := nI 48) dX1_readNumber_47 (by decide) ?_
      refine z_isubN dX1_readNumber_49 (by omega) ?_
      refine z_istore_n (lv' := [(1, _), (0, _)]) dX1_readNumber_50 rfl (by decide) rfl ?_
      refine z_aload_n dX1_readNumber_51 rfl ?_
      refine z_dup dX1_readNumber_52 rfl ?_
      refine z_getI dX1_readNumber_53 fl_X1_19 ⟨by decide, _, rfl, rfl⟩ (uF_s _ _ _ _) ?_
      refine z_iconst (v := nI 1) dX1_readNumber_56 (by decide) ?_
      refine z_iaddN dX1_readNumber_57 ?_
      refine z_putI dX1_readNumber_58 fp_X1_19 ⟨by decide, _, rfl, rfl⟩ ?_
      rw [uF_uF]
      have h3 := h.u (k := 2) (by decide) (nI (skS T n c + 1))
      refine z_aload_n dX1_readNumber_61 rfl ?_
      refine z_cV0 dX1_readNumber_62 lk_X1_45 (by decide) ⟨by decide, _, rfl⟩ rfl (Nat.le_of_ble_eq_true rfl) (ev_X1_peek G h3 (uF_s _ _ _ _) (by omega)) ?_
      refine z_cS1 dX1_readNumber_65 lk_X1_99 (by decide) (Nat.le_of_ble_eq_true rfl) (ev_isDigit_pk G hT) ?_
      refine z_ifB_eq (tgt := 94) dX1_readNumber_68 (by decide) (fun c68 => ?_) (fun c68 => ?_)
      · have e3 : ¬ (skS T n c + 1 < n ∧ isDg (T (skS T n c + 1)) = true) := by rintro ⟨q1, q2⟩; rw [decide_eq_true q1, q2] at c68; cases c68
        refine z_iload_n dX1_readNumber_94 rfl ?_
        exact z_ret (ty := none) (v := none) rfl dX1_readNumber_95 ⟨by rw [show nmN T n c = (some (T (skS T n c) - 48), (skS T n c) + 1) by unfold nmN; rw [if_pos e1, if_pos e2, if_neg e3]]; rfl, by rw [show nmN T n c = (some (T (skS T n c) - 48), (skS T n c) + 1) by unfold nmN; rw [if_pos e1, if_pos e2, if_neg e3]]; rfl⟩
      · have e3 : skS T n c + 1 < n ∧ isDg (T (skS T n c + 1)) = true := by rw [Bool.and_eq_true, decide_eq_true_eq] at c68; exact c68
        have ed3 := isDg_i e3.2
        have ht3 := hT _ e3.1
        refine z_bipush (v := nI 10) dX1_readNumber_71 (by decide) ?_
        refine z_iload_n dX1_readNumber_73 rfl ?_
        refine z_imulN dX1_readNumber_74 ?_
        refine z_aload_n dX1_readNumber_75 rfl ?_
        refine z_cV0 dX1_readNumber_76 lk_X1_45 (by decide) ⟨by decide, _, rfl⟩ rfl (Nat.le_of_ble_eq_true rfl) (ev_X1_peek G h3 (uF_s _ _ _ _) (by omega)) ?_
        rw [pkn_in e3.1]
        refine z_iaddN dX1_readNumber_79 ?_
        refine z_bipush (v := nI 48) dX1_readNumber_80 (by decide) ?_
        refine z_isubN dX1_readNumber_82 (by omega) ?_
        refine z_istore_n (lv' := [(1, _), (0, _)]) dX1_readNumber_83 rfl (by decide) rfl ?_
        refine z_aload_n dX1_readNumber_84 rfl ?_
        refine z_dup dX1_readNumber_85 rfl ?_
        refine z_getI dX1_readNumber_86 fl_X1_19 ⟨by decide, _, rfl, rfl⟩ (uF_s _ _ _ _) ?_
        refine z_iconst (v := nI 1) dX1_readNumber_89 (by decide) ?_
        refine z_iaddN dX1_readNumber_90 ?_
        refine z_putI dX1_readNumber_91 fp_X1_19 ⟨by decide, _, rfl, rfl⟩ ?_
        refine z_iload_n dX1_readNumber_94 rfl ?_
        exact z_ret (ty := none) (v := none) rfl dX1_readNumber_95 ⟨by rw [show nmN T n c = (some (10 * (T (skS T n c) - 48) + (T ((skS T n c) + 1) - 48)), (skS T n c) + 2) by unfold nmN; rw [if_pos e1, if_pos e2, if_pos e3], show 10 * (T (skS T n c) - 48) + T ((skS T n c) + 1) - 48 = 10 * (T (skS T n c) - 48) + (T ((skS T n c) + 1) - 48) by omega]; rfl, by rw [show nmN T n c = (some (10 * (T (skS T n c) - 48) + (T ((skS T n c) + 1) - 48)), (skS T n c) + 2) by unfold nmN; rw [if_pos e1, if_pos e2, if_pos e3], uF_uF]; rfl⟩
    · have e2 : ¬ (skS T n c < n ∧ isDg (T (skS T n c)) = true) := by rintro ⟨q1, q2⟩; rw [decide_eq_true q1, q2] at c30; cases c30
      refine z_aload_n dX1_readNumber_33 rfl ?_
      refine z_aload_n dX1_readNumber_34 rfl ?_
      refine z_getI dX1_readNumber_35 fl_X1_19 ⟨by decide, _, rfl, rfl⟩ (uF_s _ _ _ _) ?_
      refine z_cV1v dX1_readNumber_38 lk_X1_72 (by decide) ⟨by decide, _, rfl⟩ rfl (Nat.le_of_ble_eq_true rfl) (ev_X1_failAt G) ?_
      refine z_iconst (v := -1) dX1_readNumber_41 (by decide) ?_
      exact z_ret (ty := none) (v := none) rfl dX1_readNumber_42 ⟨by rw [show nmN T n c = (none, (skS T n c)) by unfold nmN; rw [if_pos e1, if_neg e2]]; rfl, by rw [show nmN T n c = (none, (skS T n c)) by unfold nmN; rw [if_pos e1, if_neg e2]]; rfl⟩
  · refine z_aload_n dX1_readNumber_9 rfl ?_
    refine z_aload_n dX1_readNumber_10 rfl ?_
    refine z_getI dX1_readNumber_11 fl_X1_19 ⟨by decide, _, rfl, rfl⟩ hc ?_
    refine z_cV1v dX1_readNumber_14 lk_X1_72 (by decide) ⟨by decide, _, rfl⟩ rfl (Nat.le_of_ble_eq_true rfl) (ev_X1_failAt G) ?_
    refine z_iconst (v := -1) dX1_readNumber_17 (by decide) ?_
    exact z_ret (ty := none) (v := none) rfl dX1_readNumber_18 ⟨by rw [show nmN T n c = (none, c) by unfold nmN; rw [if_neg (fun q => c6 ((pkn_eq hT (by decide)).mpr q))]]; rfl, by rw [show nmN T n c = (none, c) by unfold nmN; rw [if_neg (fun q => c6 ((pkn_eq hT (by decide)).mpr q))]]; show _ = uF (uF μ 33 2 (nI c)) 33 3 (nI c); rw [uF_id hc]⟩
/-- do the letters of the i-th word stand from s to e -/
def sdL (T : Nat → Nat) (i s : Nat) : Nat → Bool
  | 0 => true
  | k + 1 => sdL T i s k && decide (wB i k = T (s + k))
def sdN (T : Nat → Nat) (i s e : Nat) : Bool := decide (wL i = e - s) && sdL T i s (wL i)
theorem sdL_false {T : Nat → Nat} {i s j : Nat} (h : wB i j ≠ T (s + j)) : ∀ {k : Nat}, j < k → sdL T i s k = false := by
  intro k
  induction k with
  | zero => intro q; omega
  | succ k ih =>
    intro q
    unfold sdL
    by_cases e : j = k
    · subst e; rw [decide_eq_false h, Bool.and_false]
    · rw [ih (by omega)]; rfl
set_option maxRecDepth 100000 in
theorem lp_X1_standsBetween (G : Gt) {n i s e : Nat} {T : Nat → Nat} {μ : Mm} (h : txOK μ n T) (hi : i < 5) (hse : s ≤ e) (hen : e ≤ n) (hw : wL i = e - s) : ∀ (f k : Nat), k + f = wL i → sdL T i s k = true →
    Zs G 4 Y_X1_standsBetween (fnN G (fun v u => v = some (.int (bI (sdL T i s (wL i)))) ∧ u = μ)) 15 [(0, rf G 33), (1, kf G (20 + i)), (2, .int (nI s)), (3, .int (nI e)), (4, .int (nI k))] [] μ := by
  intro f
  have hn := h.le
  have hwl := wL_ok i hi
  induction f with
  | zero =>
    intro k hf hk
    refine z_iload dX1_standsBetween_15 rfl ?_
    refine z_kload_n dX1_standsBetween_17 rfl ?_
    refine z_cK0 dX1_standsBetween_18 lk_X1_88 (by decide) hi rfl (Nat.le_of_ble_eq_true rfl) (ev_J0_length_8abf5 G hi) ?_
    refine z_icmpN_ge (tgt := 50) dX1_standsBetween_21 (by decide) (by omega) (by omega) (fun c21 => ?_) (fun c21 => absurd c21 (by omega))
    refine z_iconst (v := nI 1) dX1_standsBetween_50 (by decide) ?_
    exact z_zret rfl rfl dX1_standsBetween_51 ⟨by rw [show wL i = k by omega, hk]; rfl, rfl⟩
  | succ f ih =>
    intro k hf hk
    have hb := (wB_ok i hi k (by omega)).2
    have ht := h.tl (show s + k < n by omega)
    refine z_iload dX1_standsBetween_15 rfl ?_
    refine z_kload_n dX1_standsBetween_17 rfl ?_
    refine z_cK0 dX1_standsBetween_18 lk_X1_88 (by decide) hi rfl (Nat.le_of_ble_eq_true rfl) (ev_J0_length_8abf5 G hi) ?_
    refine z_icmpN_ge (tgt := 50) dX1_standsBetween_21 (by decide) (by omega) (by omega) (fun c21 => absurd c21 (by omega)) (fun c21 => ?_)
    refine z_kload_n dX1_standsBetween_24 rfl ?_
    refine z_iload dX1_standsBetween_25 rfl ?_
    refine z_cK1 dX1_standsBetween_27 lk_X1_92 (by decide) hi rfl (Nat.le_of_ble_eq_true rfl) (ev_J0_charAt_5068e G hi (show k < wL i by omega)) ?_
    refine z_aload_n dX1_standsBetween_30 rfl ?_
    refine z_getR (j := 34) dX1_standsBetween_31 fl_X1_9 ⟨by decide, _, rfl, rfl⟩ ?_
    refine z_iload_n dX1_standsBetween_34 rfl ?_
    refine z_iload dX1_standsBetween_35 rfl ?_
    refine z_iaddN dX1_standsBetween_37 ?_
    refine z_ialdN dX1_standsBetween_38 ⟨by decide, rfl⟩ (by omega) (by decide) (h.t (show s + k < n by omega)) ?_
    refine z_icmpN_eq (tgt := 44) dX1_standsBetween_39 (by decide) (by omega) (by omega) (fun c39 => ?_) (fun c39 => ?_)
    · refine z_iinc (v := nI (k + 1)) (lv' := [(4, _), (0, _), (1, _), (2, _), (3, _)]) dX1_standsBetween_44 rfl (nI_inc _ 1) (by decide) rfl ?_
      refine z_goto (tgt := 15) dX1_standsBetween_47 (by decide) ?_
      have q := ih (k + 1) (by omega) (by show (sdL T i s k && decide (wB i k = T (s + k))) = true; rw [hk, decide_eq_true c39]; rfl)
      refine z_sub (lv' := [(0, _), (1, _), (2, _), (3, _), (4, _)]) rfl ?_
      exact q
    · refine z_iconst (v := nI 0) dX1_standsBetween_42 (by decide) ?_
      exact z_zret rfl rfl dX1_standsBetween_43 ⟨by rw [sdL_false c39 (by omega)]; rfl, rfl⟩
set_option maxRecDepth 100000 in
theorem ev_X1_standsBetween (G : Gt) {n i s e : Nat} {T : Nat → Nat} {μ : Mm} (h : txOK μ n T) (hi : i < 5) (hse : s ≤ e) (hen : e ≤ n) : EVr G 4 Y_X1_standsBetween [rf G 33, kf G (20 + i), .int (nI s), .int (nI e)] μ (.int (bI (sdN T i s e))) := by
  have hn := h.le
  have hwl := wL_ok i hi
  refine ev_of (by decide) (Nat.le_of_ble_eq_true rfl) ?_
  show Zs G 4 Y_X1_standsBetween (fnN G _) 0 [(0, rf G 33), (1, kf G (20 + i)), (2, .int (nI s)), (3, .int (nI e))] [] μ
  refine z_kload_n dX1_standsBetween_0 rfl ?_
  refine z_cK0 dX1_standsBetween_1 lk_X1_88 (by decide) hi rfl (Nat.le_of_ble_eq_true rfl) (ev_J0_length_8abf5 G hi) ?_
  refine z_iload_n dX1_standsBetween_4 rfl ?_
  refine z_iload_n dX1_standsBetween_5 rfl ?_
  refine z_isubN dX1_standsBetween_6 (by omega) ?_
  refine z_icmpN_eq (tgt := 12) dX1_standsBetween_7 (by decide) (by omega) (by omega) (fun c7 => ?_) (fun c7 => ?_)
  · refine z_iconst (v := nI 0) dX1_standsBetween_12 (by decide) ?_
    refine z_istore (lv' := [(4, _), (0, _), (1, _), (2, _), (3, _)]) dX1_standsBetween_13 (by decide) rfl ?_
    refine z_sub (lv' := [(0, _), (1, _), (2, _), (3, _), (4, _)]) rfl ?_
    unfold sdN
    rw [decide_eq_true c7, Bool.true_and]
    exact lp_X1_standsBetween G h hi hse hen c7 (wL i) 0 (by omega) rfl
  · refine z_iconst (v := nI 0) dX1_standsBetween_10 (by decide) ?_
    exact z_zret rfl rfl dX1_standsBetween_11 ⟨by unfold sdN; rw [decide_eq_false c7]; rfl, rfl⟩
/-- the first word that stands from s to e -/
def wdN (T : Nat → Nat) (s e : Nat) : Nat → Option Nat
  | 0 => none
  | k + 1 => match wdN T s e k with
    | some i => some i
    | none => if sdN T k s e then some k else none
theorem wdN_some {T : Nat → Nat} {s e k i : Nat} (h1 : wdN T s e k = none) (h2 : sdN T k s e = true) (hi : i = k) : ∀ {m : Nat}, k < m → wdN T s e m = some i := by
  subst hi
  intro m
  induction m with
  | zero => intro q; omega
  | succ m ih =>
    intro q
    unfold wdN
    by_cases e2 : i = m
    · subst e2; rw [h1, h2]; rfl
    · rw [ih (by omega)]
theorem nl_words : Cond.fieldLinkNest RX1 76 "ZeroParts" "WORDS" "[LZeroParts$Word;" "ZeroParts" ∈ nestW := List.mem_of_getElem? (i := 21) (by decide +kernel)
theorem nl_let : Cond.fieldLinkNest RX1 80 "ZeroParts$Word" "letters" "Ljava/lang/String;" "ZeroParts" ∈ nestW := List.mem_of_getElem? (i := 22) (by decide +kernel)
theorem nl_num : Cond.fieldLinkNest RX1 53 "ZeroParts$Word" "numbers" "I" "ZeroParts" ∈ nestW := List.mem_of_getElem? (i := 23) (by decide +kernel)
set_option maxRecDepth 100000 in
theorem lp_X1_wordBetween (G : Gt) {n s e : Nat} {T : Nat → Nat} {μ : Mm} (h : txOK μ n T) (hse : s ≤ e) (hen : e ≤ n) : ∀ (f k : Nat), k + f = 5 → wdN T s e k = none →
    Zs G 5 Y_X1_wordBetween (fnN G (fun v u => v = some (wv G ((wdN T s e 5).map (10 + ·))) ∧ u = μ)) 2 [(0, rf G 33), (1, .int (nI s)), (2, .int (nI e)), (3, .int (nI k))] [] μ := by
  intro f
  induction f with
  | zero =>
    intro k hf hk
    have hk5 : k = 5 := by omega
    subst hk5
    refine z_iload_n dX1_wordBetween_2 rfl ?_
    refine z_words dX1_wordBetween_3 nl_words ?_
    refine z_wordsLen dX1_wordBetween_6 ?_
    refine z_icmpN_ge (tgt := 39) dX1_wordBetween_7 (by decide) (by omega) (by omega) (fun c7 => ?_) (fun c7 => absurd c7 (by omega))
    refine z_null dX1_wordBetween_39 ?_
    exact z_aret rfl (Or.inl rfl) dX1_wordBetween_40 ⟨by rw [hk]; rfl, rfl⟩
  | succ f ih =>
    intro k hf hk
    refine z_iload_n dX1_wordBetween_2 rfl ?_
    refine z_words dX1_wordBetween_3 nl_words ?_
    refine z_wordsLen dX1_wordBetween_6 ?_
    refine z_icmpN_ge (tgt := 39) dX1_wordBetween_7 (by decide) (by omega) (by omega) (fun c7 => absurd c7 (by omega)) (fun c7 => ?_)
    refine z_aload_n dX1_wordBetween_10 rfl ?_
    refine z_words dX1_wordBetween_11 nl_words ?_
    refine z_iload_n dX1_wordBetween_14 rfl ?_
    refine z_wordAt (i := k) (by omega) dX1_wordBetween_15 ?_
    refine z_letters (i := k) (by omega) dX1_wordBetween_16 nl_let ?_
    refine z_iload_n dX1_wordBetween_19 rfl ?_
    refine z_iload_n dX1_wordBetween_20 rfl ?_
    refine z_cV3 dX1_wordBetween_21 lk_X1_84 (by decide) ⟨by decide, _, rfl⟩ rfl (Nat.le_of_ble_eq_true rfl) (ev_X1_standsBetween G h (show k < 5 by omega) hse hen) ?_
    refine z_ifB_eq (tgt := 33) dX1_wordBetween_24 (by decide) (fun c24 => ?_) (fun c24 => ?_)
    · refine z_iinc (v := nI (k + 1)) (lv' := [(3, _), (0, _), (1, _), (2, _)]) dX1_wordBetween_33 rfl (nI_inc _ 1) (by decide) rfl ?_
      refine z_goto (tgt := 2) dX1_wordBetween_36 (by decide) ?_
      have q := ih (k + 1) (by omega) (by show (match wdN T s e k with | some i => some i | none => if sdN T k s e then some k else none) = none; rw [hk, c24]; rfl)
      refine z_sub (lv' := [(0, _), (1, _), (2, _), (3, _)]) rfl ?_
      exact q
    · refine z_words dX1_wordBetween_27 nl_words ?_
      refine z_iload_n dX1_wordBetween_30 rfl ?_
      refine z_wordAt (i := k) (by omega) dX1_wordBetween_31 ?_
      exact z_aret rfl (Or.inr ⟨_, rfl⟩) dX1_wordBetween_32 ⟨by rw [wdN_some hk c24 rfl (by omega)]; rfl, rfl⟩
set_option maxRecDepth 100000 in
theorem ev_X1_wordBetween (G : Gt) {n s e : Nat} {T : Nat → Nat} {μ : Mm} (h : txOK μ n T) (hse : s ≤ e) (hen : e ≤ n) : EV G 5 Y_X1_wordBetween [rf G 33, .int (nI s), .int (nI e)] μ (fun v u => v = some (wv G ((wdN T s e 5).map (10 + ·))) ∧ u = μ) := by
  refine ev_of (by decide) (Nat.le_of_ble_eq_true rfl) ?_
  show Zs G 5 Y_X1_wordBetween (fnN G _) 0 [(0, rf G 33), (1, .int (nI s)), (2, .int (nI e))] [] μ
  refine z_iconst (v := nI 0) dX1_wordBetween_0 (by decide) ?_
  refine z_istore_n (lv' := [(3, _), (0, _), (1, _), (2, _)]) dX1_wordBetween_1 rfl (by decide) rfl ?_
  refine z_sub (lv' := [(0, _), (1, _), (2, _), (3, _)]) rfl ?_
  exact lp_X1_wordBetween G h hse hen 5 0 rfl rfl
