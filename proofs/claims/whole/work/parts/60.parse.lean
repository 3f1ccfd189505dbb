theorem uRF_s (μ : Mm) (i k : Nat) (x : Int32) (i' j : Nat) (y : Int32) : (uR (uF μ i k x) i' j y).1 i k = x := uF_s _ _ _ _
theorem ev_X8_hereN (G : Gt) {n : Nat} {T : Nat → Nat} {μ : Mm} (ht : mtOK μ n T) {c : Nat} (hc : μ.1 35 8 = nI c) (h : c < n) : EVr G 0 Y_X8_here [rf G 35] μ (.int (nI (T c))) := by
  have hn := ht.2.1
  have q := ev_X8_here G ht hc (by omega)
  rw [pkn_in h] at q
  exact q
def dgB (T : Nat → Nat) (n c : Nat) : Bool := decide (c < n) && isDg (T c)
theorem ev_X8_dg (G : Gt) {n c : Nat} {T : Nat → Nat} {μ : Mm} (hT : ∀ j, j < n → T j < 128) : EVr G 0 Y_X8_within [.int (pkN T n c), .int (nI 48), .int (nI 57)] μ (.int (bI (dgB T n c))) := by
  have q := ev_X8_within G (x := pkN T n c) (l := nI 48) (h := nI 57) (μ := μ)
  rw [wi_pk hT (by decide) (by decide)] at q
  exact q
theorem ev_X8_lt (G : Gt) {n c : Nat} {T : Nat → Nat} {μ : Mm} (hT : ∀ j, j < n → T j < 128) : EVr G 0 Y_X8_within [.int (pkN T n c), .int (nI 97), .int (nI 122)] μ (.int (bI (decide (c < n) && isLt (T c)))) := by
  have q := ev_X8_within G (x := pkN T n c) (l := nI 97) (h := nI 122) (μ := μ)
  rw [wi_pk hT (by decide) (by decide)] at q
  exact q
theorem dgB_t {T : Nat → Nat} {n c : Nat} (h : dgB T n c = true) : c < n ∧ isDg (T c) = true := by unfold dgB at h; rw [Bool.and_eq_true, decide_eq_true_eq] at h; exact h
theorem dgB_f {T : Nat → Nat} {n c : Nat} (h : dgB T n c = false) : ¬ (c < n ∧ isDg (T c) = true) := fun q => by
  unfold dgB at h; rw [decide_eq_true q.1, q.2] at h; cases h
/-- a number as the reference reads it -/
def mnN (T : Nat → Nat) (n c : Nat) : Option Nat × Nat :=
  if c < n ∧ T c = 32 then
    (if skS T n c < n ∧ isDg (T (skS T n c)) = true then
      (if skS T n c + 1 < n ∧ isDg (T (skS T n c + 1)) = true then
        (if skS T n c + 2 < n ∧ isDg (T (skS T n c + 2)) = true then (none, skS T n c + 2)
         else (some (10 * (T (skS T n c) - 48) + (T (skS T n c + 1) - 48)), skS T n c + 2))
       else (some (T (skS T n c) - 48), skS T n c + 1))
     else (none, skS T n c))
  else (none, c)
def nmP (T : Nat → Nat) (n c k : Nat) (μ : Mm) (v : Option Value) (u : Mm) : Prop := psF μ u ∧ match (mnN T n c).1 with
  | some x => v = some (.int (bI true)) ∧ u.1 35 8 = nI (mnN T n c).2 ∧ u.2.1 39 k = nI x ∧ (∀ j : Nat, j ≠ k → u.2.1 39 j = μ.2.1 39 j) ∧ u.1 35 10 = μ.1 35 10 ∧ u.1 35 9 = μ.1 35 9
  | none => v = some (.int (bI false)) ∧ u.1 35 10 = nI (mnN T n c).2
theorem nmP_n {T : Nat → Nat} {n c k p : Nat} {μ u : Mm} {v : Option Value} (h : mnN T n c = (none, p)) (h1 : psF μ u) (h2 : v = some (.int (bI false))) (h3 : u.1 35 10 = nI p) : nmP T n c k μ v u := by
  unfold nmP; rw [h]; exact ⟨h1, h2, h3⟩
theorem nmP_s {T : Nat → Nat} {n c k p x : Nat} {μ u : Mm} {v : Option Value} (h : mnN T n c = (some x, p)) (h1 : psF μ u) (h2 : v = some (.int (bI true))) (h3 : u.1 35 8 = nI p) (h4 : u.2.1 39 k = nI x) (h5 : ∀ j : Nat, j ≠ k → u.2.1 39 j = μ.2.1 39 j) (h6 : u.1 35 10 = μ.1 35 10) (h7 : u.1 35 9 = μ.1 35 9) : nmP T n c k μ v u := by
  unfold nmP; rw [h]; exact ⟨h1, h2, h3, h4, h5, h6, h7⟩
theorem nmP_n' {T : Nat → Nat} {n c k p : Nat} {μ u : Mm} {v : Option Value} (h : mnN T n c = (none, p)) (q : nmP T n c k μ v u) : psF μ u ∧ v = some (.int (bI false)) ∧ u.1 35 10 = nI p := by
  unfold nmP at q; rw [h] at q; exact q
theorem nmP_s' {T : Nat → Nat} {n c k p x : Nat} {μ u : Mm} {v : Option Value} (h : mnN T n c = (some x, p)) (q : nmP T n c k μ v u) : psF μ u ∧ v = some (.int (bI true)) ∧ u.1 35 8 = nI p ∧ u.2.1 39 k = nI x ∧ (∀ j : Nat, j ≠ k → u.2.1 39 j = μ.2.1 39 j) ∧ u.1 35 10 = μ.1 35 10 ∧ u.1 35 9 = μ.1 35 9 := by
  unfold nmP at q; rw [h] at q; exact q
set_option maxRecDepth 100000 in
theorem ev_X8_number (G : Gt) {n : Nat} {T : Nat → Nat} {μ : Mm} (ht : mtOK μ n T) {c : Nat} (hc : μ.1 35 8 = nI c) (hcn : c ≤ n) {k : Nat} (hk : k < 2) : EV G 2 Y_X8_number [rf G 35, .int (nI k)] μ (nmP T n c k μ) := by
  have hn := ht.2.1
  have hT : ∀ j, j < n → T j < 128 := fun j hj => (ht.2.2 j hj).2
  refine ev_of (by decide) (Nat.le_of_ble_eq_true rfl) ?_
  show Zs G 2 Y_X8_number (fnN G _) 0 [(0, rf G 35), (1, .int (nI k))] [] μ
  refine z_aload_n dX8_number_0 rfl ?_
  have hr := ev_X8_here G ht hc (by omega)
  refine z_cV0 dX8_number_1 lk_X8_169 (by decide) ⟨by decide, _, rfl⟩ rfl (Nat.le_of_ble_eq_true rfl) (hr) ?_
  refine z_bipush (v := nI 32) dX8_number_4 (by decide) ?_
  refine z_icmp_eq (tgt := 18) dX8_number_6 (by decide) (fun c6 => ?_) (fun c6 => ?_)
  · have e1 := (pkn_eq hT (by decide)).mp c6
    have hsk := scL_le (g := fun k => isSp (T k)) (n - c) c hcn
    have hsk : skS T n c ≤ n := hsk
    refine z_aload_n dX8_number_18 rfl ?_
    refine z_cV0v dX8_number_19 lk_X8_182 (by decide) ⟨by decide, _, rfl⟩ rfl (Nat.le_of_ble_eq_true rfl) (ev_X8_skips G ht hc hcn) ?_
    refine z_aload_n dX8_number_22 rfl ?_
    refine z_getI dX8_number_23 fl_X8_166 ⟨by decide, _, rfl, rfl⟩ (uF_s _ _ _ _) ?_
    refine z_istore_n (lv' := [(2, _), (0, _), (1, _)]) dX8_number_26 rfl (by decide) rfl ?_
    refine z_aload_n dX8_number_27 rfl ?_
    refine z_getR (j := 39) dX8_number_28 fl_X8_19 ⟨by decide, _, rfl, rfl⟩ ?_
    refine z_iload_n dX8_number_31 rfl ?_
    refine z_iconst (v := nI 0) dX8_number_32 (by decide) ?_
    refine z_iastN dX8_number_33 ⟨by decide, rfl⟩ (by omega) (by decide) ?_
    refine z_aload_n dX8_number_34 rfl ?_
    refine z_cV0 dX8_number_35 lk_X8_169 (by decide) ⟨by decide, _, rfl⟩ rfl (Nat.le_of_ble_eq_true rfl) (ev_X8_here G (c := (skS T n c)) (ht.p ((psF.rf.u8 _).r _ _)) (uRF_s _ _ _ _ _ _ _) (by omega)) ?_
    refine z_bipush (v := nI 48) dX8_number_38 (by decide) ?_
    refine z_bipush (v := nI 57) dX8_number_40 (by decide) ?_
    refine z_cS3 dX8_number_42 lk_X8_60 (by decide) (Nat.le_of_ble_eq_true rfl) (ev_X8_dg G hT) ?_
    refine z_ifB_eq (tgt := 103) dX8_number_45 (by decide) (fun c45 => ?_) (fun c45 => ?_)
    · refine z_aload_n dX8_number_103 rfl ?_
      refine z_getI dX8_number_104 fl_X8_166 ⟨by decide, _, rfl, rfl⟩ (uRF_s _ _ _ _ _ _ _) ?_
      refine z_iload_n dX8_number_107 rfl ?_
      refine z_icmpN_gt (tgt := 122) dX8_number_108 (by decide) (by omega) (by omega) (fun c108 => absurd c108 (by omega)) (fun c108 => ?_)
      refine z_aload_n dX8_number_111 rfl ?_
      refine z_aload_n dX8_number_112 rfl ?_
      refine z_getI dX8_number_113 fl_X8_166 ⟨by decide, _, rfl, rfl⟩ (uRF_s _ _ _ _ _ _ _) ?_
      refine z_cV1w dX8_number_116 lk_X8_179 (by decide) ⟨by decide, _, rfl⟩ rfl (Nat.le_of_ble_eq_true rfl) (ev_X8_fails G) ?_
      refine z_ifB_eq (tgt := 126) dX8_number_119 (by decide) (fun c119 => ?_) (fun c119 => absurd c119 (by decide))
      refine z_iconst (v := nI 0) dX8_number_126 (by decide) ?_
      exact z_zret rfl rfl dX8_number_127 (nmP_n (by unfold mnN; rw [if_pos e1, if_neg (dgB_f c45)]) (((psF.rf.u8 _).r _ _).u10 _) rfl (uF_s _ _ _ _))
    · have e2 := dgB_t c45
      have e2d := isDg_i e2.2
      refine z_aload_n dX8_number_48 rfl ?_
      refine z_getI dX8_number_49 fl_X8_166 ⟨by decide, _, rfl, rfl⟩ (uRF_s _ _ _ _ _ _ _) ?_
      refine z_iload_n dX8_number_52 rfl ?_
      refine z_isubN dX8_number_53 (by omega) ?_
      refine z_iconst (v := nI 2) dX8_number_54 (by decide) ?_
      refine z_icmpN_ne (tgt := 67) dX8_number_55 (by decide) (by omega) (by omega) (fun c55 => ?_) (fun c55 => absurd c55 (by omega))
      refine z_aload_n dX8_number_67 rfl ?_
      refine z_getR (j := 39) dX8_number_68 fl_X8_19 ⟨by decide, _, rfl, rfl⟩ ?_
      refine z_iload_n dX8_number_71 rfl ?_
      refine z_bipush (v := nI 10) dX8_number_72 (by decide) ?_
      refine z_aload_n dX8_number_74 rfl ?_
      refine z_getR (j := 39) dX8_number_75 fl_X8_19 ⟨by decide, _, rfl, rfl⟩ ?_
      refine z_iload_n dX8_number_78 rfl ?_
      refine z_ialdN dX8_number_79 ⟨by decide, rfl⟩ (by omega) (by decide) (show _ = nI 0 by rw [uR_s, upd_s]) ?_
      refine z_imulN dX8_number_80 ?_
      refine z_aload_n dX8_number_81 rfl ?_
      refine z_cV0 dX8_number_82 lk_X8_169 (by decide) ⟨by decide, _, rfl⟩ rfl (Nat.le_of_ble_eq_true rfl) (ev_X8_hereN G (c := (skS T n c)) (ht.p ((psF.rf.u8 _).r _ _)) (uRF_s _ _ _ _ _ _ _) e2.1) ?_
      refine z_iaddN dX8_number_85 ?_
      refine z_bipush (v := nI 48) dX8_number_86 (by decide) ?_
      refine z_isubN dX8_number_88 (by omega) ?_
      refine z_iastN dX8_number_89 ⟨by decide, rfl⟩ (by omega) (by decide) ?_
      refine z_aload_n dX8_number_90 rfl ?_
      refine z_dup dX8_number_91 rfl ?_
      refine z_getI dX8_number_92 fl_X8_166 ⟨by decide, _, rfl, rfl⟩ (show (uF μ 35 8 (nI (skS T n c))).1 35 8 = nI (skS T n c) from uF_s _ _ _ _) ?_
      refine z_iconst (v := nI 1) dX8_number_95 (by decide) ?_
      refine z_iaddN dX8_number_96 ?_
      refine z_putI dX8_number_97 fp_X8_166 ⟨by decide, _, rfl, rfl⟩ ?_
      refine z_goto (tgt := 34) dX8_number_100 (by decide) ?_
      refine z_aload_n dX8_number_34 rfl ?_
      refine z_cV0 dX8_number_35 lk_X8_169 (by decide) ⟨by decide, _, rfl⟩ rfl (Nat.le_of_ble_eq_true rfl) (ev_X8_here G (c := ((skS T n c) + 1)) (ht.p ((((psF.rf.u8 _).r _ _).r _ _).u8 _)) (uF_s _ _ _ _) (by omega)) ?_
      refine z_bipush (v := nI 48) dX8_number_38 (by decide) ?_
      refine z_bipush (v := nI 57) dX8_number_40 (by decide) ?_
      refine z_cS3 dX8_number_42 lk_X8_60 (by decide) (Nat.le_of_ble_eq_true rfl) (ev_X8_dg G hT) ?_
      refine z_ifB_eq (tgt := 103) dX8_number_45 (by decide) (fun c45 => ?_) (fun c45 => ?_)
      · refine z_aload_n dX8_number_103 rfl ?_
        refine z_getI dX8_number_104 fl_X8_166 ⟨by decide, _, rfl, rfl⟩ (uF_s _ _ _ _) ?_
        refine z_iload_n dX8_number_107 rfl ?_
        refine z_icmpN_gt (tgt := 122) dX8_number_108 (by decide) (by omega) (by omega) (fun c108 => ?_) (fun c108 => absurd c108 (by omega))
        refine z_iconst (v := nI 1) dX8_number_122 (by decide) ?_
        refine z_goto (tgt := 127) dX8_number_123 (by decide) ?_
        exact z_zret rfl rfl dX8_number_127 (nmP_s (by unfold mnN; rw [if_pos e1, if_pos e2, if_neg (dgB_f (c := skS T n c + 1) c45)]) ((((psF.rf.u8 _).r _ _).r _ _).u8 _) rfl (uF_s _ _ _ _) (by rw [R_uF, uR_s, upd_s]; congr 1; omega) (fun j hj => by rw [R_uF, uR_s, upd_n _ _ hj, uR_s, upd_n _ _ hj]; rfl) rfl rfl)
      · have e3 := dgB_t c45
        have e3d := isDg_i e3.2
        refine z_aload_n dX8_number_48 rfl ?_
        refine z_getI dX8_number_49 fl_X8_166 ⟨by decide, _, rfl, rfl⟩ (uF_s _ _ _ _) ?_
        refine z_iload_n dX8_number_52 rfl ?_
        refine z_isubN dX8_number_53 (by omega) ?_
        refine z_iconst (v := nI 2) dX8_number_54 (by decide) ?_
        refine z_icmpN_ne (tgt := 67) dX8_number_55 (by decide) (by omega) (by omega) (fun c55 => ?_) (fun c55 => absurd c55 (by omega))
        refine z_aload_n dX8_number_67 rfl ?_
        refine z_getR (j := 39) dX8_number_68 fl_X8_19 ⟨by decide, _, rfl, rfl⟩ ?_
        refine z_iload_n dX8_number_71 rfl ?_
        refine z_bipush (v := nI 10) dX8_number_72 (by decide) ?_
        refine z_aload_n dX8_number_74 rfl ?_
        refine z_getR (j := 39) dX8_number_75 fl_X8_19 ⟨by decide, _, rfl, rfl⟩ ?_
        refine z_iload_n dX8_number_78 rfl ?_
        refine z_ialdN dX8_number_79 ⟨by decide, rfl⟩ (by omega) (by decide) (show _ = nI ((10 * 0 + T (skS T n c)) - 48) by rw [R_uF, uR_s, upd_s]) ?_
        refine z_imulN dX8_number_80 ?_
        refine z_aload_n dX8_number_81 rfl ?_
        refine z_cV0 dX8_number_82 lk_X8_169 (by decide) ⟨by decide, _, rfl⟩ rfl (Nat.le_of_ble_eq_true rfl) (ev_X8_hereN G (c := ((skS T n c) + 1)) (ht.p ((((psF.rf.u8 _).r _ _).r _ _).u8 _)) (uF_s _ _ _ _) e3.1) ?_
        refine z_iaddN dX8_number_85 ?_
        refine z_bipush (v := nI 48) dX8_number_86 (by decide) ?_
        refine z_isubN dX8_number_88 (by omega) ?_
        refine z_iastN dX8_number_89 ⟨by decide, rfl⟩ (by omega) (by decide) ?_
        refine z_aload_n dX8_number_90 rfl ?_
        refine z_dup dX8_number_91 rfl ?_
        refine z_getI dX8_number_92 fl_X8_166 ⟨by decide, _, rfl, rfl⟩ (uRF_s _ _ _ _ _ _ _) ?_
        refine z_iconst (v := nI 1) dX8_number_95 (by decide) ?_
        refine z_iaddN dX8_number_96 ?_
        refine z_putI dX8_number_97 fp_X8_166 ⟨by decide, _, rfl, rfl⟩ ?_
        refine z_goto (tgt := 34) dX8_number_100 (by decide) ?_
        refine z_aload_n dX8_number_34 rfl ?_
        refine z_cV0 dX8_number_35 lk_X8_169 (by decide) ⟨by decide, _, rfl⟩ rfl (Nat.le_of_ble_eq_true rfl) (ev_X8_here G (c := ((skS T n c) + 2)) (ht.p ((((((psF.rf.u8 _).r _ _).r _ _).u8 _).r _ _).u8 _)) (uF_s _ _ _ _) (by omega)) ?_
        refine z_bipush (v := nI 48) dX8_number_38 (by decide) ?_
        refine z_bipush (v := nI 57) dX8_number_40 (by decide) ?_
        refine z_cS3 dX8_number_42 lk_X8_60 (by decide) (Nat.le_of_ble_eq_true rfl) (ev_X8_dg G hT) ?_
        refine z_ifB_eq (tgt := 103) dX8_number_45 (by decide) (fun c45 => ?_) (fun c45 => ?_)
        · refine z_aload_n dX8_number_103 rfl ?_
          refine z_getI dX8_number_104 fl_X8_166 ⟨by decide, _, rfl, rfl⟩ (uF_s _ _ _ _) ?_
          refine z_iload_n dX8_number_107 rfl ?_
          refine z_icmpN_gt (tgt := 122) dX8_number_108 (by decide) (by omega) (by omega) (fun c108 => ?_) (fun c108 => absurd c108 (by omega))
          refine z_iconst (v := nI 1) dX8_number_122 (by decide) ?_
          refine z_goto (tgt := 127) dX8_number_123 (by decide) ?_
          exact z_zret rfl rfl dX8_number_127 (nmP_s (by unfold mnN; rw [if_pos e1, if_pos e2, if_pos e3, if_neg (dgB_f (c := skS T n c + 2) c45)]) ((((((psF.rf.u8 _).r _ _).r _ _).u8 _).r _ _).u8 _) rfl (uF_s _ _ _ _) (by rw [R_uF, uR_s, upd_s]; congr 1; omega) (fun j hj => by rw [R_uF, uR_s, upd_n _ _ hj, R_uF, uR_s, upd_n _ _ hj, uR_s, upd_n _ _ hj]; rfl) rfl rfl)
        · refine z_aload_n dX8_number_48 rfl ?_
          refine z_getI dX8_number_49 fl_X8_166 ⟨by decide, _, rfl, rfl⟩ (uF_s _ _ _ _) ?_
          refine z_iload_n dX8_number_52 rfl ?_
          refine z_isubN dX8_number_53 (by omega) ?_
          refine z_iconst (v := nI 2) dX8_number_54 (by decide) ?_
          refine z_icmpN_ne (tgt := 67) dX8_number_55 (by decide) (by omega) (by omega) (fun c55 => absurd (show skS T n c + 2 - skS T n c = 2 by omega) c55) (fun c55 => ?_)
          refine z_aload_n dX8_number_58 rfl ?_
          refine z_aload_n dX8_number_59 rfl ?_
          refine z_getI dX8_number_60 fl_X8_166 ⟨by decide, _, rfl, rfl⟩ (uF_s _ _ _ _) ?_
          refine z_cV1w dX8_number_63 lk_X8_179 (by decide) ⟨by decide, _, rfl⟩ rfl (Nat.le_of_ble_eq_true rfl) (ev_X8_fails G) ?_
          exact z_zret rfl rfl dX8_number_66 (nmP_n (by unfold mnN; rw [if_pos e1, if_pos e2, if_pos e3, if_pos (dgB_t (c := skS T n c + 2) c45)]) (((((((psF.rf.u8 _).r _ _).r _ _).u8 _).r _ _).u8 _).u10 _) rfl (uF_s _ _ _ _))
  · have e1 : ¬ (c < n ∧ T c = 32) := fun q => c6 ((pkn_eq hT (by decide)).mpr q)
    refine z_aload_n dX8_number_9 rfl ?_
    refine z_aload_n dX8_number_10 rfl ?_
    refine z_getI dX8_number_11 fl_X8_166 ⟨by decide, _, rfl, rfl⟩ hc ?_
    refine z_cV1w dX8_number_14 lk_X8_179 (by decide) ⟨by decide, _, rfl⟩ rfl (Nat.le_of_ble_eq_true rfl) (ev_X8_fails G) ?_
    exact z_zret rfl rfl dX8_number_17 (nmP_n (by unfold mnN; rw [if_neg e1]) (psF.rf.u10 _) rfl (uF_s _ _ _ _))
theorem skS_out {T : Nat → Nat} {n c : Nat} (h : ¬ (c < n ∧ T c = 32)) : skS T n c = c := scL_out (fun q => h ⟨q.1, of_decide_eq_true q.2⟩) _
theorem isDg_sp {x : Nat} (h : isDg x = true) : x ≠ 32 ∧ x ≠ 59 := by have := isDg_i h; omega
theorem mn_s {T : Nat → Nat} {n c x p : Nat} (h : mnN T n c = (some x, p)) : nmN T n c = (some x, p) := by
  unfold mnN at h
  unfold nmN
  split at h
  · next e =>
    rw [if_pos e]
    split at h
    · next e2 =>
      rw [if_pos e2]
      split at h
      · next e3 =>
        rw [if_pos e3]
        split at h
        · cases h
        · exact h
      · next e3 => rw [if_neg e3]; exact h
    · cases h
  · cases h
/-- where the reference fails the class fails too: at once, or with what follows -/
theorem mn_n {T : Nat → Nat} {n c p : Nat} (h : mnN T n c = (none, p)) : nmN T n c = (none, p) ∨ ∃ x, nmN T n c = (some x, p) ∧ p < n ∧ isDg (T p) = true := by
  unfold mnN at h
  unfold nmN
  split at h
  · next e =>
    rw [if_pos e]
    split at h
    · next e2 =>
      rw [if_pos e2]
      split at h
      · next e3 =>
        rw [if_pos e3]
        split at h
        · next e4 =>
          right
          have hp : skS T n c + 2 = p := by cases h; rfl
          exact ⟨_, by rw [hp], by rw [← hp]; exact e4.1, by rw [← hp]; exact e4.2⟩
        · cases h
      · cases h
    · next e2 => left; rw [if_neg e2]; exact h
  · next e => left; rw [if_neg e]; exact h
theorem sm_dg {T : Nat → Nat} {n p : Nat} (h1 : p < n) (h2 : isDg (T p) = true) : smN T n p = false ∧ skS T n p = p := by
  have q := skS_out (T := T) (n := n) (c := p) (fun e => (isDg_sp h2).1 e.2)
  refine ⟨?_, q⟩
  unfold smN
  rw [q, decide_eq_false (isDg_sp h2).2, Bool.and_false]
theorem nm_dg {T : Nat → Nat} {n p : Nat} (h2 : isDg (T p) = true) : nmN T n p = (none, p) := by
  unfold nmN; rw [if_neg (fun e => (isDg_sp h2).1 e.2)]
section RC
variable {T : Nat → Nat} {n c i : Nat}
theorem rc_w (h1 : skS T n c < n) (hw : wdN T (skS T n c) (ltS T n (skS T n c)) 5 = none) : rcN T n c = .inl (some (skS T n c)) := rcN_w h1 hw
theorem rc_0 {p : Nat} (h1 : skS T n c < n) (hw : wdN T (skS T n c) (ltS T n (skS T n c)) 5 = some i) (hd : wNum i = 0) (hp : p = ltS T n (skS T n c)) : rcN T n c = if smN T n p then .inr (i, 0, 0, skS T n p + 1) else .inl (some (skS T n p)) := by
  subst hp
  have hb : nbN T n (wNum i) (ltS T n (skS T n c)) = (some (0, 0), ltS T n (skS T n c)) := by unfold nbN; rw [if_pos hd]
  rcases q : smN T n (ltS T n (skS T n c)) with _ | _
  · rw [rcN_s h1 hw hb q]; rfl
  · rw [rcN_ok h1 hw hb q]; rfl
theorem rc_n1 {p : Nat} (h1 : skS T n c < n) (hw : wdN T (skS T n c) (ltS T n (skS T n c)) 5 = some i) (hd : wNum i = 1 ∨ wNum i = 2) (hm : mnN T n (ltS T n (skS T n c)) = (none, p)) : rcN T n c = .inl (some p) := by
  have hd0 : ¬ wNum i = 0 := by omega
  rcases mn_n hm with q | ⟨x, q, q1, q2⟩
  · exact rcN_n h1 hw (by unfold nbN; rw [if_neg hd0, q])
  · rcases hd with hd | hd
    · have hb : nbN T n (wNum i) (ltS T n (skS T n c)) = (some (x, 0), p) := by unfold nbN; rw [if_neg hd0, q]; simp only; rw [if_pos hd]
      rw [rcN_s h1 hw hb (sm_dg q1 q2).1, (sm_dg q1 q2).2]
    · have hb : nbN T n (wNum i) (ltS T n (skS T n c)) = (none, p) := by unfold nbN; rw [if_neg hd0, q]; simp only; rw [if_neg (by omega), nm_dg q2]
      exact rcN_n h1 hw hb
theorem rc_1 {x p : Nat} (h1 : skS T n c < n) (hw : wdN T (skS T n c) (ltS T n (skS T n c)) 5 = some i) (hd : wNum i = 1) (hm : mnN T n (ltS T n (skS T n c)) = (some x, p)) : rcN T n c = if smN T n p then .inr (i, x, 0, skS T n p + 1) else .inl (some (skS T n p)) := by
  have hb : nbN T n (wNum i) (ltS T n (skS T n c)) = (some (x, 0), p) := by unfold nbN; rw [if_neg (by omega), mn_s hm]; simp only; rw [if_pos hd]
  rcases q : smN T n p with _ | _
  · rw [rcN_s h1 hw hb q]; rfl
  · rw [rcN_ok h1 hw hb q]; rfl
theorem rc_n2 {x p p2 : Nat} (h1 : skS T n c < n) (hw : wdN T (skS T n c) (ltS T n (skS T n c)) 5 = some i) (hd : wNum i = 2) (hm : mnN T n (ltS T n (skS T n c)) = (some x, p)) (hm2 : mnN T n p = (none, p2)) : rcN T n c = .inl (some p2) := by
  rcases mn_n hm2 with q | ⟨y, q, q1, q2⟩
  · exact rcN_n h1 hw (by unfold nbN; rw [if_neg (by omega), mn_s hm]; simp only; rw [if_neg (by omega), q])
  · have hb : nbN T n (wNum i) (ltS T n (skS T n c)) = (some (x, y), p2) := by unfold nbN; rw [if_neg (by omega), mn_s hm]; simp only; rw [if_neg (by omega), q]
    rw [rcN_s h1 hw hb (sm_dg q1 q2).1, (sm_dg q1 q2).2]
theorem rc_2 {x y p p2 : Nat} (h1 : skS T n c < n) (hw : wdN T (skS T n c) (ltS T n (skS T n c)) 5 = some i) (hd : wNum i = 2) (hm : mnN T n (ltS T n (skS T n c)) = (some x, p)) (hm2 : mnN T n p = (some y, p2)) : rcN T n c = if smN T n p2 then .inr (i, x, y, skS T n p2 + 1) else .inl (some (skS T n p2)) := by
  have hb : nbN T n (wNum i) (ltS T n (skS T n c)) = (some (x, y), p2) := by unfold nbN; rw [if_neg (by omega), mn_s hm]; simp only; rw [if_neg (by omega), mn_s hm2]
  rcases q : smN T n p2 with _ | _
  · rw [rcN_s h1 hw hb q]; rfl
  · rw [rcN_ok h1 hw hb q]; rfl
end RC
