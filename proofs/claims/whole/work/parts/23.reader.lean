/-- nothing is changed but the reader's own -/
def fx (μ u : Mm) : Prop := (∀ i k : Nat, ¬ (i = 33 ∧ 2 ≤ k) → u.1 i k = μ.1 i k) ∧ u.2.1 = μ.2.1 ∧ u.2.2.1 = μ.2.2.1 ∧ u.2.2.2.2 = μ.2.2.2.2
theorem fx.rf {μ : Mm} : fx μ μ := ⟨fun _ _ _ => rfl, rfl, rfl, rfl⟩
theorem fx.trans {μ u u2 : Mm} (h : fx μ u) (h2 : fx u u2) : fx μ u2 := ⟨fun i k q => (h2.1 i k q).trans (h.1 i k q), h2.2.1.trans h.2.1, h2.2.2.1.trans h.2.2.1, h2.2.2.2.trans h.2.2.2⟩
theorem fx.uF {μ u : Mm} {k : Nat} {x : Int32} (h : fx μ u) (hk : 2 ≤ k) : fx μ (uF u 33 k x) := h.trans ⟨fun i k' q => uF_n _ _ (by omega), rfl, rfl, rfl⟩
theorem fx.uW {μ u : Mm} {w : Option Nat} (h : fx μ u) : fx μ (uW u w) := h.trans ⟨fun _ _ _ => rfl, rfl, rfl, rfl⟩
theorem txOK.fx {μ u : Mm} {n : Nat} {T : Nat → Nat} (h : txOK μ n T) (hf : fx μ u) : txOK u n T := ⟨by rw [hf.1 _ _ (by omega)]; exact h.1, h.2.1, by rw [hf.2.1]; exact h.2.2⟩
theorem nm_ge {T : Nat → Nat} {n c : Nat} : c ≤ (nmN T n c).2 := by
  have hk : c ≤ skS T n c := scL_ge (fun k => isSp (T k)) n (n - c) c
  unfold nmN
  split
  · split
    · split
      · show c ≤ skS T n c + 2; omega
      · show c ≤ skS T n c + 1; omega
    · exact hk
  · exact Nat.le_refl _
def nbN (T : Nat → Nat) (n due c : Nat) : Option (Nat × Nat) × Nat :=
  if due = 0 then (some (0, 0), c)
  else match nmN T n c with
    | (none, c1) => (none, c1)
    | (some x, c1) => if due = 1 then (some (x, 0), c1) else match nmN T n c1 with
      | (none, c2) => (none, c2)
      | (some y, c2) => (some (x, y), c2)
theorem nb_facts {T : Nat → Nat} {n due c x y c' : Nat} (hcn : c ≤ n) (h : nbN T n due c = (some (x, y), c')) : x < 100 ∧ y < 100 ∧ c ≤ c' ∧ c' ≤ n := by
  unfold nbN at h
  split at h
  · cases h; exact ⟨by omega, by omega, Nat.le_refl _, hcn⟩
  · have g1 := nm_ge (T := T) (n := n) (c := c)
    have l1 := nm_le (T := T) hcn
    have b1 := fun v q => nm_lt (T := T) (n := n) (c := c) (x := v) q
    split at h
    · cases h
    · next x1 c1 e1 =>
      rw [e1] at g1 l1 b1
      have d1 := b1 x1 rfl
      split at h
      · cases h; exact ⟨d1, by omega, g1, l1⟩
      · have g2 := nm_ge (T := T) (n := n) (c := c1)
        have l2 := nm_le (T := T) l1
        have b2 := fun v q => nm_lt (T := T) (n := n) (c := c1) (x := v) q
        split at h
        · cases h
        · next y1 c2 e2 =>
          rw [e2] at g2 l2 b2
          have d2 := b2 y1 rfl
          cases h
          exact ⟨d1, d2, Nat.le_trans g1 g2, l2⟩
set_option maxRecDepth 100000 in
theorem ev_rn0 (G : Gt) {n c : Nat} {T : Nat → Nat} {μ : Mm} (h : txOK μ n T) (hc : μ.1 33 2 = nI c) (hcn : c ≤ n) : EV G 3 Y_X1_readNumbers [rf G 33, .int (nI 0)] μ (fun v u => fx μ u ∧ u.2.2.2.1 = μ.2.2.2.1 ∧ match nbN T n 0 c with | (some (x, y), c2) => v = some (.int (bI true)) ∧ u.1 33 2 = nI c2 ∧ u.1 33 3 = μ.1 33 3 ∧ u.1 33 5 = nI x ∧ u.1 33 6 = nI y | (none, p) => v = some (.int (bI false)) ∧ u.1 33 3 = nI p) := by
  have hn := h.le
  have hT : ∀ j, j < n → T j < 128 := fun j hj => h.tl hj
  refine ev_of (by decide) (Nat.le_of_ble_eq_true rfl) ?_
  show Zs G 3 Y_X1_readNumbers (fnN G _) 0 [(0, rf G 33), (1, .int (nI 0))] [] μ
  refine z_aload_n dX1_readNumbers_0 rfl ?_
  refine z_iconst (v := nI 0) dX1_readNumbers_1 (by decide) ?_
  refine z_putI dX1_readNumbers_2 fp_X1_29 ⟨by decide, _, rfl, rfl⟩ ?_
  refine z_aload_n dX1_readNumbers_5 rfl ?_
  refine z_iconst (v := nI 0) dX1_readNumbers_6 (by decide) ?_
  refine z_putI dX1_readNumbers_7 fp_X1_32 ⟨by decide, _, rfl, rfl⟩ ?_
  refine z_iload_n dX1_readNumbers_10 rfl ?_
  refine z_iconst (v := nI 1) dX1_readNumbers_11 (by decide) ?_
  refine z_icmpN_lt (tgt := 23) dX1_readNumbers_12 (by decide) (by omega) (by omega) (fun c12 => ?_) (fun c12 => absurd c12 (by omega))
  refine z_iload_n dX1_readNumbers_23 rfl ?_
  refine z_iconst (v := nI 2) dX1_readNumbers_24 (by decide) ?_
  refine z_icmpN_lt (tgt := 44) dX1_readNumbers_25 (by decide) (by omega) (by omega) (fun c25 => ?_) (fun c25 => absurd c25 (by omega))
  refine z_aload_n dX1_readNumbers_44 rfl ?_
  refine z_getI dX1_readNumbers_45 fl_X1_29 ⟨by decide, _, rfl, rfl⟩ (show _ = nI 0 by simp [uF]) ?_
  refine z_iconst (v := -1) dX1_readNumbers_48 (by decide) ?_
  refine z_icmp_eq (tgt := 64) dX1_readNumbers_49 (by decide) (fun c49 => absurd c49 (by decide)) (fun c49 => ?_)
  refine z_aload_n dX1_readNumbers_52 rfl ?_
  refine z_getI dX1_readNumbers_53 fl_X1_32 ⟨by decide, _, rfl, rfl⟩ (show _ = nI 0 by simp [uF]) ?_
  refine z_iconst (v := -1) dX1_readNumbers_56 (by decide) ?_
  refine z_icmp_eq (tgt := 64) dX1_readNumbers_57 (by decide) (fun c57 => absurd c57 (by decide)) (fun c57 => ?_)
  refine z_iconst (v := nI 1) dX1_readNumbers_60 (by decide) ?_
  refine z_goto (tgt := 65) dX1_readNumbers_61 (by decide) ?_
  exact z_zret rfl rfl dX1_readNumbers_65 ⟨(fx.rf.uF (by omega)).uF (by omega), rfl, by rw [show nbN T n 0 c = (some (0, 0), c) from rfl]; exact ⟨rfl, by simp [uF, hc], by simp [uF], by simp [uF], by simp [uF]⟩⟩
theorem nI_m1 {x : Nat} (h : x < 2 ^ 31) : nI x ≠ -1 := by
  intro q
  have h1 : (nI x).toInt = (-1 : Int32).toInt := by rw [q]
  rw [show (-1 : Int32).toInt = -1 from rfl, nI_toInt h] at h1
  omega
set_option maxRecDepth 100000 in
theorem ev_rn1 (G : Gt) {n c : Nat} {T : Nat → Nat} {μ : Mm} (h : txOK μ n T) (hc : μ.1 33 2 = nI c) (hcn : c ≤ n) : EV G 3 Y_X1_readNumbers [rf G 33, .int (nI 1)] μ (fun v u => fx μ u ∧ u.2.2.2.1 = μ.2.2.2.1 ∧ match nbN T n 1 c with | (some (x, y), c2) => v = some (.int (bI true)) ∧ u.1 33 2 = nI c2 ∧ u.1 33 3 = μ.1 33 3 ∧ u.1 33 5 = nI x ∧ u.1 33 6 = nI y | (none, p) => v = some (.int (bI false)) ∧ u.1 33 3 = nI p) := by
  have hn := h.le
  have hT : ∀ j, j < n → T j < 128 := fun j hj => h.tl hj
  refine ev_of (by decide) (Nat.le_of_ble_eq_true rfl) ?_
  show Zs G 3 Y_X1_readNumbers (fnN G _) 0 [(0, rf G 33), (1, .int (nI 1))] [] μ
  refine z_aload_n dX1_readNumbers_0 rfl ?_
  refine z_iconst (v := nI 0) dX1_readNumbers_1 (by decide) ?_
  refine z_putI dX1_readNumbers_2 fp_X1_29 ⟨by decide, _, rfl, rfl⟩ ?_
  refine z_aload_n dX1_readNumbers_5 rfl ?_
  refine z_iconst (v := nI 0) dX1_readNumbers_6 (by decide) ?_
  refine z_putI dX1_readNumbers_7 fp_X1_32 ⟨by decide, _, rfl, rfl⟩ ?_
  refine z_iload_n dX1_readNumbers_10 rfl ?_
  refine z_iconst (v := nI 1) dX1_readNumbers_11 (by decide) ?_
  refine z_icmpN_lt (tgt := 23) dX1_readNumbers_12 (by decide) (by omega) (by omega) (fun c12 => absurd c12 (by omega)) (fun c12 => ?_)
  refine z_aload_n dX1_readNumbers_15 rfl ?_
  refine z_aload_n dX1_readNumbers_16 rfl ?_
  have q := ev_X1_readNumber G (h.fx ((fx.rf.uF (by omega)).uF (by omega))) (show (uF (uF μ 33 5 (nI 0)) 33 6 (nI 0)).1 33 2 = nI c by simp [uF, hc]) hcn
  rcases hm : nmN T n c with ⟨_ | x, c1⟩
  · rw [hm] at q
    refine z_cV0w dX1_readNumbers_17 lk_X1_96 (by decide) ⟨by decide, _, rfl⟩ rfl (Nat.le_of_ble_eq_true rfl) ((show EVw G 2 Y_X1_readNumber [rf G 33] (uF (uF μ 33 5 (nI 0)) 33 6 (nI 0)) (.int (-1)) (uF (uF (uF (uF μ 33 5 (nI 0)) 33 6 (nI 0)) 33 2 (nI c1)) 33 3 (nI c1)) from q)) ?_
    refine z_putI dX1_readNumbers_20 fp_X1_29 ⟨by decide, _, rfl, rfl⟩ ?_
    refine z_iload_n dX1_readNumbers_23 rfl ?_
    refine z_iconst (v := nI 2) dX1_readNumbers_24 (by decide) ?_
    refine z_icmpN_lt (tgt := 44) dX1_readNumbers_25 (by decide) (by omega) (by omega) (fun c25 => ?_) (fun c25 => absurd c25 (by omega))
    refine z_aload_n dX1_readNumbers_44 rfl ?_
    refine z_getI dX1_readNumbers_45 fl_X1_29 ⟨by decide, _, rfl, rfl⟩ (show _ = (-1 : Int32) by simp [uF]) ?_
    refine z_iconst (v := -1) dX1_readNumbers_48 (by decide) ?_
    refine z_icmp_eq (tgt := 64) dX1_readNumbers_49 (by decide) (fun c49 => ?_) (fun c49 => absurd rfl c49)
    refine z_iconst (v := nI 0) dX1_readNumbers_64 (by decide) ?_
    exact z_zret rfl rfl dX1_readNumbers_65 ⟨((((fx.rf.uF (by omega)).uF (by omega)).uF (by omega)).uF (by omega)).uF (by omega), rfl, by rw [show nbN T n 1 c = (none, c1) by unfold nbN; rw [if_neg (by decide), hm]]; exact ⟨rfl, by simp [uF]⟩⟩
  · rw [hm] at q
    have hx := nm_lt (T := T) (n := n) (c := c) (x := x) (by rw [hm])
    refine z_cV0w dX1_readNumbers_17 lk_X1_96 (by decide) ⟨by decide, _, rfl⟩ rfl (Nat.le_of_ble_eq_true rfl) ((show EVw G 2 Y_X1_readNumber [rf G 33] (uF (uF μ 33 5 (nI 0)) 33 6 (nI 0)) (.int (nI x)) (uF (uF (uF μ 33 5 (nI 0)) 33 6 (nI 0)) 33 2 (nI c1)) from q)) ?_
    refine z_putI dX1_readNumbers_20 fp_X1_29 ⟨by decide, _, rfl, rfl⟩ ?_
    refine z_iload_n dX1_readNumbers_23 rfl ?_
    refine z_iconst (v := nI 2) dX1_readNumbers_24 (by decide) ?_
    refine z_icmpN_lt (tgt := 44) dX1_readNumbers_25 (by decide) (by omega) (by omega) (fun c25 => ?_) (fun c25 => absurd c25 (by omega))
    refine z_aload_n dX1_readNumbers_44 rfl ?_
    refine z_getI dX1_readNumbers_45 fl_X1_29 ⟨by decide, _, rfl, rfl⟩ (show _ = nI x by simp [uF]) ?_
    refine z_iconst (v := -1) dX1_readNumbers_48 (by decide) ?_
    refine z_icmp_eq (tgt := 64) dX1_readNumbers_49 (by decide) (fun c49 => absurd c49 (nI_m1 (by omega))) (fun c49 => ?_)
    refine z_aload_n dX1_readNumbers_52 rfl ?_
    refine z_getI dX1_readNumbers_53 fl_X1_32 ⟨by decide, _, rfl, rfl⟩ (show _ = nI 0 by simp [uF]) ?_
    refine z_iconst (v := -1) dX1_readNumbers_56 (by decide) ?_
    refine z_icmp_eq (tgt := 64) dX1_readNumbers_57 (by decide) (fun c57 => absurd c57 (by decide)) (fun c57 => ?_)
    refine z_iconst (v := nI 1) dX1_readNumbers_60 (by decide) ?_
    refine z_goto (tgt := 65) dX1_readNumbers_61 (by decide) ?_
    exact z_zret rfl rfl dX1_readNumbers_65 ⟨(((fx.rf.uF (by omega)).uF (by omega)).uF (by omega)).uF (by omega), rfl, by rw [show nbN T n 1 c = (some (x, 0), c1) by unfold nbN; rw [if_neg (by decide), hm]; rfl]; exact ⟨rfl, by simp [uF], by simp [uF], by simp [uF], by simp [uF]⟩⟩
set_option maxRecDepth 100000 in
theorem ev_rn2 (G : Gt) {n c : Nat} {T : Nat → Nat} {μ : Mm} (h : txOK μ n T) (hc : μ.1 33 2 = nI c) (hcn : c ≤ n) : EV G 3 Y_X1_readNumbers [rf G 33, .int (nI 2)] μ (fun v u => fx μ u ∧ u.2.2.2.1 = μ.2.2.2.1 ∧ match nbN T n 2 c with | (some (x, y), c2) => v = some (.int (bI true)) ∧ u.1 33 2 = nI c2 ∧ u.1 33 3 = μ.1 33 3 ∧ u.1 33 5 = nI x ∧ u.1 33 6 = nI y | (none, p) => v = some (.int (bI false)) ∧ u.1 33 3 = nI p) := by
  have hn := h.le
  have hT : ∀ j, j < n → T j < 128 := fun j hj => h.tl hj
  refine ev_of (by decide) (Nat.le_of_ble_eq_true rfl) ?_
  show Zs G 3 Y_X1_readNumbers (fnN G _) 0 [(0, rf G 33), (1, .int (nI 2))] [] μ
  refine z_aload_n dX1_readNumbers_0 rfl ?_
  refine z_iconst (v := nI 0) dX1_readNumbers_1 (by decide) ?_
  refine z_putI dX1_readNumbers_2 fp_X1_29 ⟨by decide, _, rfl, rfl⟩ ?_
  refine z_aload_n dX1_readNumbers_5 rfl ?_
  refine z_iconst (v := nI 0) dX1_readNumbers_6 (by decide) ?_
  refine z_putI dX1_readNumbers_7 fp_X1_32 ⟨by decide, _, rfl, rfl⟩ ?_
  refine z_iload_n dX1_readNumbers_10 rfl ?_
  refine z_iconst (v := nI 1) dX1_readNumbers_11 (by decide) ?_
  refine z_icmpN_lt (tgt := 23) dX1_readNumbers_12 (by decide) (by omega) (by omega) (fun c12 => absurd c12 (by omega)) (fun c12 => ?_)
  refine z_aload_n dX1_readNumbers_15 rfl ?_
  refine z_aload_n dX1_readNumbers_16 rfl ?_
  have q := ev_X1_readNumber G (h.fx ((fx.rf.uF (by omega)).uF (by omega))) (show (uF (uF μ 33 5 (nI 0)) 33 6 (nI 0)).1 33 2 = nI c by simp [uF, hc]) hcn
  rcases hm : nmN T n c with ⟨_ | x, c1⟩
  · rw [hm] at q
    refine z_cV0w dX1_readNumbers_17 lk_X1_96 (by decide) ⟨by decide, _, rfl⟩ rfl (Nat.le_of_ble_eq_true rfl) ((show EVw G 2 Y_X1_readNumber [rf G 33] (uF (uF μ 33 5 (nI 0)) 33 6 (nI 0)) (.int (-1)) (uF (uF (uF (uF μ 33 5 (nI 0)) 33 6 (nI 0)) 33 2 (nI c1)) 33 3 (nI c1)) from q)) ?_
    refine z_putI dX1_readNumbers_20 fp_X1_29 ⟨by decide, _, rfl, rfl⟩ ?_
    refine z_iload_n dX1_readNumbers_23 rfl ?_
    refine z_iconst (v := nI 2) dX1_readNumbers_24 (by decide) ?_
    refine z_icmpN_lt (tgt := 44) dX1_readNumbers_25 (by decide) (by omega) (by omega) (fun c25 => absurd c25 (by omega)) (fun c25 => ?_)
    refine z_aload_n dX1_readNumbers_28 rfl ?_
    refine z_getI dX1_readNumbers_29 fl_X1_29 ⟨by decide, _, rfl, rfl⟩ (show _ = (-1 : Int32) by simp [uF]) ?_
    refine z_iconst (v := -1) dX1_readNumbers_32 (by decide) ?_
    refine z_icmp_eq (tgt := 44) dX1_readNumbers_33 (by decide) (fun c33 => ?_) (fun c33 => absurd rfl c33)
    refine z_aload_n dX1_readNumbers_44 rfl ?_
    refine z_getI dX1_readNumbers_45 fl_X1_29 ⟨by decide, _, rfl, rfl⟩ (show _ = (-1 : Int32) by simp [uF]) ?_
    refine z_iconst (v := -1) dX1_readNumbers_48 (by decide) ?_
    refine z_icmp_eq (tgt := 64) dX1_readNumbers_49 (by decide) (fun c49 => ?_) (fun c49 => absurd rfl c49)
    refine z_iconst (v := nI 0) dX1_readNumbers_64 (by decide) ?_
    exact z_zret rfl rfl dX1_readNumbers_65 ⟨((((fx.rf.uF (by omega)).uF (by omega)).uF (by omega)).uF (by omega)).uF (by omega), rfl, by rw [show nbN T n 2 c = (none, c1) by unfold nbN; rw [if_neg (by decide), hm]]; exact ⟨rfl, by simp [uF]⟩⟩
  · rw [hm] at q
    have hx := nm_lt (T := T) (n := n) (c := c) (x := x) (by rw [hm])
    refine z_cV0w dX1_readNumbers_17 lk_X1_96 (by decide) ⟨by decide, _, rfl⟩ rfl (Nat.le_of_ble_eq_true rfl) ((show EVw G 2 Y_X1_readNumber [rf G 33] (uF (uF μ 33 5 (nI 0)) 33 6 (nI 0)) (.int (nI x)) (uF (uF (uF μ 33 5 (nI 0)) 33 6 (nI 0)) 33 2 (nI c1)) from q)) ?_
    refine z_putI dX1_readNumbers_20 fp_X1_29 ⟨by decide, _, rfl, rfl⟩ ?_
    refine z_iload_n dX1_readNumbers_23 rfl ?_
    refine z_iconst (v := nI 2) dX1_readNumbers_24 (by decide) ?_
    refine z_icmpN_lt (tgt := 44) dX1_readNumbers_25 (by decide) (by omega) (by omega) (fun c25 => absurd c25 (by omega)) (fun c25 => ?_)
    refine z_aload_n dX1_readNumbers_28 rfl ?_
    refine z_getI dX1_readNumbers_29 fl_X1_29 ⟨by decide, _, rfl, rfl⟩ (show _ = nI x by simp [uF]) ?_
    refine z_iconst (v := -1) dX1_readNumbers_32 (by decide) ?_
    refine z_icmp_eq (tgt := 44) dX1_readNumbers_33 (by decide) (fun c33 => absurd c33 (nI_m1 (by omega))) (fun c33 => ?_)
    refine z_aload_n dX1_readNumbers_36 rfl ?_
    refine z_aload_n dX1_readNumbers_37 rfl ?_
    have l1 : c1 ≤ n := by have := nm_le (T := T) hcn; rw [hm] at this; exact this
    have q2 := ev_X1_readNumber G (h.fx ((((fx.rf.uF (by omega)).uF (by omega)).uF (k := 2) (x := nI c1) (by omega)).uF (k := 5) (x := nI x) (by omega))) (show (uF (uF (uF (uF μ 33 5 (nI 0)) 33 6 (nI 0)) 33 2 (nI c1)) 33 5 (nI x)).1 33 2 = nI c1 by simp [uF]) l1
    rcases hm2 : nmN T n c1 with ⟨_ | y, c2⟩
    · rw [hm2] at q2
      refine z_cV0w dX1_readNumbers_38 lk_X1_96 (by decide) ⟨by decide, _, rfl⟩ rfl (Nat.le_of_ble_eq_true rfl) ((show EVw G 2 Y_X1_readNumber [rf G 33] (uF (uF (uF (uF μ 33 5 (nI 0)) 33 6 (nI 0)) 33 2 (nI c1)) 33 5 (nI x)) (.int (-1)) (uF (uF (uF (uF (uF (uF μ 33 5 (nI 0)) 33 6 (nI 0)) 33 2 (nI c1)) 33 5 (nI x)) 33 2 (nI c2)) 33 3 (nI c2)) from q2)) ?_
      refine z_putI dX1_readNumbers_41 fp_X1_32 ⟨by decide, _, rfl, rfl⟩ ?_
      refine z_aload_n dX1_readNumbers_44 rfl ?_
      refine z_getI dX1_readNumbers_45 fl_X1_29 ⟨by decide, _, rfl, rfl⟩ (show _ = nI x by simp [uF]) ?_
      refine z_iconst (v := -1) dX1_readNumbers_48 (by decide) ?_
      refine z_icmp_eq (tgt := 64) dX1_readNumbers_49 (by decide) (fun c49 => absurd c49 (nI_m1 (by omega))) (fun c49 => ?_)
      refine z_aload_n dX1_readNumbers_52 rfl ?_
      refine z_getI dX1_readNumbers_53 fl_X1_32 ⟨by decide, _, rfl, rfl⟩ (show _ = (-1 : Int32) by simp [uF]) ?_
      refine z_iconst (v := -1) dX1_readNumbers_56 (by decide) ?_
      refine z_icmp_eq (tgt := 64) dX1_readNumbers_57 (by decide) (fun c57 => ?_) (fun c57 => absurd rfl c57)
      refine z_iconst (v := nI 0) dX1_readNumbers_64 (by decide) ?_
      exact z_zret rfl rfl dX1_readNumbers_65 ⟨((((((fx.rf.uF (by omega)).uF (by omega)).uF (by omega)).uF (by omega)).uF (by omega)).uF (by omega)).uF (by omega), rfl, by rw [show nbN T n 2 c = (none, c2) by unfold nbN; rw [if_neg (by decide), hm]; show (match nmN T n c1 with | (none, c2) => (none, c2) | (some y, c2) => (some (x, y), c2)) = _; rw [hm2]]; exact ⟨rfl, by simp [uF]⟩⟩
    · rw [hm2] at q2
      have hy := nm_lt (T := T) (n := n) (c := c1) (x := y) (by rw [hm2])
      refine z_cV0w dX1_readNumbers_38 lk_X1_96 (by decide) ⟨by decide, _, rfl⟩ rfl (Nat.le_of_ble_eq_true rfl) ((show EVw G 2 Y_X1_readNumber [rf G 33] (uF (uF (uF (uF μ 33 5 (nI 0)) 33 6 (nI 0)) 33 2 (nI c1)) 33 5 (nI x)) (.int (nI y)) (uF (uF (uF (uF (uF μ 33 5 (nI 0)) 33 6 (nI 0)) 33 2 (nI c1)) 33 5 (nI x)) 33 2 (nI c2)) from q2)) ?_
      refine z_putI dX1_readNumbers_41 fp_X1_32 ⟨by decide, _, rfl, rfl⟩ ?_
      refine z_aload_n dX1_readNumbers_44 rfl ?_
      refine z_getI dX1_readNumbers_45 fl_X1_29 ⟨by decide, _, rfl, rfl⟩ (show _ = nI x by simp [uF]) ?_
      refine z_iconst (v := -1) dX1_readNumbers_48 (by decide) ?_
      refine z_icmp_eq (tgt := 64) dX1_readNumbers_49 (by decide) (fun c49 => absurd c49 (nI_m1 (by omega))) (fun c49 => ?_)
      refine z_aload_n dX1_readNumbers_52 rfl ?_
      refine z_getI dX1_readNumbers_53 fl_X1_32 ⟨by decide, _, rfl, rfl⟩ (show _ = nI y by simp [uF]) ?_
      refine z_iconst (v := -1) dX1_readNumbers_56 (by decide) ?_
      refine z_icmp_eq (tgt := 64) dX1_readNumbers_57 (by decide) (fun c57 => absurd c57 (nI_m1 (by omega))) (fun c57 => ?_)
      refine z_iconst (v := nI 1) dX1_readNumbers_60 (by decide) ?_
      refine z_goto (tgt := 65) dX1_readNumbers_61 (by decide) ?_
      exact z_zret rfl rfl dX1_readNumbers_65 ⟨(((((fx.rf.uF (by omega)).uF (by omega)).uF (by omega)).uF (by omega)).uF (by omega)).uF (by omega), rfl, by rw [show nbN T n 2 c = (some (x, y), c2) by unfold nbN; rw [if_neg (by decide), hm]; show (match nmN T n c1 with | (none, c2) => (none, c2) | (some y, c2) => (some (x, y), c2)) = _; rw [hm2]]; exact ⟨rfl, by simp [uF], by simp [uF], by simp [uF], by simp [uF]⟩⟩
theorem ev_X1_readNumbers (G : Gt) {n c : Nat} {T : Nat → Nat} {μ : Mm} (h : txOK μ n T) (hc : μ.1 33 2 = nI c) (hcn : c ≤ n) {due : Nat} (hd : due ≤ 2) : EV G 3 Y_X1_readNumbers [rf G 33, .int (nI due)] μ (fun v u => fx μ u ∧ u.2.2.2.1 = μ.2.2.2.1 ∧ match nbN T n due c with | (some (x, y), c2) => v = some (.int (bI true)) ∧ u.1 33 2 = nI c2 ∧ u.1 33 3 = μ.1 33 3 ∧ u.1 33 5 = nI x ∧ u.1 33 6 = nI y | (none, p) => v = some (.int (bI false)) ∧ u.1 33 3 = nI p) := by
  rcases (show due = 0 ∨ due = 1 ∨ due = 2 by omega) with rfl | rfl | rfl
  · exact ev_rn0 G h hc hcn
  · exact ev_rn1 G h hc hcn
  · exact ev_rn2 G h hc hcn
