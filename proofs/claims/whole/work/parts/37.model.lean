set_option maxRecDepth 100000 in
theorem lp_X8_orderOf (G : Gt) {a b : Nat} {μ : Mm} (hg : nwG μ a b) {e : Nat} (he : e < a * b) : ∀ (f t tot : Nat), tot < a * b → hitL a b e f tot = true →
    Zs G 1 Y_X8_orderOf (fnN G (fun v u => v = some (.int (nI (ordL a b e f t tot))) ∧ u = μ)) 4 [(0, rf G 35), (1, .int (nI e)), (2, .int (nI tot)), (3, .int (nI t))] [] μ := by
  intro f
  have hab := hg.ab
  have hab1 := hg.p
  have ha := hg.2.2.1
  have ha6 := hg.2.2.2.1
  have hb := hg.2.2.2.2.1
  have hb6 := hg.2.2.2.2.2
  induction f with
  | zero =>
    intro t tot ht hh
    have h0 : tot = 0 := of_decide_eq_true hh
    refine z_iload_n dX8_orderOf_4 rfl ?_
    refine z_ifN_eq (tgt := 21) dX8_orderOf_5 (by decide) (by omega) (fun c5 => ?_) (fun c5 => absurd h0 c5)
    refine z_iload_n dX8_orderOf_21 rfl ?_
    exact z_ret (ty := none) (v := none) rfl dX8_orderOf_22 ⟨rfl, rfl⟩
  | succ f ih =>
    intro t tot ht hh
    refine z_iload_n dX8_orderOf_4 rfl ?_
    refine z_ifN_eq (tgt := 21) dX8_orderOf_5 (by decide) (by omega) (fun c5 => ?_) (fun c5 => ?_)
    · refine z_iload_n dX8_orderOf_21 rfl ?_
      exact z_ret (ty := none) (v := none) rfl dX8_orderOf_22 ⟨by rw [show ordL a b e (f + 1) t tot = if tot = 0 then t else ordL a b e f (t + 1) (plN a b tot e) from rfl, if_pos c5], rfl⟩
    · refine z_aload_n dX8_orderOf_8 rfl ?_
      refine z_iload_n dX8_orderOf_9 rfl ?_
      refine z_iload_n dX8_orderOf_10 rfl ?_
      refine z_cV2 dX8_orderOf_11 lk_X8_64 (by decide) ⟨by decide, _, rfl⟩ rfl (Nat.le_of_ble_eq_true rfl) (ev_X8_plus G hg (by omega) (by omega)) ?_
      refine z_istore_n (lv' := [(2, _), (0, _), (1, _), (3, _)]) dX8_orderOf_14 rfl (by decide) rfl ?_
      refine z_iinc (v := nI (t + 1)) (lv' := [(3, _), (2, _), (0, _), (1, _)]) dX8_orderOf_15 rfl (nI_inc _ 1) (by decide) rfl ?_
      refine z_goto (tgt := 4) dX8_orderOf_18 (by decide) ?_
      have hh2 : hitL a b e f (plN a b tot e) = true := by
        have q : (decide (tot = 0) || hitL a b e f (plN a b tot e)) = true := hh
        rw [decide_eq_false c5] at q; exact q
      rw [show ordL a b e (f + 1) t tot = if tot = 0 then t else ordL a b e f (t + 1) (plN a b tot e) from rfl, if_neg c5]
      refine z_sub (lv' := [(0, _), (1, _), (2, _), (3, _)]) rfl ?_
      exact ih (t + 1) _ (plN_lt ha hb _ _) hh2
set_option maxRecDepth 100000 in
theorem ev_X8_orderOf (G : Gt) {a b : Nat} {μ : Mm} (hg : nwG μ a b) {e : Nat} (he : e < a * b) : EVr G 1 Y_X8_orderOf [rf G 35, .int (nI e)] μ (.int (nI (ordN a b e))) := by
  have hab := hg.ab
  have hab1 := hg.p
  have ha := hg.2.2.1
  have ha6 := hg.2.2.2.1
  have hb := hg.2.2.2.2.1
  have hb6 := hg.2.2.2.2.2
  refine ev_of (by decide) (Nat.le_of_ble_eq_true rfl) ?_
  show Zs G 1 Y_X8_orderOf (fnN G _) 0 [(0, rf G 35), (1, .int (nI e))] [] μ
  refine z_iload_n dX8_orderOf_0 rfl ?_
  refine z_istore_n (lv' := [(2, _), (0, _), (1, _)]) dX8_orderOf_1 rfl (by decide) rfl ?_
  refine z_iconst (v := nI 1) dX8_orderOf_2 (by decide) ?_
  refine z_istore_n (lv' := [(3, _), (2, _), (0, _), (1, _)]) dX8_orderOf_3 rfl (by decide) rfl ?_
  refine z_sub (lv' := [(0, _), (1, _), (2, _), (3, _)]) rfl ?_
  exact lp_X8_orderOf G hg he (a * b - 1) 1 e he (hit_all ha ha6 hb hb6 he)
theorem op_all {a b e o : Nat} (h1 : 1 ≤ a) (h2 : a ≤ 6) (h3 : 1 ≤ b) (h4 : b ≤ 6) (he : e < a * b) (ho : o < a * b) : plN a b e o = 0 ↔ o = opN a b e := by
  have q := all3 (P := fun a b e => (List.range (a * b)).all fun o => decide (plN a b e o = 0 ↔ o = opN a b e)) (by decide +kernel) h1 h2 h3 h4 he
  exact of_decide_eq_true (List.all_eq_true.mp q o (List.mem_range.mpr ho))
set_option maxRecDepth 100000 in
theorem lp_X8_lessOf (G : Gt) {a b : Nat} {μ : Mm} (hg : nwG μ a b) {e : Nat} (he : e < a * b) : ∀ (f o : Nat), o + f = opN a b e →
    Zs G 1 Y_X8_lessOf (fnN G (fun v u => v = some (.int (nI (opN a b e))) ∧ u = μ)) 2 [(0, rf G 35), (1, .int (nI e)), (2, .int (nI o))] [] μ := by
  intro f
  have hab := hg.ab
  have hab1 := hg.p
  have ha := hg.2.2.1
  have ha6 := hg.2.2.2.1
  have hb := hg.2.2.2.2.1
  have hb6 := hg.2.2.2.2.2
  have hop := opN_lt ha hb e
  have hpl := fun o => plN_lt ha hb e o
  induction f with
  | zero =>
    intro o hf
    have hz := (op_all ha ha6 hb hb6 he (show o < a * b by omega)).mpr (by omega)
    have hpo := hpl o
    refine z_aload_n dX8_lessOf_2 rfl ?_
    refine z_iload_n dX8_lessOf_3 rfl ?_
    refine z_iload_n dX8_lessOf_4 rfl ?_
    refine z_cV2 dX8_lessOf_5 lk_X8_64 (by decide) ⟨by decide, _, rfl⟩ rfl (Nat.le_of_ble_eq_true rfl) (ev_X8_plus G hg (by omega) (by omega)) ?_
    refine z_ifN_eq (tgt := 17) dX8_lessOf_8 (by decide) (by omega) (fun c8 => ?_) (fun c8 => absurd hz c8)
    refine z_iload_n dX8_lessOf_17 rfl ?_
    exact z_ret (ty := none) (v := none) rfl dX8_lessOf_18 ⟨by rw [show o = opN a b e by omega], rfl⟩
  | succ f ih =>
    intro o hf
    have hz : plN a b e o ≠ 0 := fun q => by have := (op_all ha ha6 hb hb6 he (show o < a * b by omega)).mp q; omega
    have hpo := hpl o
    refine z_aload_n dX8_lessOf_2 rfl ?_
    refine z_iload_n dX8_lessOf_3 rfl ?_
    refine z_iload_n dX8_lessOf_4 rfl ?_
    refine z_cV2 dX8_lessOf_5 lk_X8_64 (by decide) ⟨by decide, _, rfl⟩ rfl (Nat.le_of_ble_eq_true rfl) (ev_X8_plus G hg (by omega) (by omega)) ?_
    refine z_ifN_eq (tgt := 17) dX8_lessOf_8 (by decide) (by omega) (fun c8 => absurd c8 hz) (fun c8 => ?_)
    refine z_iinc (v := nI (o + 1)) (lv' := [(2, _), (0, _), (1, _)]) dX8_lessOf_11 rfl (nI_inc _ 1) (by decide) rfl ?_
    refine z_goto (tgt := 2) dX8_lessOf_14 (by decide) ?_
    refine z_sub (lv' := [(0, _), (1, _), (2, _)]) rfl ?_
    exact ih (o + 1) (by omega)
set_option maxRecDepth 100000 in
theorem ev_X8_lessOf (G : Gt) {a b : Nat} {μ : Mm} (hg : nwG μ a b) {e : Nat} (he : e < a * b) : EVr G 1 Y_X8_lessOf [rf G 35, .int (nI e)] μ (.int (nI (opN a b e))) := by
  refine ev_of (by decide) (Nat.le_of_ble_eq_true rfl) ?_
  show Zs G 1 Y_X8_lessOf (fnN G _) 0 [(0, rf G 35), (1, .int (nI e))] [] μ
  refine z_iconst (v := nI 0) dX8_lessOf_0 (by decide) ?_
  refine z_istore_n (lv' := [(2, _), (0, _), (1, _)]) dX8_lessOf_1 rfl (by decide) rfl ?_
  refine z_sub (lv' := [(0, _), (1, _), (2, _)]) rfl ?_
  exact lp_X8_lessOf G hg he _ 0 (Nat.zero_add _)
abbrev exF (a b n : Nat) : Nat → Bool := fun e => decide (n % ordN a b e ≠ 0)
theorem ex_all {a b n : Nat} (h1 : 1 ≤ a) (h2 : a ≤ 6) (h3 : 1 ≤ b) (h4 : b ≤ 6) (hn : 1 ≤ n) (hn2 : n ≤ exN a b) : anyN (exF a b n) (a * b) = false ↔ n = exN a b := by
  have q := all2 (P := fun a b => decide (exN a b ≤ 36) && (List.range 37).all fun n => decide (n = 0) || decide (exN a b < n) || decide (anyN (exF a b n) (a * b) = false ↔ n = exN a b)) (by decide +kernel) h1 h2 h3 h4
  rw [Bool.and_eq_true, decide_eq_true_eq] at q
  have q2 := List.all_eq_true.mp q.2 n (List.mem_range.mpr (by omega))
  rw [decide_eq_false (show ¬ n = 0 by omega), decide_eq_false (show ¬ exN a b < n by omega), Bool.false_or, Bool.false_or] at q2
  exact of_decide_eq_true q2
theorem ex_bd {a b : Nat} (h1 : 1 ≤ a) (h2 : a ≤ 6) (h3 : 1 ≤ b) (h4 : b ≤ 6) : 1 ≤ exN a b ∧ exN a b ≤ 36 := by
  have q := all2 (P := fun a b => decide (1 ≤ exN a b ∧ exN a b ≤ 36)) (by decide +kernel) h1 h2 h3 h4
  exact of_decide_eq_true q
set_option maxRecDepth 100000 in
theorem lp2_X8_exponent (G : Gt) {a b : Nat} {μ : Mm} (hg : nwG μ a b) {n : Nat} {F : Fn} (hn : 1 ≤ n) (hn2 : n ≤ 36) (hk : Zs G 2 Y_X8_exponent F 46 [(0, rf G 35), (1, .int (nI n)), (2, .int (bI (!anyN (exF a b n) (a * b))))] [] μ) : ∀ (f e : Nat), e + f = a * b →
    Zs G 2 Y_X8_exponent F 12 [(0, rf G 35), (1, .int (nI n)), (2, .int (bI (!anyN (exF a b n) e))), (3, .int (nI e))] [] μ := by
  intro f
  have hab := hg.ab
  have hab1 := hg.p
  have ha := hg.2.2.1
  have ha6 := hg.2.2.2.1
  have hb := hg.2.2.2.2.1
  have hb6 := hg.2.2.2.2.2
  induction f with
  | zero =>
    intro e hf
    refine z_iload_n dX8_exponent_12 rfl ?_
    refine z_aload_n dX8_exponent_13 rfl ?_
    refine z_cV0 dX8_exponent_14 lk_X8_56 (by decide) ⟨by decide, _, rfl⟩ rfl (Nat.le_of_ble_eq_true rfl) (ev_X8_size G hg) ?_
    refine z_icmpN_ge (tgt := 46) dX8_exponent_17 (by decide) (by omega) (by omega) (fun c17 => ?_) (fun c17 => absurd c17 (by omega))
    refine z_sub (lv' := [(0, _), (1, _), (2, _)]) rfl ?_
    rw [show e = a * b by omega]
    exact hk
  | succ f ih =>
    intro e hf
    have hob := ordN_bd (e := e) hab1
    have hmo : n % ordN a b e < ordN a b e := Nat.mod_lt _ (by omega)
    refine z_iload_n dX8_exponent_12 rfl ?_
    refine z_aload_n dX8_exponent_13 rfl ?_
    refine z_cV0 dX8_exponent_14 lk_X8_56 (by decide) ⟨by decide, _, rfl⟩ rfl (Nat.le_of_ble_eq_true rfl) (ev_X8_size G hg) ?_
    refine z_icmpN_ge (tgt := 46) dX8_exponent_17 (by decide) (by omega) (by omega) (fun c17 => absurd c17 (by omega)) (fun c17 => ?_)
    refine z_iload_n dX8_exponent_20 rfl ?_
    refine z_ifB_eq (tgt := 38) dX8_exponent_21 (by decide) (fun c21 => ?_) (fun c21 => ?_)
    · refine z_iconst (v := nI 0) dX8_exponent_38 (by decide) ?_
      refine z_istore_n (lv' := [(2, _), (0, _), (1, _), (3, _)]) dX8_exponent_39 rfl (by decide) rfl ?_
      refine z_iinc (v := nI (e + 1)) (lv' := [(3, _), (2, _), (0, _), (1, _)]) dX8_exponent_40 rfl (nI_inc _ 1) (by decide) rfl ?_
      refine z_goto (tgt := 12) dX8_exponent_43 (by decide) ?_
      have q := ih (e + 1) (by omega)
      rw [show bI (!anyN (exF a b n) (e + 1)) = nI 0 by rw [show anyN (exF a b n) (e + 1) = (anyN (exF a b n) e || decide (n % ordN a b e ≠ 0)) from rfl]; rw [show anyN (exF a b n) e = true by simpa using c21]; rfl] at q
      refine z_sub (lv' := [(0, _), (1, _), (2, _), (3, _)]) rfl ?_
      exact q
    · refine z_iload_n dX8_exponent_24 rfl ?_
      refine z_aload_n dX8_exponent_25 rfl ?_
      refine z_iload_n dX8_exponent_26 rfl ?_
      refine z_cV1 dX8_exponent_27 lk_X8_68 (by decide) ⟨by decide, _, rfl⟩ rfl (Nat.le_of_ble_eq_true rfl) (ev_X8_orderOf G hg (show e < a * b by omega)) ?_
      refine z_iremN dX8_exponent_30 (by omega) (by omega) (by omega) ?_
      refine z_ifN_ne (tgt := 38) dX8_exponent_31 (by decide) (by omega) (fun c31 => ?_) (fun c31 => ?_)
      · refine z_iconst (v := nI 0) dX8_exponent_38 (by decide) ?_
        refine z_istore_n (lv' := [(2, _), (0, _), (1, _), (3, _)]) dX8_exponent_39 rfl (by decide) rfl ?_
        refine z_iinc (v := nI (e + 1)) (lv' := [(3, _), (2, _), (0, _), (1, _)]) dX8_exponent_40 rfl (nI_inc _ 1) (by decide) rfl ?_
        refine z_goto (tgt := 12) dX8_exponent_43 (by decide) ?_
        have q := ih (e + 1) (by omega)
        rw [show bI (!anyN (exF a b n) (e + 1)) = nI 0 by rw [show anyN (exF a b n) (e + 1) = (anyN (exF a b n) e || decide (n % ordN a b e ≠ 0)) from rfl]; rw [decide_eq_true c31, Bool.or_true]; rfl] at q
        refine z_sub (lv' := [(0, _), (1, _), (2, _), (3, _)]) rfl ?_
        exact q
      · refine z_iconst (v := nI 1) dX8_exponent_34 (by decide) ?_
        refine z_goto (tgt := 39) dX8_exponent_35 (by decide) ?_
        refine z_istore_n (lv' := [(2, _), (0, _), (1, _), (3, _)]) dX8_exponent_39 rfl (by decide) rfl ?_
        refine z_iinc (v := nI (e + 1)) (lv' := [(3, _), (2, _), (0, _), (1, _)]) dX8_exponent_40 rfl (nI_inc _ 1) (by decide) rfl ?_
        refine z_goto (tgt := 12) dX8_exponent_43 (by decide) ?_
        have q := ih (e + 1) (by omega)
        rw [show bI (!anyN (exF a b n) (e + 1)) = nI 1 by rw [show anyN (exF a b n) (e + 1) = (anyN (exF a b n) e || decide (n % ordN a b e ≠ 0)) from rfl]; rw [decide_eq_false (fun q => q c31), Bool.or_false, c21]; rfl] at q
        refine z_sub (lv' := [(0, _), (1, _), (2, _), (3, _)]) rfl ?_
        exact q
set_option maxRecDepth 100000 in
theorem lp_X8_exponent (G : Gt) {a b : Nat} {μ : Mm} (hg : nwG μ a b) : ∀ (f n : Nat), n + f = exN a b → 1 ≤ n →
    Zs G 2 Y_X8_exponent (fnN G (fun v u => v = some (.int (nI (exN a b))) ∧ u = μ)) 4 [(0, rf G 35), (1, .int (nI n)), (2, .int (nI 0))] [] μ := by
  intro f
  have hab := hg.ab
  have hab1 := hg.p
  have ha := hg.2.2.1
  have ha6 := hg.2.2.2.1
  have hb := hg.2.2.2.2.1
  have hb6 := hg.2.2.2.2.2
  have hex := ex_bd ha ha6 hb hb6
  induction f with
  | zero =>
    intro n hf hn
    have hal := (ex_all ha ha6 hb hb6 hn (by omega)).mpr (show n = exN a b by omega)
    refine z_iload_n dX8_exponent_4 rfl ?_
    refine z_ifN_ne (tgt := 61) dX8_exponent_5 (by decide) (by omega) (fun c5 => absurd rfl c5) (fun c5 => ?_)
    refine z_iconst (v := nI 1) dX8_exponent_8 (by decide) ?_
    refine z_istore_n (lv' := [(2, _), (0, _), (1, _)]) dX8_exponent_9 rfl (by decide) rfl ?_
    refine z_iconst (v := nI 0) dX8_exponent_10 (by decide) ?_
    refine z_istore_n (lv' := [(3, _), (2, _), (0, _), (1, _)]) dX8_exponent_11 rfl (by decide) rfl ?_
    refine z_sub (lv' := [(0, _), (1, _), (2, _), (3, _)]) rfl ?_
    refine lp2_X8_exponent G hg hn (by omega) ?_ (a * b) 0 (by omega)
    rw [hal]
    refine z_iload_n dX8_exponent_46 rfl ?_
    refine z_iload_n dX8_exponent_47 rfl ?_
    refine z_ifB_eq (tgt := 55) dX8_exponent_48 (by decide) (fun c48 => Bool.noConfusion c48) (fun c48 => ?_)
    refine z_iconst (v := nI 0) dX8_exponent_51 (by decide) ?_
    refine z_goto (tgt := 56) dX8_exponent_52 (by decide) ?_
    refine z_iaddN dX8_exponent_56 ?_
    refine z_istore_n (lv' := [(1, _), (0, _), (2, _)]) dX8_exponent_57 rfl (by decide) rfl ?_
    refine z_goto (tgt := 4) dX8_exponent_58 (by decide) ?_
    refine z_iload_n dX8_exponent_4 rfl ?_
    refine z_ifB_ne (tgt := 61) dX8_exponent_5 (by decide) (fun c5 => ?_) (fun c5 => Bool.noConfusion c5)
    refine z_iload_n dX8_exponent_61 rfl ?_
    exact z_ret (ty := none) (v := none) rfl dX8_exponent_62 ⟨by rw [show n + 0 = exN a b by omega], rfl⟩
  | succ f ih =>
    intro n hf hn
    have hal : anyN (exF a b n) (a * b) = true := by
      cases q : anyN (exF a b n) (a * b) with
      | true => rfl
      | false => have := (ex_all ha ha6 hb hb6 hn (by omega)).mp q; omega
    refine z_iload_n dX8_exponent_4 rfl ?_
    refine z_ifN_ne (tgt := 61) dX8_exponent_5 (by decide) (by omega) (fun c5 => absurd rfl c5) (fun c5 => ?_)
    refine z_iconst (v := nI 1) dX8_exponent_8 (by decide) ?_
    refine z_istore_n (lv' := [(2, _), (0, _), (1, _)]) dX8_exponent_9 rfl (by decide) rfl ?_
    refine z_iconst (v := nI 0) dX8_exponent_10 (by decide) ?_
    refine z_istore_n (lv' := [(3, _), (2, _), (0, _), (1, _)]) dX8_exponent_11 rfl (by decide) rfl ?_
    refine z_sub (lv' := [(0, _), (1, _), (2, _), (3, _)]) rfl ?_
    refine lp2_X8_exponent G hg hn (by omega) ?_ (a * b) 0 (by omega)
    rw [hal]
    refine z_iload_n dX8_exponent_46 rfl ?_
    refine z_iload_n dX8_exponent_47 rfl ?_
    refine z_ifB_eq (tgt := 55) dX8_exponent_48 (by decide) (fun c48 => ?_) (fun c48 => Bool.noConfusion c48)
    refine z_iconst (v := nI 1) dX8_exponent_55 (by decide) ?_
    refine z_iaddN dX8_exponent_56 ?_
    refine z_istore_n (lv' := [(1, _), (0, _), (2, _)]) dX8_exponent_57 rfl (by decide) rfl ?_
    refine z_goto (tgt := 4) dX8_exponent_58 (by decide) ?_
    refine z_sub (lv' := [(0, _), (1, _), (2, _)]) rfl ?_
    exact ih (n + 1) (by omega) (by omega)
set_option maxRecDepth 100000 in
theorem ev_X8_exponent (G : Gt) {a b : Nat} {μ : Mm} (hg : nwG μ a b) : EVr G 2 Y_X8_exponent [rf G 35] μ (.int (nI (exN a b))) := by
  have hab := hg.ab
  have hab1 := hg.p
  have ha := hg.2.2.1
  have ha6 := hg.2.2.2.1
  have hb := hg.2.2.2.2.1
  have hb6 := hg.2.2.2.2.2
  have hex := ex_bd ha ha6 hb hb6
  refine ev_of (by decide) (Nat.le_of_ble_eq_true rfl) ?_
  show Zs G 2 Y_X8_exponent (fnN G _) 0 [(0, rf G 35)] [] μ
  refine z_iconst (v := nI 1) dX8_exponent_0 (by decide) ?_
  refine z_istore_n (lv' := [(1, _), (0, _)]) dX8_exponent_1 rfl (by decide) rfl ?_
  refine z_iconst (v := nI 0) dX8_exponent_2 (by decide) ?_
  refine z_istore_n (lv' := [(2, _), (1, _), (0, _)]) dX8_exponent_3 rfl (by decide) rfl ?_
  refine z_sub (lv' := [(0, _), (1, _), (2, _)]) rfl ?_
  exact lp_X8_exponent G hg (exN a b - 1) 1 (by omega) (Nat.le_refl _)
set_option maxRecDepth 100000 in
theorem ev_X8_has (G : Gt) {S k : Nat} {μ : Mm} (hS : S < 2 ^ 31) (hk : k < 32) : EVr G 0 Y_X8_has [.int (nI S), .int (nI k)] μ (.int (bI (S.testBit k))) := by
  have hand : S / 2 ^ k &&& 1 ≤ 1 := Nat.and_le_right
  refine ev_of (by decide) (Nat.le_of_ble_eq_true rfl) ?_
  show Zs G 0 Y_X8_has (fnN G _) 0 [(0, .int (nI S)), (1, .int (nI k))] [] μ
  refine z_iload_n dX8_has_0 rfl ?_
  refine z_iload_n dX8_has_1 rfl ?_
  refine z_ishrN dX8_has_2 (by omega) (by omega) ?_
  refine z_iconst (v := nI 1) dX8_has_3 (by decide) ?_
  refine z_iandN dX8_has_4 ?_
  refine z_iconst (v := nI 1) dX8_has_5 (by decide) ?_
  refine z_icmpN_ne (tgt := 13) dX8_has_6 (by decide) (by omega) (by omega) (fun c6 => ?_) (fun c6 => ?_)
  · refine z_iconst (v := nI 0) dX8_has_13 (by decide) ?_
    exact z_zret rfl rfl dX8_has_14 ⟨by cases q : S.testBit k with
      | true => exact absurd ((tb_div S k).1.mpr q) c6
      | false => rfl, rfl⟩
  · refine z_iconst (v := nI 1) dX8_has_9 (by decide) ?_
    refine z_goto (tgt := 14) dX8_has_10 (by decide) ?_
    exact z_zret rfl rfl dX8_has_14 ⟨by rw [(tb_div S k).1.mp c6]; rfl, rfl⟩
set_option maxRecDepth 100000 in
theorem lp_X8_bits (G : Gt) {S : Nat} {μ : Mm} (hS : S < 2 ^ 31) : ∀ (f k : Nat), k + f = 11 →
    Zs G 0 Y_X8_bits (fnN G (fun v u => v = some (.int (nI (pcN S))) ∧ u = μ)) 4 [(0, .int (nI S)), (1, .int (nI (cntN S.testBit k))), (2, .int (nI k))] [] μ := by
  intro f
  induction f with
  | zero =>
    intro k hf
    refine z_iload_n dX8_bits_4 rfl ?_
    refine z_bipush (v := nI 11) dX8_bits_5 (by decide) ?_
    refine z_icmpN_ge (tgt := 24) dX8_bits_7 (by decide) (by omega) (by omega) (fun c7 => ?_) (fun c7 => absurd c7 (by omega))
    refine z_iload_n dX8_bits_24 rfl ?_
    exact z_ret (ty := none) (v := none) rfl dX8_bits_25 ⟨by rw [show k = 11 by omega]; rfl, rfl⟩
  | succ f ih =>
    intro k hf
    refine z_iload_n dX8_bits_4 rfl ?_
    refine z_bipush (v := nI 11) dX8_bits_5 (by decide) ?_
    refine z_icmpN_ge (tgt := 24) dX8_bits_7 (by decide) (by omega) (by omega) (fun c7 => absurd c7 (by omega)) (fun c7 => ?_)
    refine z_iload_n dX8_bits_10 rfl ?_
    refine z_iload_n dX8_bits_11 rfl ?_
    refine z_iload_n dX8_bits_12 rfl ?_
    refine z_ishrN dX8_bits_13 (by omega) (by omega) ?_
    refine z_iconst (v := nI 1) dX8_bits_14 (by decide) ?_
    refine z_iandN dX8_bits_15 ?_
    refine z_iaddN dX8_bits_16 ?_
    refine z_istore_n (lv' := [(1, _), (0, _), (2, _)]) dX8_bits_17 rfl (by decide) rfl ?_
    refine z_iinc (v := nI (k + 1)) (lv' := [(2, _), (1, _), (0, _)]) dX8_bits_18 rfl (nI_inc _ 1) (by decide) rfl ?_
    refine z_goto (tgt := 4) dX8_bits_21 (by decide) ?_
    have q := ih (k + 1) (by omega)
    rw [show cntN S.testBit (k + 1) = cntN S.testBit k + (S / 2 ^ k &&& 1) by
      rw [cntN_succ]
      by_cases e : S.testBit k = true
      · rw [if_pos e, (tb_div S k).1.mpr e]
      · rw [if_neg e, (tb_div S k).2.mpr (by simpa using e), Nat.add_zero]] at q
    refine z_sub (lv' := [(0, _), (1, _), (2, _)]) rfl ?_
    exact q
set_option maxRecDepth 100000 in
theorem ev_X8_bits (G : Gt) {S : Nat} {μ : Mm} (hS : S < 2 ^ 31) : EVr G 0 Y_X8_bits [.int (nI S)] μ (.int (nI (pcN S))) := by
  refine ev_of (by decide) (Nat.le_of_ble_eq_true rfl) ?_
  show Zs G 0 Y_X8_bits (fnN G _) 0 [(0, .int (nI S))] [] μ
  refine z_iconst (v := nI 0) dX8_bits_0 (by decide) ?_
  refine z_istore_n (lv' := [(1, _), (0, _)]) dX8_bits_1 rfl (by decide) rfl ?_
  refine z_iconst (v := nI 0) dX8_bits_2 (by decide) ?_
  refine z_istore_n (lv' := [(2, _), (1, _), (0, _)]) dX8_bits_3 rfl (by decide) rfl ?_
  refine z_sub (lv' := [(0, _), (1, _), (2, _)]) rfl ?_
  exact lp_X8_bits G hS 11 0 rfl
set_option maxRecDepth 100000 in
theorem ev_X8_isIn (G : Gt) {P S : Nat} {μ : Mm} (hP : P < 2 ^ 31) : EVr G 0 Y_X8_isIn [rf G 35, .int (nI P), .int (nI S)] μ (.int (bI (sb P S))) := by
  refine ev_of (by decide) (Nat.le_of_ble_eq_true rfl) ?_
  show Zs G 0 Y_X8_isIn (fnN G _) 0 [(0, rf G 35), (1, .int (nI P)), (2, .int (nI S))] [] μ
  refine z_iload_n dX8_isIn_0 rfl ?_
  refine z_iload_n dX8_isIn_1 rfl ?_
  refine z_iconst (v := -1) dX8_isIn_2 (by decide) ?_
  refine z_ixor dX8_isIn_3 ?_
  refine z_iand dX8_isIn_4 ?_
  rw [nI_andn]
  have hle := andn_le P S
  refine z_ifN_ne (tgt := 12) dX8_isIn_5 (by decide) (by omega) (fun c5 => ?_) (fun c5 => ?_)
  · refine z_iconst (v := nI 0) dX8_isIn_12 (by decide) ?_
    exact z_zret rfl rfl dX8_isIn_13 ⟨by cases q : sb P S with
      | true => exact absurd (andn_zero.mpr q) c5
      | false => rfl, rfl⟩
  · refine z_iconst (v := nI 1) dX8_isIn_8 (by decide) ?_
    refine z_goto (tgt := 13) dX8_isIn_9 (by decide) ?_
    exact z_zret rfl rfl dX8_isIn_13 ⟨by rw [andn_zero.mp c5]; rfl, rfl⟩
set_option maxRecDepth 100000 in
theorem ev_X8_all (G : Gt) {a b n : Nat} {E Q : Nat → Nat} {μ : Mm} (h : nwOK μ a b n E Q) : EVr G 0 Y_X8_all [rf G 35] μ (.int (nI (2 ^ n - 1))) := by
  have hn := h.le
  have hpw := p1024 hn
  have hpw1 := ppos n
  refine ev_of (by decide) (Nat.le_of_ble_eq_true rfl) ?_
  show Zs G 0 Y_X8_all (fnN G _) 0 [(0, rf G 35)] [] μ
  refine z_iconst (v := nI 1) dX8_all_0 (by decide) ?_
  refine z_aload_n dX8_all_1 rfl ?_
  refine z_getR (j := 36) dX8_all_2 fl_X8_7 ⟨by decide, _, rfl, rfl⟩ ?_
  refine z_iconst (v := nI 2) dX8_all_5 (by decide) ?_
  refine z_ialdN dX8_all_6 ⟨by decide, rfl⟩ (by omega) (by decide) h.vn ?_
  refine z_ishlN dX8_all_7 (by omega) (by omega) ?_
  refine z_iconst (v := nI 1) dX8_all_8 (by decide) ?_
  refine z_isubN dX8_all_9 (by omega) ?_
  exact z_ret (ty := none) (v := none) rfl dX8_all_10 ⟨by rw [Nat.one_mul], rfl⟩
theorem sb_all {y n : Nat} : sb y (2 ^ n - 1) = decide (y < 2 ^ n) := by
  unfold sb
  rw [Nat.and_two_pow_sub_one_eq_mod]
  by_cases h : y < 2 ^ n
  · rw [Nat.mod_eq_of_lt h, decide_eq_true h, decide_eq_true rfl]
  · have := Nat.mod_lt y (ppos n)
    rw [decide_eq_false h, decide_eq_false (by omega)]
set_option maxRecDepth 100000 in
theorem ev_X8_isSet (G : Gt) {a b n : Nat} {E Q : Nat → Nat} {μ : Mm} (h : nwOK μ a b n E Q) {x : Int32} : EVr G 1 Y_X8_isSet [rf G 35, .int x] μ (.int (bI (inR x (2 ^ n)))) := by
  have hn := h.le
  have hpw := p1024 hn
  refine ev_of (by decide) (Nat.le_of_ble_eq_true rfl) ?_
  show Zs G 1 Y_X8_isSet (fnN G _) 0 [(0, rf G 35), (1, .int x)] [] μ
  refine z_iload_n dX8_isSet_0 rfl ?_
  refine z_if_lt (tgt := 19) dX8_isSet_1 (by decide) (fun c1 => ?_) (fun c1 => ?_)
  · refine z_iconst (v := nI 0) dX8_isSet_19 (by decide) ?_
    exact z_zret rfl rfl dX8_isSet_20 ⟨by rw [inR_neg c1]; rfl, rfl⟩
  · obtain ⟨y, hy, rfl⟩ := nI_of c1
    refine z_iload_n dX8_isSet_4 rfl ?_
    refine z_aload_n dX8_isSet_5 rfl ?_
    refine z_cV0 dX8_isSet_6 lk_X8_101 (by decide) ⟨by decide, _, rfl⟩ rfl (Nat.le_of_ble_eq_true rfl) (ev_X8_all G h) ?_
    refine z_iconst (v := -1) dX8_isSet_9 (by decide) ?_
    refine z_ixor dX8_isSet_10 ?_
    refine z_iand dX8_isSet_11 ?_
    rw [nI_andn]
    have hle := andn_le y (2 ^ n - 1)
    refine z_ifN_ne (tgt := 19) dX8_isSet_12 (by decide) (by omega) (fun c12 => ?_) (fun c12 => ?_)
    · refine z_iconst (v := nI 0) dX8_isSet_19 (by decide) ?_
      exact z_zret rfl rfl dX8_isSet_20 ⟨by rw [inR_N hy, ← sb_all]; cases q : sb y (2 ^ n - 1) with
      | true => exact absurd (andn_zero.mpr q) c12
      | false => rfl, rfl⟩
    · refine z_iconst (v := nI 1) dX8_isSet_15 (by decide) ?_
      refine z_goto (tgt := 20) dX8_isSet_16 (by decide) ?_
      exact z_zret rfl rfl dX8_isSet_20 ⟨by have q := andn_zero.mp c12; rw [inR_N hy, ← sb_all, q]; rfl, rfl⟩
