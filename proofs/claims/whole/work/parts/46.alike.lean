/-- how often an element stands in S, less how often in T, of the first k places -/
def cdI (E : Nat → Nat) (S T e k : Nat) : Int32 := Int32.ofInt ((toN E e S k : Int) - (toN E e T k : Int))
theorem cdI_0 (E : Nat → Nat) (S T e : Nat) : cdI E S T e 0 = nI 0 := rfl
theorem cd_dec : ∀ x : Nat, x < 11 → ∀ y : Nat, y < 11 → (Int32.ofInt ((x : Int) - (y : Int)) = 0 ↔ x = y) := by decide +kernel
theorem cdI_z {E : Nat → Nat} {S T e n : Nat} (hn : n ≤ 10) : cdI E S T e n = 0 ↔ toN E e S n = toN E e T n :=
  cd_dec _ (by have := toN_le E e S n; omega) _ (by have := toN_le E e T n; omega)
def b01 (c : Bool) : Nat := if c then 1 else 0
theorem toN_s (E : Nat → Nat) (e S k : Nat) : toN E e S (k + 1) = toN E e S k + b01 (decide (E k = e) && S.testBit k) := by
  unfold toN b01
  rw [cntN_succ]
  by_cases c : (decide (E k = e) && S.testBit k) = true
  · rw [if_pos c, if_pos c]
  · rw [if_neg c, if_neg c]; rfl
theorem b01_d : ∀ c d : Bool, nI (b01 c) - nI (b01 d) = Int32.ofInt ((b01 c : Int) - (b01 d : Int)) := by decide
theorem cdI_s (E : Nat → Nat) (S T k : Nat) : cdI E S T (E k) k + (nI (b01 (S.testBit k)) - nI (b01 (T.testBit k))) = cdI E S T (E k) (k + 1) := by
  unfold cdI
  rw [b01_d, ← Int32.ofInt_add, toN_s, toN_s, decide_eq_true (rfl : E k = E k), Bool.true_and, Bool.true_and]
  congr 1
  omega
theorem cdI_n {E : Nat → Nat} {S T e k : Nat} (h : e ≠ E k) : cdI E S T e (k + 1) = cdI E S T e k := by
  unfold cdI
  rw [toN_s, toN_s, decide_eq_false (fun q => h q.symm), Bool.false_and, Bool.false_and]; rfl
/-- row 45 alone is changed -/
def aqF (μ u : Mm) : Prop := u.1 = μ.1 ∧ (∀ i : Nat, ¬ i = 45 → u.2.1 i = μ.2.1 i) ∧ u.2.2 = μ.2.2
theorem aqF.rf {μ : Mm} : aqF μ μ := ⟨rfl, fun _ _ => rfl, rfl⟩
theorem aqF.trans {μ u u2 : Mm} (h : aqF μ u) (h2 : aqF u u2) : aqF μ u2 := ⟨h2.1.trans h.1, fun i q => (h2.2.1 i q).trans (h.2.1 i q), h2.2.2.trans h.2.2⟩
theorem aqF.uR {μ u : Mm} {i j : Nat} {x : Int32} (h : aqF μ u) (h1 : i = 45) : aqF μ (uR u i j x) := h.trans ⟨rfl, fun i' q => uR_n _ _ _ (by omega), rfl⟩
theorem aqF.q {μ u : Mm} (h : aqF μ u) : mqF μ u := ⟨fun i k _ => by rw [h.1], fun i q => h.2.1 i (by omega), h.2.2⟩
theorem lkE.a {μ u : Mm} {a b M : Nat} {E : Nat → Nat} (h : lkE μ a b M E) (hf : aqF μ u) : lkE u a b M E := h.same (by rw [hf.1]) (hf.2.1 40 (by omega))
theorem lkS.a {μ u : Mm} {a b N : Nat} {E : Nat → Nat} (h : lkS μ a b E N) (hf : aqF μ u) : lkS u a b E N := by unfold lkS; rw [hf.2.1 41 (by omega), hf.2.1 42 (by omega)]; exact h
theorem cd_step {μ : Mm} {N k : Nat} {E : Nat → Nat} {S T : Nat} (hc : ∀ e : Nat, e < N → μ.2.1 45 e = cdI E S T e k) : ∀ e : Nat, e < N → (uR μ 45 (E k) (cdI E S T (E k) (k + 1))).2.1 45 e = cdI E S T e (k + 1) := by
  intro e he
  rw [uR_s]
  by_cases q : e = E k
  · rw [q, upd_s]
  · rw [upd_n _ _ q, cdI_n q]; exact hc e he
def alN (a b : Nat) (E : Nat → Nat) (n S T : Nat) : Bool := !anyN (fun e => decide (toN E e S n ≠ toN E e T n)) (a * b)
set_option maxRecDepth 100000 in
theorem lp3_X8_areAlike (G : Gt) {a b n : Nat} {E Q : Nat → Nat} {S T : Nat} (hS : S < 2 ^ 31) (hT : T < 2 ^ 31) {μ0 μ : Mm} (hq : aqF μ0 μ) (h : nwOK μ a b n E Q) (hc : ∀ e : Nat, e < a * b → μ.2.1 45 e = cdI E S T e n) : ∀ (f e : Nat), e + f = a * b →
    Zs G 1 Y_X8_areAlike (fnN G (fun v u => v = some (.int (bI (alN a b E n S T))) ∧ aqF μ0 u)) 89 [(0, rf G 35), (1, .int (nI S)), (2, .int (nI T)), (3, .int (bI (!anyN (fun e => decide (toN E e S n ≠ toN E e T n)) e))), (4, .int (nI e))] [] μ := by
  intro f
  have hn := h.le
  have hab := h.ab
  induction f with
  | zero =>
    intro e hf
    refine z_iload dX8_areAlike_89 rfl ?_
    refine z_aload_n dX8_areAlike_91 rfl ?_
    refine z_cV0 dX8_areAlike_92 lk_X8_56 (by decide) ⟨by decide, _, rfl⟩ rfl (Nat.le_of_ble_eq_true rfl) (ev_X8_size G h.G) ?_
    refine z_icmpN_ge (tgt := 124) dX8_areAlike_95 (by decide) (by omega) (by omega) (fun c95 => ?_) (fun c95 => absurd c95 (by omega))
    refine z_iload_n dX8_areAlike_124 rfl ?_
    exact z_zret rfl (bI_nar _) dX8_areAlike_125 ⟨by rw [show e = a * b by omega]; rfl, hq⟩
  | succ f ih =>
    intro e hf
    have hz := cdI_z (E := E) (S := S) (T := T) (e := e) hn
    refine z_iload dX8_areAlike_89 rfl ?_
    refine z_aload_n dX8_areAlike_91 rfl ?_
    refine z_cV0 dX8_areAlike_92 lk_X8_56 (by decide) ⟨by decide, _, rfl⟩ rfl (Nat.le_of_ble_eq_true rfl) (ev_X8_size G h.G) ?_
    refine z_icmpN_ge (tgt := 124) dX8_areAlike_95 (by decide) (by omega) (by omega) (fun c95 => absurd c95 (by omega)) (fun c95 => ?_)
    refine z_iload_n dX8_areAlike_98 rfl ?_
    refine z_ifB_eq (tgt := 116) dX8_areAlike_99 (by decide) (fun c99 => ?_) (fun c99 => ?_)
    · refine z_iconst (v := nI 0) dX8_areAlike_116 (by decide) ?_
      refine z_istore_n (lv' := [(3, _), (0, _), (1, _), (2, _), (4, _)]) dX8_areAlike_117 rfl (by decide) rfl ?_
      refine z_iinc (v := nI (e + 1)) (lv' := [(4, _), (3, _), (0, _), (1, _), (2, _)]) dX8_areAlike_118 rfl (nI_inc _ 1) (by decide) rfl ?_
      refine z_goto (tgt := 89) dX8_areAlike_121 (by decide) ?_
      have q := ih (e + 1) (by omega)
      rw [show bI (!anyN (fun e => decide (toN E e S n ≠ toN E e T n)) (e + 1)) = nI 0 by rw [show anyN (fun e => decide (toN E e S n ≠ toN E e T n)) (e + 1) = (anyN (fun e => decide (toN E e S n ≠ toN E e T n)) e || decide (toN E e S n ≠ toN E e T n)) from rfl]; rw [show anyN (fun e => decide (toN E e S n ≠ toN E e T n)) e = true by simpa using c99]; rfl] at q
      refine z_sub (lv' := [(0, _), (1, _), (2, _), (3, _), (4, _)]) rfl ?_
      exact q
    · refine z_aload_n dX8_areAlike_102 rfl ?_
      refine z_getR (j := 45) dX8_areAlike_103 fl_X8_38 ⟨by decide, _, rfl, rfl⟩ ?_
      refine z_iload dX8_areAlike_106 rfl ?_
      refine z_ialdN dX8_areAlike_108 ⟨by decide, rfl⟩ (by omega) (by decide) (hc e (by omega)) ?_
      refine z_if_ne (tgt := 116) dX8_areAlike_109 (by decide) (fun c109 => ?_) (fun c109 => ?_)
      · refine z_iconst (v := nI 0) dX8_areAlike_116 (by decide) ?_
        refine z_istore_n (lv' := [(3, _), (0, _), (1, _), (2, _), (4, _)]) dX8_areAlike_117 rfl (by decide) rfl ?_
        refine z_iinc (v := nI (e + 1)) (lv' := [(4, _), (3, _), (0, _), (1, _), (2, _)]) dX8_areAlike_118 rfl (nI_inc _ 1) (by decide) rfl ?_
        refine z_goto (tgt := 89) dX8_areAlike_121 (by decide) ?_
        have q := ih (e + 1) (by omega)
        rw [show bI (!anyN (fun e => decide (toN E e S n ≠ toN E e T n)) (e + 1)) = nI 0 by rw [show anyN (fun e => decide (toN E e S n ≠ toN E e T n)) (e + 1) = (anyN (fun e => decide (toN E e S n ≠ toN E e T n)) e || decide (toN E e S n ≠ toN E e T n)) from rfl]; rw [decide_eq_true (show toN E e S n ≠ toN E e T n from fun q => c109 (hz.mpr q)), Bool.or_true]; rfl] at q
        refine z_sub (lv' := [(0, _), (1, _), (2, _), (3, _), (4, _)]) rfl ?_
        exact q
      · refine z_iconst (v := nI 1) dX8_areAlike_112 (by decide) ?_
        refine z_goto (tgt := 117) dX8_areAlike_113 (by decide) ?_
        refine z_istore_n (lv' := [(3, _), (0, _), (1, _), (2, _), (4, _)]) dX8_areAlike_117 rfl (by decide) rfl ?_
        refine z_iinc (v := nI (e + 1)) (lv' := [(4, _), (3, _), (0, _), (1, _), (2, _)]) dX8_areAlike_118 rfl (nI_inc _ 1) (by decide) rfl ?_
        refine z_goto (tgt := 89) dX8_areAlike_121 (by decide) ?_
        have q := ih (e + 1) (by omega)
        rw [show bI (!anyN (fun e => decide (toN E e S n ≠ toN E e T n)) (e + 1)) = nI 1 by rw [show anyN (fun e => decide (toN E e S n ≠ toN E e T n)) (e + 1) = (anyN (fun e => decide (toN E e S n ≠ toN E e T n)) e || decide (toN E e S n ≠ toN E e T n)) from rfl]; rw [decide_eq_false (show ¬ toN E e S n ≠ toN E e T n from fun q => q (hz.mp c109)), Bool.or_false, c99]; rfl] at q
        refine z_sub (lv' := [(0, _), (1, _), (2, _), (3, _), (4, _)]) rfl ?_
        exact q
set_option maxRecDepth 100000 in
theorem lp2_X8_areAlike (G : Gt) {a b n : Nat} {E Q : Nat → Nat} {S T : Nat} (hS : S < 2 ^ 31) (hT : T < 2 ^ 31) {μ0 : Mm} : ∀ (f k : Nat) (μ : Mm), k + f = n → aqF μ0 μ → nwOK μ a b n E Q → (∀ e : Nat, e < a * b → μ.2.1 45 e = cdI E S T e k) →
    Zs G 1 Y_X8_areAlike (fnN G (fun v u => v = some (.int (bI (alN a b E n S T))) ∧ aqF μ0 u)) 25 [(0, rf G 35), (1, .int (nI S)), (2, .int (nI T)), (3, .int (nI k))] [] μ := by
  intro f
  induction f with
  | zero =>
    intro k μ hf hq h hc
    have hn := h.le
    refine z_iload_n dX8_areAlike_25 rfl ?_
    refine z_aload_n dX8_areAlike_26 rfl ?_
    refine z_getR (j := 36) dX8_areAlike_27 fl_X8_7 ⟨by decide, _, rfl, rfl⟩ ?_
    refine z_iconst (v := nI 2) dX8_areAlike_30 (by decide) ?_
    refine z_ialdN dX8_areAlike_31 ⟨by decide, rfl⟩ (by omega) (by decide) h.vn ?_
    refine z_icmpN_ge (tgt := 84) dX8_areAlike_32 (by decide) (by omega) (by omega) (fun c32 => ?_) (fun c32 => absurd c32 (by omega))
    refine z_iconst (v := nI 1) dX8_areAlike_84 (by decide) ?_
    refine z_istore_n (lv' := [(3, _), (0, _), (1, _), (2, _)]) dX8_areAlike_85 rfl (by decide) rfl ?_
    refine z_iconst (v := nI 0) dX8_areAlike_86 (by decide) ?_
    refine z_istore (lv' := [(4, _), (3, _), (0, _), (1, _), (2, _)]) dX8_areAlike_87 (by decide) rfl ?_
    refine z_sub (lv' := [(0, _), (1, _), (2, _), (3, _), (4, _)]) rfl ?_
    exact lp3_X8_areAlike G hS hT hq h (by rw [show n = k by omega]; exact hc) (a * b) 0 (by omega)
  | succ f ih =>
    intro k μ hf hq h hc
    have hn := h.le
    have hab := h.ab
    have hek := h.el (show k < n by omega)
    have hcs := cdI_s E S T k
    refine z_iload_n dX8_areAlike_25 rfl ?_
    refine z_aload_n dX8_areAlike_26 rfl ?_
    refine z_getR (j := 36) dX8_areAlike_27 fl_X8_7 ⟨by decide, _, rfl, rfl⟩ ?_
    refine z_iconst (v := nI 2) dX8_areAlike_30 (by decide) ?_
    refine z_ialdN dX8_areAlike_31 ⟨by decide, rfl⟩ (by omega) (by decide) h.vn ?_
    refine z_icmpN_ge (tgt := 84) dX8_areAlike_32 (by decide) (by omega) (by omega) (fun c32 => absurd c32 (by omega)) (fun c32 => ?_)
    refine z_aload_n dX8_areAlike_35 rfl ?_
    refine z_getR (j := 45) dX8_areAlike_36 fl_X8_38 ⟨by decide, _, rfl, rfl⟩ ?_
    refine z_aload_n dX8_areAlike_39 rfl ?_
    refine z_getR (j := 36) dX8_areAlike_40 fl_X8_7 ⟨by decide, _, rfl, rfl⟩ ?_
    refine z_iconst (v := nI 3) dX8_areAlike_43 (by decide) ?_
    refine z_iload_n dX8_areAlike_44 rfl ?_
    refine z_iaddN dX8_areAlike_45 ?_
    refine z_ialdN dX8_areAlike_46 ⟨by decide, rfl⟩ (by omega) (by decide) (h.e (show k < n by omega)) ?_
    refine z_dup2 dX8_areAlike_47 rfl rfl ?_
    refine z_ialdN dX8_areAlike_48 ⟨by decide, rfl⟩ (by omega) (by decide) (hc _ hek) ?_
    refine z_iload_n dX8_areAlike_49 rfl ?_
    refine z_iload_n dX8_areAlike_50 rfl ?_
    refine z_cS2 dX8_areAlike_51 lk_X8_84 (by decide) (Nat.le_of_ble_eq_true rfl) (ev_X8_has G (by omega) (by omega)) ?_
    refine z_ifB_eq (tgt := 61) dX8_areAlike_54 (by decide) (fun c54 => ?_) (fun c54 => ?_)
    · refine z_iconst (v := nI 0) dX8_areAlike_61 (by decide) ?_
      refine z_iload_n dX8_areAlike_62 rfl ?_
      refine z_iload_n dX8_areAlike_63 rfl ?_
      refine z_cS2 dX8_areAlike_64 lk_X8_84 (by decide) (Nat.le_of_ble_eq_true rfl) (ev_X8_has G (by omega) (by omega)) ?_
      refine z_ifB_eq (tgt := 74) dX8_areAlike_67 (by decide) (fun c67 => ?_) (fun c67 => ?_)
      · refine z_iconst (v := nI 0) dX8_areAlike_74 (by decide) ?_
        refine z_isub dX8_areAlike_75 ?_
        refine z_iadd dX8_areAlike_76 ?_
        refine z_iastN dX8_areAlike_77 ⟨by decide, rfl⟩ (by omega) (by decide) ?_
        refine z_iinc (v := nI (k + 1)) (lv' := [(3, _), (0, _), (1, _), (2, _)]) dX8_areAlike_78 rfl (nI_inc _ 1) (by decide) rfl ?_
        have hx : cdI E S T (E k) k + (nI 0 - nI 0) = cdI E S T (E k) (k + 1) := by rw [← hcs, c54, c67]; rfl
        rw [hx]
        refine z_goto (tgt := 25) dX8_areAlike_81 (by decide) ?_
        have q := ih (k + 1) _ (by omega) (hq.uR (i := 45) (j := E k) (x := cdI E S T (E k) (k + 1)) rfl) (h.q (aqF.rf.uR rfl).q) (cd_step hc)
        refine z_sub (lv' := [(0, _), (1, _), (2, _), (3, _)]) rfl ?_
        exact q
      · refine z_iconst (v := nI 1) dX8_areAlike_70 (by decide) ?_
        refine z_goto (tgt := 75) dX8_areAlike_71 (by decide) ?_
        refine z_isub dX8_areAlike_75 ?_
        refine z_iadd dX8_areAlike_76 ?_
        refine z_iastN dX8_areAlike_77 ⟨by decide, rfl⟩ (by omega) (by decide) ?_
        refine z_iinc (v := nI (k + 1)) (lv' := [(3, _), (0, _), (1, _), (2, _)]) dX8_areAlike_78 rfl (nI_inc _ 1) (by decide) rfl ?_
        have hx : cdI E S T (E k) k + (nI 0 - nI 1) = cdI E S T (E k) (k + 1) := by rw [← hcs, c54, c67]; rfl
        rw [hx]
        refine z_goto (tgt := 25) dX8_areAlike_81 (by decide) ?_
        have q := ih (k + 1) _ (by omega) (hq.uR (i := 45) (j := E k) (x := cdI E S T (E k) (k + 1)) rfl) (h.q (aqF.rf.uR rfl).q) (cd_step hc)
        refine z_sub (lv' := [(0, _), (1, _), (2, _), (3, _)]) rfl ?_
        exact q
    · refine z_iconst (v := nI 1) dX8_areAlike_57 (by decide) ?_
      refine z_goto (tgt := 62) dX8_areAlike_58 (by decide) ?_
      refine z_iload_n dX8_areAlike_62 rfl ?_
      refine z_iload_n dX8_areAlike_63 rfl ?_
      refine z_cS2 dX8_areAlike_64 lk_X8_84 (by decide) (Nat.le_of_ble_eq_true rfl) (ev_X8_has G (by omega) (by omega)) ?_
      refine z_ifB_eq (tgt := 74) dX8_areAlike_67 (by decide) (fun c67 => ?_) (fun c67 => ?_)
      · refine z_iconst (v := nI 0) dX8_areAlike_74 (by decide) ?_
        refine z_isub dX8_areAlike_75 ?_
        refine z_iadd dX8_areAlike_76 ?_
        refine z_iastN dX8_areAlike_77 ⟨by decide, rfl⟩ (by omega) (by decide) ?_
        refine z_iinc (v := nI (k + 1)) (lv' := [(3, _), (0, _), (1, _), (2, _)]) dX8_areAlike_78 rfl (nI_inc _ 1) (by decide) rfl ?_
        have hx : cdI E S T (E k) k + (nI 1 - nI 0) = cdI E S T (E k) (k + 1) := by rw [← hcs, c54, c67]; rfl
        rw [hx]
        refine z_goto (tgt := 25) dX8_areAlike_81 (by decide) ?_
        have q := ih (k + 1) _ (by omega) (hq.uR (i := 45) (j := E k) (x := cdI E S T (E k) (k + 1)) rfl) (h.q (aqF.rf.uR rfl).q) (cd_step hc)
        refine z_sub (lv' := [(0, _), (1, _), (2, _), (3, _)]) rfl ?_
        exact q
      · refine z_iconst (v := nI 1) dX8_areAlike_70 (by decide) ?_
        refine z_goto (tgt := 75) dX8_areAlike_71 (by decide) ?_
        refine z_isub dX8_areAlike_75 ?_
        refine z_iadd dX8_areAlike_76 ?_
        refine z_iastN dX8_areAlike_77 ⟨by decide, rfl⟩ (by omega) (by decide) ?_
        refine z_iinc (v := nI (k + 1)) (lv' := [(3, _), (0, _), (1, _), (2, _)]) dX8_areAlike_78 rfl (nI_inc _ 1) (by decide) rfl ?_
        have hx : cdI E S T (E k) k + (nI 1 - nI 1) = cdI E S T (E k) (k + 1) := by rw [← hcs, c54, c67]; rfl
        rw [hx]
        refine z_goto (tgt := 25) dX8_areAlike_81 (by decide) ?_
        have q := ih (k + 1) _ (by omega) (hq.uR (i := 45) (j := E k) (x := cdI E S T (E k) (k + 1)) rfl) (h.q (aqF.rf.uR rfl).q) (cd_step hc)
        refine z_sub (lv' := [(0, _), (1, _), (2, _), (3, _)]) rfl ?_
        exact q
set_option maxRecDepth 100000 in
theorem lp1_X8_areAlike (G : Gt) {a b n : Nat} {E Q : Nat → Nat} {S T : Nat} (hS : S < 2 ^ 31) (hT : T < 2 ^ 31) {μ0 : Mm} : ∀ (f e : Nat) (μ : Mm), e + f = a * b → aqF μ0 μ → nwOK μ a b n E Q → (∀ j : Nat, j < e → μ.2.1 45 j = nI 0) →
    Zs G 1 Y_X8_areAlike (fnN G (fun v u => v = some (.int (bI (alN a b E n S T))) ∧ aqF μ0 u)) 2 [(0, rf G 35), (1, .int (nI S)), (2, .int (nI T)), (3, .int (nI e))] [] μ := by
  intro f
  induction f with
  | zero =>
    intro e μ hf hq h hc
    have hab := h.ab
    refine z_iload_n dX8_areAlike_2 rfl ?_
    refine z_aload_n dX8_areAlike_3 rfl ?_
    refine z_cV0 dX8_areAlike_4 lk_X8_56 (by decide) ⟨by decide, _, rfl⟩ rfl (Nat.le_of_ble_eq_true rfl) (ev_X8_size G h.G) ?_
    refine z_icmpN_ge (tgt := 23) dX8_areAlike_7 (by decide) (by omega) (by omega) (fun c7 => ?_) (fun c7 => absurd c7 (by omega))
    refine z_iconst (v := nI 0) dX8_areAlike_23 (by decide) ?_
    refine z_istore_n (lv' := [(3, _), (0, _), (1, _), (2, _)]) dX8_areAlike_24 rfl (by decide) rfl ?_
    refine z_sub (lv' := [(0, _), (1, _), (2, _), (3, _)]) rfl ?_
    exact lp2_X8_areAlike G hS hT n 0 μ (by omega) hq h (fun j hj => by rw [cdI_0]; exact hc j (by omega))
  | succ f ih =>
    intro e μ hf hq h hc
    have hab := h.ab
    refine z_iload_n dX8_areAlike_2 rfl ?_
    refine z_aload_n dX8_areAlike_3 rfl ?_
    refine z_cV0 dX8_areAlike_4 lk_X8_56 (by decide) ⟨by decide, _, rfl⟩ rfl (Nat.le_of_ble_eq_true rfl) (ev_X8_size G h.G) ?_
    refine z_icmpN_ge (tgt := 23) dX8_areAlike_7 (by decide) (by omega) (by omega) (fun c7 => absurd c7 (by omega)) (fun c7 => ?_)
    refine z_aload_n dX8_areAlike_10 rfl ?_
    refine z_getR (j := 45) dX8_areAlike_11 fl_X8_38 ⟨by decide, _, rfl, rfl⟩ ?_
    refine z_iload_n dX8_areAlike_14 rfl ?_
    refine z_iconst (v := nI 0) dX8_areAlike_15 (by decide) ?_
    refine z_iastN dX8_areAlike_16 ⟨by decide, rfl⟩ (by omega) (by decide) ?_
    refine z_iinc (v := nI (e + 1)) (lv' := [(3, _), (0, _), (1, _), (2, _)]) dX8_areAlike_17 rfl (nI_inc _ 1) (by decide) rfl ?_
    refine z_goto (tgt := 2) dX8_areAlike_20 (by decide) ?_
    have hc2 : ∀ j : Nat, j < e + 1 → (uR μ 45 e (nI 0)).2.1 45 j = nI 0 := by
      intro j hj
      rw [uR_s]
      by_cases q : j = e
      · rw [q, upd_s]
      · rw [upd_n _ _ q]; exact hc j (by omega)
    have q := ih (e + 1) _ (by omega) (hq.uR (i := 45) (j := e) (x := nI 0) rfl) (h.q (aqF.rf.uR rfl).q) hc2
    refine z_sub (lv' := [(0, _), (1, _), (2, _), (3, _)]) rfl ?_
    exact q
set_option maxRecDepth 100000 in
theorem ev_X8_areAlike (G : Gt) {a b n : Nat} {E Q : Nat → Nat} {μ : Mm} (h : nwOK μ a b n E Q) {S T : Nat} (hS : S < 2 ^ 31) (hT : T < 2 ^ 31) : EV G 1 Y_X8_areAlike [rf G 35, .int (nI S), .int (nI T)] μ (fun v u => v = some (.int (bI (alN a b E n S T))) ∧ aqF μ u) := by
  refine ev_of (by decide) (Nat.le_of_ble_eq_true rfl) ?_
  show Zs G 1 Y_X8_areAlike (fnN G _) 0 [(0, rf G 35), (1, .int (nI S)), (2, .int (nI T))] [] μ
  refine z_iconst (v := nI 0) dX8_areAlike_0 (by decide) ?_
  refine z_istore_n (lv' := [(3, _), (0, _), (1, _), (2, _)]) dX8_areAlike_1 rfl (by decide) rfl ?_
  refine z_sub (lv' := [(0, _), (1, _), (2, _), (3, _)]) rfl ?_
  exact lp1_X8_areAlike G hS hT (a * b) 0 μ (by omega) aqF.rf h (fun j hj => by omega)
