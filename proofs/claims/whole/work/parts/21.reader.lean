theorem uF_uF (μ : Mm) (i k : Nat) (x y : Int32) : uF (uF μ i k x) i k y = uF μ i k y := by
  unfold uF
  congr 1
  funext a b
  by_cases h : a = i ∧ b = k
  · simp [h]
  · simp [h]
theorem uF_id {μ : Mm} {i k : Nat} {x : Int32} (h : μ.1 i k = x) : uF μ i k x = μ := by
  unfold uF
  have : (fun i' k' => if i' = i ∧ k' = k then x else μ.1 i' k') = μ.1 := by
    funext a b
    by_cases q : a = i ∧ b = k
    · rw [if_pos q, q.1, q.2]; exact h.symm
    · rw [if_neg q]
  rw [this]
/-- the text: n bytes T -/
def txOK (μ : Mm) (n : Nat) (T : Nat → Nat) : Prop := μ.1 33 1 = nI n ∧ n ≤ 150 ∧ ∀ k : Nat, k < n → μ.2.1 34 k = nI (T k) ∧ T k < 128
theorem txOK.n {μ : Mm} {n : Nat} {T : Nat → Nat} (h : txOK μ n T) : μ.1 33 1 = nI n := h.1
theorem txOK.le {μ : Mm} {n : Nat} {T : Nat → Nat} (h : txOK μ n T) : n ≤ 150 := h.2.1
theorem txOK.t {μ : Mm} {n : Nat} {T : Nat → Nat} (h : txOK μ n T) {k : Nat} (hk : k < n) : μ.2.1 34 k = nI (T k) := (h.2.2 k hk).1
theorem txOK.tl {μ : Mm} {n : Nat} {T : Nat → Nat} (h : txOK μ n T) {k : Nat} (hk : k < n) : T k < 128 := (h.2.2 k hk).2
theorem txOK.u {μ : Mm} {n : Nat} {T : Nat → Nat} (h : txOK μ n T) {k : Nat} (hk : k ≠ 1) (x : Int32) : txOK (uF μ 33 k x) n T := ⟨by rw [uF_n _ _ (by omega)]; exact h.1, h.2⟩
theorem txOK.w {μ : Mm} {n : Nat} {T : Nat → Nat} (h : txOK μ n T) (w : Option Nat) : txOK (uW μ w) n T := h
/-- a byte at the cursor, -1 at the end; letters, digits; how far a test holds -/
def pkN (T : Nat → Nat) (n c : Nat) : Int32 := if c < n then nI (T c) else -1
theorem pkn_in {T : Nat → Nat} {n c : Nat} (h : c < n) : pkN T n c = nI (T c) := if_pos h
theorem pkn_out {T : Nat → Nat} {n c : Nat} (h : n ≤ c) : pkN T n c = -1 := if_neg (by omega)
theorem pkn_eq {T : Nat → Nat} {n c k : Nat} (hT : ∀ j, j < n → T j < 128) (hk : k < 128) : pkN T n c = nI k ↔ c < n ∧ T c = k := by
  by_cases h : c < n
  · rw [pkn_in h]
    constructor
    · intro q; exact ⟨h, (nI_eq (by have := hT c h; omega) (by omega)).mp q⟩
    · rintro ⟨_, q⟩; rw [q]
  · rw [pkn_out (by omega)]
    constructor
    · intro q
      have h1 : ∀ k, k < 128 → (-1 : Int32) ≠ nI k := by decide +kernel
      exact absurd q (h1 k hk)
    · rintro ⟨q, _⟩; exact absurd q h
def isLt (x : Nat) : Bool := decide (97 ≤ x) && decide (x ≤ 122)
def isDg (x : Nat) : Bool := decide (48 ≤ x) && decide (x ≤ 57)
def isSp (x : Nat) : Bool := decide (x = 32)
def scL (g : Nat → Bool) (n : Nat) : Nat → Nat → Nat
  | 0, c => c
  | f + 1, c => if c < n ∧ g c = true then scL g n f (c + 1) else c
def scN (g : Nat → Bool) (n c : Nat) : Nat := scL g n (n - c) c
theorem scL_out {g : Nat → Bool} {n c : Nat} (h : ¬ (c < n ∧ g c = true)) (f : Nat) : scL g n f c = c := by
  cases f with
  | zero => rfl
  | succ f => exact if_neg h
theorem scL_ge (g : Nat → Bool) (n : Nat) : ∀ f c, c ≤ scL g n f c := by
  intro f
  induction f with
  | zero => intro c; exact Nat.le_refl _
  | succ f ih =>
    intro c
    unfold scL
    split
    · have := ih (c + 1); omega
    · exact Nat.le_refl _
theorem scL_le {g : Nat → Bool} {n : Nat} : ∀ f c, c ≤ n → scL g n f c ≤ n := by
  intro f
  induction f with
  | zero => intro c h; exact h
  | succ f ih =>
    intro c h
    unfold scL
    split
    · next q => exact ih (c + 1) (by omega)
    · exact h
abbrev skS (T : Nat → Nat) (n c : Nat) : Nat := scN (fun k => isSp (T k)) n c
abbrev ltS (T : Nat → Nat) (n c : Nat) : Nat := scN (fun k => isLt (T k)) n c
set_option maxRecDepth 100000 in
theorem ev_X1_isLetter (G : Gt) {x : Nat} {μ : Mm} (hx : x < 2 ^ 31) : EVr G 0 Y_X1_isLetter [.int (nI x)] μ (.int (bI (isLt x))) := by
  refine ev_of (by decide) (Nat.le_of_ble_eq_true rfl) ?_
  show Zs G 0 Y_X1_isLetter (fnN G _) 0 [(0, .int (nI x))] [] μ
  refine z_iload_n dX1_isLetter_0 rfl ?_
  refine z_bipush (v := nI 97) dX1_isLetter_1 (by decide) ?_
  refine z_icmpN_lt (tgt := 16) dX1_isLetter_3 (by decide) (by omega) (by omega) (fun c3 => ?_) (fun c3 => ?_)
  · refine z_iconst (v := nI 0) dX1_isLetter_16 (by decide) ?_
    exact z_zret rfl rfl dX1_isLetter_17 ⟨by unfold isLt; rw [decide_eq_false (by omega)]; rfl, rfl⟩
  · refine z_iload_n dX1_isLetter_6 rfl ?_
    refine z_bipush (v := nI 122) dX1_isLetter_7 (by decide) ?_
    refine z_icmpN_gt (tgt := 16) dX1_isLetter_9 (by decide) (by omega) (by omega) (fun c9 => ?_) (fun c9 => ?_)
    · refine z_iconst (v := nI 0) dX1_isLetter_16 (by decide) ?_
      exact z_zret rfl rfl dX1_isLetter_17 ⟨by unfold isLt; rw [decide_eq_false (p := x ≤ 122) (by omega), Bool.and_false]; rfl, rfl⟩
    · refine z_iconst (v := nI 1) dX1_isLetter_12 (by decide) ?_
      refine z_goto (tgt := 17) dX1_isLetter_13 (by decide) ?_
      exact z_zret rfl rfl dX1_isLetter_17 ⟨by unfold isLt; rw [decide_eq_true (by omega), decide_eq_true (by omega)]; rfl, rfl⟩
set_option maxRecDepth 100000 in
theorem ev_X1_isDigit (G : Gt) {x : Nat} {μ : Mm} (hx : x < 2 ^ 31) : EVr G 0 Y_X1_isDigit [.int (nI x)] μ (.int (bI (isDg x))) := by
  refine ev_of (by decide) (Nat.le_of_ble_eq_true rfl) ?_
  show Zs G 0 Y_X1_isDigit (fnN G _) 0 [(0, .int (nI x))] [] μ
  refine z_iload_n dX1_isDigit_0 rfl ?_
  refine z_bipush (v := nI 48) dX1_isDigit_1 (by decide) ?_
  refine z_icmpN_lt (tgt := 16) dX1_isDigit_3 (by decide) (by omega) (by omega) (fun c3 => ?_) (fun c3 => ?_)
  · refine z_iconst (v := nI 0) dX1_isDigit_16 (by decide) ?_
    exact z_zret rfl rfl dX1_isDigit_17 ⟨by unfold isDg; rw [decide_eq_false (by omega)]; rfl, rfl⟩
  · refine z_iload_n dX1_isDigit_6 rfl ?_
    refine z_bipush (v := nI 57) dX1_isDigit_7 (by decide) ?_
    refine z_icmpN_gt (tgt := 16) dX1_isDigit_9 (by decide) (by omega) (by omega) (fun c9 => ?_) (fun c9 => ?_)
    · refine z_iconst (v := nI 0) dX1_isDigit_16 (by decide) ?_
      exact z_zret rfl rfl dX1_isDigit_17 ⟨by unfold isDg; rw [decide_eq_false (p := x ≤ 57) (by omega), Bool.and_false]; rfl, rfl⟩
    · refine z_iconst (v := nI 1) dX1_isDigit_12 (by decide) ?_
      refine z_goto (tgt := 17) dX1_isDigit_13 (by decide) ?_
      exact z_zret rfl rfl dX1_isDigit_17 ⟨by unfold isDg; rw [decide_eq_true (by omega), decide_eq_true (by omega)]; rfl, rfl⟩
set_option maxRecDepth 100000 in
theorem ev_X1_isDigit_m (G : Gt) {μ : Mm} : EVr G 0 Y_X1_isDigit [.int (-1)] μ (.int (bI false)) := by
  refine ev_of (by decide) (Nat.le_of_ble_eq_true rfl) ?_
  show Zs G 0 Y_X1_isDigit (fnN G _) 0 [(0, .int (-1))] [] μ
  refine z_iload_n dX1_isDigit_0 rfl ?_
  refine z_bipush (v := nI 48) dX1_isDigit_1 (by decide) ?_
  refine z_icmp_lt (tgt := 16) dX1_isDigit_3 (by decide) (fun c3 => ?_) (fun c3 => absurd (by decide) c3)
  refine z_iconst (v := nI 0) dX1_isDigit_16 (by decide) ?_
  exact z_zret rfl rfl dX1_isDigit_17 ⟨rfl, rfl⟩
theorem ev_isDigit_pk (G : Gt) {n c : Nat} {T : Nat → Nat} {μ : Mm} (hT : ∀ j, j < n → T j < 128) : EVr G 0 Y_X1_isDigit [.int (pkN T n c)] μ (.int (bI (decide (c < n) && isDg (T c)))) := by
  by_cases q : c < n
  · rw [pkn_in q, decide_eq_true q, Bool.true_and]; exact ev_X1_isDigit G (by have := hT c q; omega)
  · rw [pkn_out (by omega), decide_eq_false q, Bool.false_and]; exact ev_X1_isDigit_m G
set_option maxRecDepth 100000 in
theorem ev_X1_peek (G : Gt) {n c : Nat} {T : Nat → Nat} {μ : Mm} (h : txOK μ n T) (hc : μ.1 33 2 = nI c) (hcn : c ≤ n) : EVr G 0 Y_X1_peek [rf G 33] μ (.int (pkN T n c)) := by
  have hn := h.le
  refine ev_of (by decide) (Nat.le_of_ble_eq_true rfl) ?_
  show Zs G 0 Y_X1_peek (fnN G _) 0 [(0, rf G 33)] [] μ
  refine z_aload_n dX1_peek_0 rfl ?_
  refine z_getI dX1_peek_1 fl_X1_19 ⟨by decide, _, rfl, rfl⟩ hc ?_
  refine z_ifN_lt (tgt := 30) dX1_peek_4 (by decide) (by omega) ?_
  refine z_aload_n dX1_peek_7 rfl ?_
  refine z_getI dX1_peek_8 fl_X1_19 ⟨by decide, _, rfl, rfl⟩ hc ?_
  refine z_aload_n dX1_peek_11 rfl ?_
  refine z_getI dX1_peek_12 fl_X1_15 ⟨by decide, _, rfl, rfl⟩ h.n ?_
  refine z_icmpN_ge (tgt := 30) dX1_peek_15 (by decide) (by omega) (by omega) (fun c15 => ?_) (fun c15 => ?_)
  · refine z_iconst (v := -1) dX1_peek_30 (by decide) ?_
    exact z_ret (ty := none) (v := none) rfl dX1_peek_31 ⟨by rw [pkn_out c15], rfl⟩
  · refine z_aload_n dX1_peek_18 rfl ?_
    refine z_getR (j := 34) dX1_peek_19 fl_X1_9 ⟨by decide, _, rfl, rfl⟩ ?_
    refine z_aload_n dX1_peek_22 rfl ?_
    refine z_getI dX1_peek_23 fl_X1_19 ⟨by decide, _, rfl, rfl⟩ hc ?_
    refine z_ialdN dX1_peek_26 ⟨by decide, rfl⟩ (by omega) (by decide) (h.t c15) ?_
    refine z_goto (tgt := 31) dX1_peek_27 (by decide) ?_
    exact z_ret (ty := none) (v := none) rfl dX1_peek_31 ⟨by rw [pkn_in c15], rfl⟩
set_option maxRecDepth 100000 in
theorem ev_X1_failAt (G : Gt) {x : Int32} {μ : Mm} : EVv G 0 Y_X1_failAt [rf G 33, .int x] μ (uF μ 33 3 x) := by
  refine ev_of (by decide) (Nat.le_of_ble_eq_true rfl) ?_
  show Zs G 0 Y_X1_failAt (fnN G _) 0 [(0, rf G 33), (1, .int x)] [] μ
  refine z_aload_n dX1_failAt_0 rfl ?_
  refine z_iload_n dX1_failAt_1 rfl ?_
  refine z_putI dX1_failAt_2 fp_X1_22 ⟨by decide, _, rfl, rfl⟩ ?_
  exact z_vret rfl dX1_failAt_5 ⟨rfl, rfl⟩
set_option maxRecDepth 100000 in
theorem ev_X1_rewind (G : Gt) {μ : Mm} : EVv G 0 Y_X1_rewind [rf G 33] μ (uF (uF μ 33 2 (nI 0)) 33 3 (-1)) := by
  refine ev_of (by decide) (Nat.le_of_ble_eq_true rfl) ?_
  show Zs G 0 Y_X1_rewind (fnN G _) 0 [(0, rf G 33)] [] μ
  refine z_aload_n dX1_rewind_0 rfl ?_
  refine z_iconst (v := nI 0) dX1_rewind_1 (by decide) ?_
  refine z_putI dX1_rewind_2 fp_X1_19 ⟨by decide, _, rfl, rfl⟩ ?_
  refine z_aload_n dX1_rewind_5 rfl ?_
  refine z_iconst (v := -1) dX1_rewind_6 (by decide) ?_
  refine z_putI dX1_rewind_7 fp_X1_22 ⟨by decide, _, rfl, rfl⟩ ?_
  exact z_vret rfl dX1_rewind_10 ⟨rfl, rfl⟩
set_option maxRecDepth 100000 in
theorem ev_X1_append (G : Gt) {n x : Nat} {T : Nat → Nat} {μ : Mm} (h : txOK μ n T) (hn : n < 150) : EVv G 0 Y_X1_append [rf G 33, .int (nI x)] μ (uF (uR μ 34 n (nI x)) 33 1 (nI (n + 1))) := by
  refine ev_of (by decide) (Nat.le_of_ble_eq_true rfl) ?_
  show Zs G 0 Y_X1_append (fnN G _) 0 [(0, rf G 33), (1, .int (nI x))] [] μ
  refine z_aload_n dX1_append_0 rfl ?_
  refine z_getI dX1_append_1 fl_X1_15 ⟨by decide, _, rfl, rfl⟩ h.n ?_
  refine z_sipush (v := nI 150) dX1_append_4 (by decide) ?_
  refine z_icmpN_ge (tgt := 30) dX1_append_7 (by decide) (by omega) (by omega) (fun c7 => absurd c7 (by omega)) (fun c7 => ?_)
  refine z_aload_n dX1_append_10 rfl ?_
  refine z_getR (j := 34) dX1_append_11 fl_X1_9 ⟨by decide, _, rfl, rfl⟩ ?_
  refine z_aload_n dX1_append_14 rfl ?_
  refine z_getI dX1_append_15 fl_X1_15 ⟨by decide, _, rfl, rfl⟩ h.n ?_
  refine z_iload_n dX1_append_18 rfl ?_
  refine z_iastN dX1_append_19 ⟨by decide, rfl⟩ (by omega) (by decide) ?_
  refine z_aload_n dX1_append_20 rfl ?_
  refine z_dup dX1_append_21 rfl ?_
  refine z_getI dX1_append_22 fl_X1_15 ⟨by decide, _, rfl, rfl⟩ h.n ?_
  refine z_iconst (v := nI 1) dX1_append_25 (by decide) ?_
  refine z_iaddN dX1_append_26 ?_
  refine z_putI dX1_append_27 fp_X1_15 ⟨by decide, _, rfl, rfl⟩ ?_
  exact z_vret rfl dX1_append_30 ⟨rfl, rfl⟩
set_option maxRecDepth 100000 in
theorem lp_X1_skipSpaces (G : Gt) {n : Nat} {T : Nat → Nat} {μ0 : Mm} (h0 : txOK μ0 n T) : ∀ (f c : Nat), n - c = f → c ≤ n →
    Zs G 1 Y_X1_skipSpaces (fnN G (fun v u => v = none ∧ u = uF μ0 33 2 (nI (scL (fun k => isSp (T k)) n f c)))) 0 [(0, rf G 33)] [] (uF μ0 33 2 (nI c)) := by
  intro f
  have h := fun c : Nat => h0.u (k := 2) (by decide) (nI c)
  have hn := h0.le
  induction f with
  | zero =>
    intro c hf hc
    have h := h c
    refine z_aload_n dX1_skipSpaces_0 rfl ?_
    refine z_getI dX1_skipSpaces_1 fl_X1_19 ⟨by decide, _, rfl, rfl⟩ (uF_s _ _ _ _) ?_
    refine z_aload_n dX1_skipSpaces_4 rfl ?_
    refine z_getI dX1_skipSpaces_5 fl_X1_15 ⟨by decide, _, rfl, rfl⟩ h.n ?_
    refine z_icmpN_ge (tgt := 33) dX1_skipSpaces_8 (by decide) (by omega) (by omega) (fun c8 => ?_) (fun c8 => absurd c8 (by omega))
    exact z_vret rfl dX1_skipSpaces_33 ⟨rfl, rfl⟩
  | succ f ih =>
    intro c hf hc
    have hh := h (c + 1)
    have h := h c
    refine z_aload_n dX1_skipSpaces_0 rfl ?_
    refine z_getI dX1_skipSpaces_1 fl_X1_19 ⟨by decide, _, rfl, rfl⟩ (uF_s _ _ _ _) ?_
    refine z_aload_n dX1_skipSpaces_4 rfl ?_
    refine z_getI dX1_skipSpaces_5 fl_X1_15 ⟨by decide, _, rfl, rfl⟩ h.n ?_
    refine z_icmpN_ge (tgt := 33) dX1_skipSpaces_8 (by decide) (by omega) (by omega) (fun c8 => absurd c8 (by omega)) (fun c8 => ?_)
    refine z_aload_n dX1_skipSpaces_11 rfl ?_
    refine z_cV0 dX1_skipSpaces_12 lk_X1_45 (by decide) ⟨by decide, _, rfl⟩ rfl (Nat.le_of_ble_eq_true rfl) (ev_X1_peek G h (uF_s _ _ _ _) hc) ?_
    refine z_bipush (v := nI 32) dX1_skipSpaces_15 (by decide) ?_
    rw [pkn_in c8]
    have htl := h.tl c8
    refine z_icmpN_ne (tgt := 33) dX1_skipSpaces_17 (by decide) (by omega) (by omega) (fun c17 => ?_) (fun c17 => ?_)
    · exact z_vret rfl dX1_skipSpaces_33 ⟨rfl, by rw [scL_out (by rw [show isSp (T c) = false from decide_eq_false c17]; simp)]⟩
    · refine z_aload_n dX1_skipSpaces_20 rfl ?_
      refine z_dup dX1_skipSpaces_21 rfl ?_
      refine z_getI dX1_skipSpaces_22 fl_X1_19 ⟨by decide, _, rfl, rfl⟩ (uF_s _ _ _ _) ?_
      refine z_iconst (v := nI 1) dX1_skipSpaces_25 (by decide) ?_
      refine z_iaddN dX1_skipSpaces_26 ?_
      refine z_putI dX1_skipSpaces_27 fp_X1_19 ⟨by decide, _, rfl, rfl⟩ ?_
      rw [uF_uF]
      refine z_goto (tgt := 0) dX1_skipSpaces_30 (by decide) ?_
      have q := ih (c + 1) (by omega) (by omega)
      rw [show scL (fun k => isSp (T k)) n (f + 1) c = scL (fun k => isSp (T k)) n f (c + 1) from if_pos ⟨c8, decide_eq_true c17⟩]
      exact q
theorem ev_X1_skipSpaces (G : Gt) {n c : Nat} {T : Nat → Nat} {μ : Mm} (h : txOK μ n T) (hc : μ.1 33 2 = nI c) (hcn : c ≤ n) : EVv G 1 Y_X1_skipSpaces [rf G 33] μ (uF μ 33 2 (nI (skS T n c))) := by
  refine ev_of (by decide) (Nat.le_of_ble_eq_true rfl) ?_
  have q := lp_X1_skipSpaces G h (n - c) c rfl hcn
  rw [uF_id hc] at q
  exact q
def smN (T : Nat → Nat) (n c : Nat) : Bool := decide (skS T n c < n) && decide (T (skS T n c) = 59)
def smW (T : Nat → Nat) (n c : Nat) (μ : Mm) : Mm := if smN T n c then uF μ 33 2 (nI (skS T n c + 1)) else uF (uF μ 33 2 (nI (skS T n c))) 33 3 (nI (skS T n c))
set_option maxRecDepth 100000 in
theorem ev_X1_readSemicolon (G : Gt) {n c : Nat} {T : Nat → Nat} {μ : Mm} (h : txOK μ n T) (hc : μ.1 33 2 = nI c) (hcn : c ≤ n) : EVw G 2 Y_X1_readSemicolon [rf G 33] μ (.int (bI (smN T n c))) (smW T n c μ) := by
  have hn := h.le
  refine ev_of (by decide) (Nat.le_of_ble_eq_true rfl) ?_
  show Zs G 2 Y_X1_readSemicolon (fnN G _) 0 [(0, rf G 33)] [] μ
  refine z_aload_n dX1_readSemicolon_0 rfl ?_
  refine z_cV0v dX1_readSemicolon_1 lk_X1_42 (by decide) ⟨by decide, _, rfl⟩ rfl (Nat.le_of_ble_eq_true rfl) (ev_X1_skipSpaces G h hc hcn) ?_
  have hk := scL_le (g := fun k => isSp (T k)) (n - c) c hcn
  have h2 := h.u (k := 2) (by decide) (nI (skS T n c))
  have hT : ∀ j, j < n → T j < 128 := fun j hj => h.tl hj
  refine z_aload_n dX1_readSemicolon_4 rfl ?_
  refine z_cV0 dX1_readSemicolon_5 lk_X1_45 (by decide) ⟨by decide, _, rfl⟩ rfl (Nat.le_of_ble_eq_true rfl) (ev_X1_peek G h2 (uF_s _ _ _ _) hk) ?_
  refine z_bipush (v := nI 59) dX1_readSemicolon_8 (by decide) ?_
  refine z_icmp_eq (tgt := 23) dX1_readSemicolon_10 (by decide) (fun c10 => ?_) (fun c10 => ?_)
  · have e1 := (pkn_eq hT (by decide)).mp c10
    refine z_aload_n dX1_readSemicolon_23 rfl ?_
    refine z_dup dX1_readSemicolon_24 rfl ?_
    refine z_getI dX1_readSemicolon_25 fl_X1_19 ⟨by decide, _, rfl, rfl⟩ (uF_s _ _ _ _) ?_
    refine z_iconst (v := nI 1) dX1_readSemicolon_28 (by decide) ?_
    refine z_iaddN dX1_readSemicolon_29 ?_
    refine z_putI dX1_readSemicolon_30 fp_X1_19 ⟨by decide, _, rfl, rfl⟩ ?_
    refine z_iconst (v := nI 1) dX1_readSemicolon_33 (by decide) ?_
    exact z_zret rfl rfl dX1_readSemicolon_34 ⟨by rw [show smN T n c = true by unfold smN; rw [decide_eq_true e1.1, decide_eq_true e1.2]; rfl]; rfl, by unfold smW; rw [show smN T n c = true by unfold smN; rw [decide_eq_true e1.1, decide_eq_true e1.2]; rfl, if_pos rfl, uF_uF]⟩
  · have e1 : smN T n c = false := by
      cases q : smN T n c with
      | false => rfl
      | true => unfold smN at q; rw [Bool.and_eq_true, decide_eq_true_eq, decide_eq_true_eq] at q; exact absurd ((pkn_eq hT (by decide)).mpr q) c10
    refine z_aload_n dX1_readSemicolon_13 rfl ?_
    refine z_aload_n dX1_readSemicolon_14 rfl ?_
    refine z_getI dX1_readSemicolon_15 fl_X1_19 ⟨by decide, _, rfl, rfl⟩ (uF_s _ _ _ _) ?_
    refine z_cV1v dX1_readSemicolon_18 lk_X1_72 (by decide) ⟨by decide, _, rfl⟩ rfl (Nat.le_of_ble_eq_true rfl) (ev_X1_failAt G) ?_
    refine z_iconst (v := nI 0) dX1_readSemicolon_21 (by decide) ?_
    exact z_zret rfl rfl dX1_readSemicolon_22 ⟨by rw [e1]; rfl, by unfold smW; rw [e1]; rfl⟩
