/-- the table, made for m elements E of the group a, b; splits are known below w -/
def tabOK (μ : Mm) (a b m : Nat) (E : Nat → Nat) (w : Nat) : Prop :=
  (∃ Q : Nat → Nat, seqOK μ 24 a b m E Q) ∧ (∀ S : Nat, S < 2 ^ m → μ.2.1 28 S = nI (tot a b E S)) ∧ (∀ S : Nat, S < 2 ^ m → μ.2.1 29 S = nI (kindN a b E S)) ∧
  μ.1 23 6 = nI (cntN (blk a b E) (2 ^ m)) ∧ (∀ S : Nat, S < 2 ^ m → blk a b E S = true → μ.2.1 32 (cntN (blk a b E) S) = nI S) ∧
  μ.1 23 7 = nI w ∧ 1 ≤ w ∧ w ≤ 2 ^ m ∧ ∀ S : Nat, S < w → μ.2.1 30 S = nI (lenN a b E S) ∧ μ.2.1 31 S = nI (splN a b E S)
section TB
variable {μ : Mm} {a b m w : Nat} {E : Nat → Nat}
theorem tabOK.n (h : tabOK μ a b m E w) : μ.1 24 3 = nI m := h.1.choose_spec.n
theorem tabOK.le (h : tabOK μ a b m E w) : m ≤ 10 := h.1.choose_spec.le
theorem tabOK.g (h : tabOK μ a b m E w) : grpOK μ 25 a b := h.1.choose_spec.g
theorem tabOK.e (h : tabOK μ a b m E w) {k : Nat} (hk : k < m) : μ.2.1 26 k = nI (E k) := h.1.choose_spec.e hk
theorem tabOK.el (h : tabOK μ a b m E w) {k : Nat} (hk : k < m) : E k < a * b := h.1.choose_spec.el hk
theorem tabOK.t (h : tabOK μ a b m E w) {S : Nat} (hS : S < 2 ^ m) : μ.2.1 28 S = nI (tot a b E S) := h.2.1 S hS
theorem tabOK.k (h : tabOK μ a b m E w) {S : Nat} (hS : S < 2 ^ m) : μ.2.1 29 S = nI (kindN a b E S) := h.2.2.1 S hS
theorem tabOK.c (h : tabOK μ a b m E w) : μ.1 23 6 = nI (cntN (blk a b E) (2 ^ m)) := h.2.2.2.1
theorem tabOK.bk (h : tabOK μ a b m E w) {S k : Nat} (hS : S < 2 ^ m) (hb : blk a b E S = true) (hk : cntN (blk a b E) S = k) : μ.2.1 32 k = nI S := by rw [← hk]; exact h.2.2.2.2.1 S hS hb
theorem tabOK.ws (h : tabOK μ a b m E w) : μ.1 23 7 = nI w := h.2.2.2.2.2.1
theorem tabOK.w1 (h : tabOK μ a b m E w) : 1 ≤ w := h.2.2.2.2.2.2.1
theorem tabOK.w2 (h : tabOK μ a b m E w) : w ≤ 2 ^ m := h.2.2.2.2.2.2.2.1
theorem tabOK.ln (h : tabOK μ a b m E w) {S : Nat} (hS : S < w) : μ.2.1 30 S = nI (lenN a b E S) := (h.2.2.2.2.2.2.2.2 S hS).1
theorem tabOK.sp (h : tabOK μ a b m E w) {S : Nat} (hS : S < w) : μ.2.1 31 S = nI (splN a b E S) := (h.2.2.2.2.2.2.2.2 S hS).2
theorem tabOK.same (h : tabOK μ a b m E w) {μ' : Mm} {lo hi : Nat} (hs : smK lo hi μ μ') (hd : 33 ≤ lo ∨ hi ≤ 23) : tabOK μ' a b m E w := by
  obtain ⟨⟨Q, h1⟩, h2, h3, h4, h5, h6, h7, h8, h9⟩ := h
  refine ⟨⟨Q, h1.sameK hs (by omega)⟩, ?_, ?_, ?_, ?_, ?_, h7, h8, ?_⟩
  · rw [hs.R (by omega)]; exact h2
  · rw [hs.R (by omega)]; exact h3
  · rw [hs.F 6 (by omega)]; exact h4
  · rw [hs.R (by omega)]; exact h5
  · rw [hs.F 7 (by omega)]; exact h6
  · rw [hs.R (by omega), hs.R (by omega)]; exact h9
end TB
/-- the least, the greatest size of those that a test picks -/
def smA (c : Nat → Bool) : Nat → Nat
  | 0 => 0
  | k + 1 => if c k && (decide (smA c k = 0) || decide (pcN k < smA c k)) then pcN k else smA c k
def gmA (c : Nat → Bool) : Nat → Nat
  | 0 => 0
  | k + 1 => if c k then max (gmA c k) (pcN k) else gmA c k
theorem smA_flat {c : Nat → Bool} {s : Nat} : ∀ {t : Nat}, s ≤ t → (∀ j, s ≤ j → j < t → c j = false) → smA c t = smA c s := by
  intro t
  induction t with
  | zero => intro h _; rw [show s = 0 by omega]
  | succ t ih =>
    intro h hf
    by_cases e : s = t + 1
    · rw [e]
    · have e1 : smA c (t + 1) = if c t && (decide (smA c t = 0) || decide (pcN t < smA c t)) then pcN t else smA c t := rfl
      rw [e1, hf t (by omega) (by omega), ih (by omega) (fun j h1 h2 => hf j h1 (by omega))]; rfl
theorem gmA_flat {c : Nat → Bool} {s : Nat} : ∀ {t : Nat}, s ≤ t → (∀ j, s ≤ j → j < t → c j = false) → gmA c t = gmA c s := by
  intro t
  induction t with
  | zero => intro h _; rw [show s = 0 by omega]
  | succ t ih =>
    intro h hf
    by_cases e : s = t + 1
    · rw [e]
    · have e1 : gmA c (t + 1) = if c t then max (gmA c t) (pcN t) else gmA c t := rfl
      rw [e1, hf t (by omega) (by omega), ih (by omega) (fun j h1 h2 => hf j h1 (by omega))]; rfl
theorem smA_le (c : Nat → Bool) : ∀ k, smA c k ≤ 11 := by
  intro k
  induction k with
  | zero => exact Nat.zero_le _
  | succ k ih =>
    unfold smA
    have := pcN_le k
    split <;> omega
theorem gmA_le (c : Nat → Bool) : ∀ k, gmA c k ≤ 11 := by
  intro k
  induction k with
  | zero => exact Nat.zero_le _
  | succ k ih =>
    unfold gmA
    have := pcN_le k
    split <;> omega
/-- the i-th one below N -/
def nthN (f : Nat → Bool) (i : Nat) : Nat → Option Nat
  | 0 => none
  | N + 1 => match nthN f i N with
    | some S => some S
    | none => if f N = true ∧ cntN f N = i then some N else none
theorem nthN_some {f : Nat → Bool} {i S : Nat} (h1 : f S = true) (h2 : cntN f S = i) : ∀ {N : Nat}, S < N → nthN f i N = some S := by
  have low : ∀ {N : Nat}, N ≤ S → nthN f i N = none := by
    intro N
    induction N with
    | zero => intro _; rfl
    | succ N ih =>
      intro h
      unfold nthN
      rw [ih (by omega)]
      have h3 := cntN_mono f (show N + 1 ≤ S by omega)
      rw [cntN_succ] at h3
      show (if f N = true ∧ cntN f N = i then some N else none) = none
      rw [if_neg]
      rintro ⟨q1, q2⟩
      rw [if_pos q1] at h3
      omega
  intro N
  induction N with
  | zero => intro h; omega
  | succ N ih =>
    intro h
    unfold nthN
    by_cases e : S = N
    · subst e
      rw [low (Nat.le_refl _)]
      show (if f S = true ∧ cntN f S = i then some S else none) = some S
      rw [if_pos ⟨h1, h2⟩]
    · rw [ih (by omega)]
theorem nthN_none {f : Nat → Bool} {i : Nat} : ∀ {N : Nat}, cntN f N ≤ i → nthN f i N = none := by
  intro N
  induction N with
  | zero => intro _; rfl
  | succ N ih =>
    intro h
    rw [cntN_succ] at h
    have h2 : cntN f N ≤ i := by split at h <;> omega
    unfold nthN
    rw [ih h2]
    show (if f N = true ∧ cntN f N = i then some N else none) = none
    rw [if_neg]
    rintro ⟨q1, q2⟩
    rw [if_pos q1] at h
    omega
theorem cntN_ith {f : Nat → Bool} {N i : Nat} (h : i < cntN f N) : ∃ S, S < N ∧ f S = true ∧ cntN f S = i ∧ True := by
  induction N with
  | zero => exact absurd h (Nat.not_lt_zero _)
  | succ N ih =>
    by_cases h1 : i < cntN f N
    · obtain ⟨S, q1, q2⟩ := ih h1
      exact ⟨S, by omega, q2⟩
    · rw [cntN_succ] at h
      by_cases h2 : f N = true
      · rw [if_pos h2] at h
        exact ⟨N, by omega, h2, by omega, trivial⟩
      · rw [if_neg h2] at h; omega
theorem nI_andn (S T : Nat) : nI S &&& (nI T ^^^ (-1)) = nI (S ^^^ (S &&& T)) := by
  rw [← nI_xor, ← nI_and]
  apply Int32.toBitVec_inj.mp
  apply BitVec.eq_of_getLsbD_eq
  intro i hi
  have h1 : (-1 : Int32).toBitVec = BitVec.allOnes 32 := by decide
  simp only [Int32.toBitVec_and, Int32.toBitVec_xor, BitVec.getLsbD_and, BitVec.getLsbD_xor, h1, BitVec.getLsbD_allOnes]
  cases (nI S).toBitVec.getLsbD i <;> cases (nI T).toBitVec.getLsbD i <;> simp [hi]
theorem andn_zero {B S : Nat} : B ^^^ (B &&& S) = 0 ↔ sb B S = true := by
  unfold sb
  rw [decide_eq_true_iff]
  constructor
  · intro h
    have h2 : B ^^^ (B ^^^ (B &&& S)) = B := by rw [h, Nat.xor_zero]
    rw [← Nat.xor_assoc, Nat.xor_self, Nat.zero_xor] at h2
    exact h2
  · intro h; rw [h, Nat.xor_self]
theorem andn_le (B S : Nat) : B ^^^ (B &&& S) ≤ B := by
  have h : sb (B &&& S) B = true := sb_iff.mpr (fun k hk => by rw [Nat.testBit_and, Bool.and_eq_true] at hk; exact hk.1)
  rw [xor_sub h]; omega
theorem and_one_bit {S k : Nat} (h : S.testBit k = true) : S &&& 2 ^ k = 2 ^ k := by
  have := sb_pow.mpr h
  unfold sb at this
  rw [Nat.and_comm]; exact of_decide_eq_true this
theorem low_neg : ∀ S, S < 2048 → nI S &&& -nI S = nI (lowN S) := by decide +kernel
set_option maxRecDepth 100000 in
theorem ev_X5_isSet (G : Gt) {S : Nat} {μ : Mm} (hS : S < 1024) : EVr G 0 Y_X5_isSet [.int (nI S)] μ (.int (bI true)) := by
  refine ev_of (by decide) (Nat.le_of_ble_eq_true rfl) ?_
  show Zs G 0 Y_X5_isSet (fnN G _) 0 [(0, .int (nI S))] [] μ
  refine z_iload_n dX5_isSet_0 rfl ?_
  refine z_ifN_lt (tgt := 15) dX5_isSet_1 (by decide) (by omega) ?_
  refine z_iload_n dX5_isSet_4 rfl ?_
  refine z_sipush (v := nI 1024) dX5_isSet_5 (by decide) ?_
  refine z_icmpN_ge (tgt := 15) dX5_isSet_8 (by decide) (by omega) (by omega) (fun c8 => absurd c8 (by omega)) (fun c8 => ?_)
  refine z_iconst (v := nI 1) dX5_isSet_11 (by decide) ?_
  refine z_goto (tgt := 16) dX5_isSet_12 (by decide) ?_
  exact z_zret rfl rfl dX5_isSet_16 ⟨rfl, rfl⟩
set_option maxRecDepth 100000 in
theorem ev_X5_totalOf (G : Gt) {a b m w : Nat} {E : Nat → Nat} {S : Nat} {μ : Mm} (h : tabOK μ a b m E w) (hS : S < 2 ^ m) : EVr G 1 Y_X5_totalOf [rf G 23, .int (nI S)] μ (.int (nI (tot a b E S))) := by
  have hm := h.le
  have hp := p1024 hm
  have hp1 := ppos m
  have hc := cntN_le (blk a b E) (2 ^ m)
  refine ev_of (by decide) (Nat.le_of_ble_eq_true rfl) ?_
  show Zs G 1 Y_X5_totalOf (fnN G _) 0 [(0, rf G 23), (1, .int (nI S))] [] μ
  refine z_iload_n dX5_totalOf_0 rfl ?_
  refine z_cS1 dX5_totalOf_1 lk_X5_74 (by decide) (Nat.le_of_ble_eq_true rfl) (ev_X5_isSet G (by omega)) ?_
  refine z_ifB_eq (tgt := 16) dX5_totalOf_4 (by decide) (fun c4 => Bool.noConfusion c4) (fun c4 => ?_)
  refine z_aload_n dX5_totalOf_7 rfl ?_
  refine z_getR (j := 28) dX5_totalOf_8 fl_X5_18 ⟨by decide, _, rfl, rfl⟩ ?_
  refine z_iload_n dX5_totalOf_11 rfl ?_
  refine z_ialdN dX5_totalOf_12 ⟨by decide, rfl⟩ (by omega) (by decide) (h.t hS) ?_
  refine z_goto (tgt := 17) dX5_totalOf_13 (by decide) ?_
  exact z_ret (ty := none) (v := none) rfl dX5_totalOf_17 ⟨rfl, rfl⟩
set_option maxRecDepth 100000 in
theorem ev_X5_isBlock (G : Gt) {a b m w : Nat} {E : Nat → Nat} {S : Nat} {μ : Mm} (h : tabOK μ a b m E w) (hS : S < 2 ^ m) : EVr G 1 Y_X5_isBlock [rf G 23, .int (nI S)] μ (.int (bI (blk a b E S))) := by
  have hm := h.le
  have hp := p1024 hm
  have hp1 := ppos m
  have hc := cntN_le (blk a b E) (2 ^ m)
  refine ev_of (by decide) (Nat.le_of_ble_eq_true rfl) ?_
  show Zs G 1 Y_X5_isBlock (fnN G _) 0 [(0, rf G 23), (1, .int (nI S))] [] μ
  refine z_iload_n dX5_isBlock_0 rfl ?_
  refine z_cS1 dX5_isBlock_1 lk_X5_74 (by decide) (Nat.le_of_ble_eq_true rfl) (ev_X5_isSet G (by omega)) ?_
  refine z_ifB_eq (tgt := 21) dX5_isBlock_4 (by decide) (fun c4 => Bool.noConfusion c4) (fun c4 => ?_)
  refine z_aload_n dX5_isBlock_7 rfl ?_
  refine z_getR (j := 29) dX5_isBlock_8 fl_X5_22 ⟨by decide, _, rfl, rfl⟩ ?_
  refine z_iload_n dX5_isBlock_11 rfl ?_
  have hk := kind_le a b E S
  refine z_ialdN dX5_isBlock_12 ⟨by decide, rfl⟩ (by omega) (by decide) (h.k hS) ?_
  refine z_iconst (v := nI 1) dX5_isBlock_13 (by decide) ?_
  refine z_icmpN_ne (tgt := 21) dX5_isBlock_14 (by decide) (by omega) (by omega) (fun c14 => ?_) (fun c14 => ?_)
  · refine z_iconst (v := nI 0) dX5_isBlock_21 (by decide) ?_
    exact z_zret rfl rfl dX5_isBlock_22 ⟨by cases q : blk a b E S with
      | true => exact absurd (kind_blk.mpr q) c14
      | false => rfl, rfl⟩
  · refine z_iconst (v := nI 1) dX5_isBlock_17 (by decide) ?_
    refine z_goto (tgt := 22) dX5_isBlock_18 (by decide) ?_
    exact z_zret rfl rfl dX5_isBlock_22 ⟨by rw [kind_blk.mp c14]; rfl, rfl⟩
set_option maxRecDepth 100000 in
theorem ev_X5_blockOrNone (G : Gt) {a b m w : Nat} {E : Nat → Nat} {i : Nat} {μ : Mm} (h : tabOK μ a b m E w) (hi : i < 2 ^ 31) : EVr G 0 Y_X5_blockOrNone [rf G 23, .int (nI i)] μ (.int (oI (nthN (blk a b E) i (2 ^ m)))) := by
  have hm := h.le
  have hp := p1024 hm
  have hp1 := ppos m
  have hc := cntN_le (blk a b E) (2 ^ m)
  refine ev_of (by decide) (Nat.le_of_ble_eq_true rfl) ?_
  show Zs G 0 Y_X5_blockOrNone (fnN G _) 0 [(0, rf G 23), (1, .int (nI i))] [] μ
  refine z_iload_n dX5_blockOrNone_0 rfl ?_
  refine z_ifN_lt (tgt := 21) dX5_blockOrNone_1 (by decide) (by omega) ?_
  refine z_iload_n dX5_blockOrNone_4 rfl ?_
  refine z_aload_n dX5_blockOrNone_5 rfl ?_
  refine z_getI dX5_blockOrNone_6 fl_X5_34 ⟨by decide, _, rfl, rfl⟩ h.c ?_
  refine z_icmpN_ge (tgt := 21) dX5_blockOrNone_9 (by decide) (by omega) (by omega) (fun c9 => ?_) (fun c9 => ?_)
  · refine z_iconst (v := -1) dX5_blockOrNone_21 (by decide) ?_
    exact z_ret (ty := none) (v := none) rfl dX5_blockOrNone_22 ⟨by rw [nthN_none c9]; rfl, rfl⟩
  · obtain ⟨S, q1, q2, q3, q4⟩ := cntN_ith c9
    refine z_aload_n dX5_blockOrNone_12 rfl ?_
    refine z_getR (j := 32) dX5_blockOrNone_13 fl_X5_31 ⟨by decide, _, rfl, rfl⟩ ?_
    refine z_iload_n dX5_blockOrNone_16 rfl ?_
    refine z_ialdN dX5_blockOrNone_17 ⟨by decide, rfl⟩ (by omega) (by decide) (h.bk q1 q2 q3) ?_
    refine z_goto (tgt := 22) dX5_blockOrNone_18 (by decide) ?_
    exact z_ret (ty := none) (v := none) rfl dX5_blockOrNone_22 ⟨by rw [nthN_some q2 q3 q1]; rfl, rfl⟩
set_option maxRecDepth 100000 in
theorem lp_X5_countBlocksIn (G : Gt) {a b m w : Nat} {E : Nat → Nat} {S : Nat} {μ : Mm} (h : tabOK μ a b m E w) (hS : S < 1024) : ∀ (f k s : Nat), k + f = cntN (blk a b E) (2 ^ m) → s ≤ 2 ^ m → k = cntN (blk a b E) s →
    Zs G 0 Y_X5_countBlocksIn (fnN G (fun v u => v = some (.int (nI (cntN (fun B => blk a b E B && sb B S) (2 ^ m)))) ∧ u = μ)) 4 [(0, rf G 23), (1, .int (nI S)), (2, .int (nI (cntN (fun B => blk a b E B && sb B S) s))), (3, .int (nI k))] [] μ := by
  intro f
  have hm := h.le
  have hp := p1024 hm
  have hp1 := ppos m
  have hc := cntN_le (blk a b E) (2 ^ m)
  induction f with
  | zero =>
    intro k s hf hs hk
    have hfl := cntN_none (f := blk a b E) hs (by omega)
    refine z_iload_n dX5_countBlocksIn_4 rfl ?_
    refine z_aload_n dX5_countBlocksIn_5 rfl ?_
    refine z_getI dX5_countBlocksIn_6 fl_X5_34 ⟨by decide, _, rfl, rfl⟩ h.c ?_
    refine z_icmpN_ge (tgt := 34) dX5_countBlocksIn_9 (by decide) (by omega) (by omega) (fun c9 => ?_) (fun c9 => absurd c9 (by omega))
    refine z_iload_n dX5_countBlocksIn_34 rfl ?_
    exact z_ret (ty := none) (v := none) rfl dX5_countBlocksIn_35 ⟨by rw [cntN_flat hs (fun B h1 h2 => by show (blk a b E B && _) = false; rw [hfl B h1 h2]; rfl)], rfl⟩
  | succ f ih =>
    intro k s hf hs hk
    obtain ⟨B, q1, q2, q3, q4, q5⟩ := cntN_next (f := blk a b E) hs (show cntN (blk a b E) s < cntN (blk a b E) (2 ^ m) by omega)
    have hbk := h.bk q2 q3 (q4.trans hk.symm)
    have hnx : k + 1 = cntN (blk a b E) (B + 1) := by rw [cntN_succ, if_pos q3]; omega
    refine z_iload_n dX5_countBlocksIn_4 rfl ?_
    refine z_aload_n dX5_countBlocksIn_5 rfl ?_
    refine z_getI dX5_countBlocksIn_6 fl_X5_34 ⟨by decide, _, rfl, rfl⟩ h.c ?_
    refine z_icmpN_ge (tgt := 34) dX5_countBlocksIn_9 (by decide) (by omega) (by omega) (fun c9 => absurd c9 (by omega)) (fun c9 => ?_)
    refine z_aload_n dX5_countBlocksIn_12 rfl ?_
    refine z_getR (j := 32) dX5_countBlocksIn_13 fl_X5_31 ⟨by decide, _, rfl, rfl⟩ ?_
    refine z_iload_n dX5_countBlocksIn_16 rfl ?_
    refine z_ialdN dX5_countBlocksIn_17 ⟨by decide, rfl⟩ (by omega) (by decide) hbk ?_
    refine z_iload_n dX5_countBlocksIn_18 rfl ?_
    refine z_iconst (v := -1) dX5_countBlocksIn_19 (by decide) ?_
    refine z_ixor dX5_countBlocksIn_20 ?_
    refine z_iand dX5_countBlocksIn_21 ?_
    rw [nI_andn]
    have hle := andn_le B S
    refine z_ifN_ne (tgt := 28) dX5_countBlocksIn_22 (by decide) (by omega) (fun c22 => ?_) (fun c22 => ?_)
    · have c23 : sb B S = false := by cases e : sb B S with
        | false => rfl
        | true => exact absurd (andn_zero.mpr e) c22
      refine z_iinc (v := nI (k + 1)) (lv' := [(3, _), (0, _), (1, _), (2, _)]) dX5_countBlocksIn_28 rfl (nI_inc _ 1) (by decide) rfl ?_
      refine z_goto (tgt := 4) dX5_countBlocksIn_31 (by decide) ?_
      have q := ih (k + 1) (B + 1) (by omega) (by omega) hnx
      rw [show cntN (fun B => blk a b E B && sb B S) (B + 1) = cntN (fun B => blk a b E B && sb B S) s by rw [cntN_succ, q3, cntN_flat (s := s) q1 (fun B h1 h2 => by show (blk a b E B && _) = false; rw [q5 B h1 h2]; rfl)]; simp [c23]] at q
      refine z_sub (lv' := [(0, _), (1, _), (2, _), (3, _)]) rfl ?_
      exact q
    · have c23 := andn_zero.mp c22
      refine z_iinc (v := nI ((cntN (fun B => blk a b E B && sb B S) s) + 1)) (lv' := [(2, _), (0, _), (1, _), (3, _)]) dX5_countBlocksIn_25 rfl (nI_inc _ 1) (by decide) rfl ?_
      refine z_iinc (v := nI (k + 1)) (lv' := [(3, _), (2, _), (0, _), (1, _)]) dX5_countBlocksIn_28 rfl (nI_inc _ 1) (by decide) rfl ?_
      refine z_goto (tgt := 4) dX5_countBlocksIn_31 (by decide) ?_
      have q := ih (k + 1) (B + 1) (by omega) (by omega) hnx
      rw [show cntN (fun B => blk a b E B && sb B S) (B + 1) = cntN (fun B => blk a b E B && sb B S) s + 1 by rw [cntN_succ, q3, cntN_flat (s := s) q1 (fun B h1 h2 => by show (blk a b E B && _) = false; rw [q5 B h1 h2]; rfl)]; simp [c23]] at q
      refine z_sub (lv' := [(0, _), (1, _), (2, _), (3, _)]) rfl ?_
      exact q
set_option maxRecDepth 100000 in
theorem ev_X5_countBlocksIn (G : Gt) {a b m w : Nat} {E : Nat → Nat} {S : Nat} {μ : Mm} (h : tabOK μ a b m E w) (hS : S < 1024) : EVr G 0 Y_X5_countBlocksIn [rf G 23, .int (nI S)] μ (.int (nI (cntN (fun B => blk a b E B && sb B S) (2 ^ m)))) := by
  have hm := h.le
  have hp := p1024 hm
  have hp1 := ppos m
  have hc := cntN_le (blk a b E) (2 ^ m)
  refine ev_of (by decide) (Nat.le_of_ble_eq_true rfl) ?_
  show Zs G 0 Y_X5_countBlocksIn (fnN G _) 0 [(0, rf G 23), (1, .int (nI S))] [] μ
  refine z_iconst (v := nI 0) dX5_countBlocksIn_0 (by decide) ?_
  refine z_istore_n (lv' := [(2, _), (0, _), (1, _)]) dX5_countBlocksIn_1 rfl (by decide) rfl ?_
  refine z_iconst (v := nI 0) dX5_countBlocksIn_2 (by decide) ?_
  refine z_istore_n (lv' := [(3, _), (2, _), (0, _), (1, _)]) dX5_countBlocksIn_3 rfl (by decide) rfl ?_
  refine z_sub (lv' := [(0, _), (1, _), (2, _), (3, _)]) rfl ?_
  exact lp_X5_countBlocksIn G h (by assumption) (cntN (blk a b E) (2 ^ m)) 0 0 (by omega) (by omega) rfl
set_option maxRecDepth 100000 in
theorem lp_X5_countBlocksAt (G : Gt) {a b m w : Nat} {E : Nat → Nat} {p : Nat} {μ : Mm} (h : tabOK μ a b m E w) (hpl : p < 32) : ∀ (f k s : Nat), k + f = cntN (blk a b E) (2 ^ m) → s ≤ 2 ^ m → k = cntN (blk a b E) s →
    Zs G 0 Y_X5_countBlocksAt (fnN G (fun v u => v = some (.int (nI (cntN (fun B => blk a b E B && B.testBit p) (2 ^ m)))) ∧ u = μ)) 4 [(0, rf G 23), (1, .int (nI p)), (2, .int (nI (cntN (fun B => blk a b E B && B.testBit p) s))), (3, .int (nI k))] [] μ := by
  intro f
  have hm := h.le
  have hp := p1024 hm
  have hp1 := ppos m
  have hc := cntN_le (blk a b E) (2 ^ m)
  induction f with
  | zero =>
    intro k s hf hs hk
    have hfl := cntN_none (f := blk a b E) hs (by omega)
    refine z_iload_n dX5_countBlocksAt_4 rfl ?_
    refine z_aload_n dX5_countBlocksAt_5 rfl ?_
    refine z_getI dX5_countBlocksAt_6 fl_X5_34 ⟨by decide, _, rfl, rfl⟩ h.c ?_
    refine z_icmpN_ge (tgt := 34) dX5_countBlocksAt_9 (by decide) (by omega) (by omega) (fun c9 => ?_) (fun c9 => absurd c9 (by omega))
    refine z_iload_n dX5_countBlocksAt_34 rfl ?_
    exact z_ret (ty := none) (v := none) rfl dX5_countBlocksAt_35 ⟨by rw [cntN_flat hs (fun B h1 h2 => by show (blk a b E B && _) = false; rw [hfl B h1 h2]; rfl)], rfl⟩
  | succ f ih =>
    intro k s hf hs hk
    obtain ⟨B, q1, q2, q3, q4, q5⟩ := cntN_next (f := blk a b E) hs (show cntN (blk a b E) s < cntN (blk a b E) (2 ^ m) by omega)
    have hbk := h.bk q2 q3 (q4.trans hk.symm)
    have hnx : k + 1 = cntN (blk a b E) (B + 1) := by rw [cntN_succ, if_pos q3]; omega
    refine z_iload_n dX5_countBlocksAt_4 rfl ?_
    refine z_aload_n dX5_countBlocksAt_5 rfl ?_
    refine z_getI dX5_countBlocksAt_6 fl_X5_34 ⟨by decide, _, rfl, rfl⟩ h.c ?_
    refine z_icmpN_ge (tgt := 34) dX5_countBlocksAt_9 (by decide) (by omega) (by omega) (fun c9 => absurd c9 (by omega)) (fun c9 => ?_)
    refine z_aload_n dX5_countBlocksAt_12 rfl ?_
    refine z_getR (j := 32) dX5_countBlocksAt_13 fl_X5_31 ⟨by decide, _, rfl, rfl⟩ ?_
    refine z_iload_n dX5_countBlocksAt_16 rfl ?_
    refine z_ialdN dX5_countBlocksAt_17 ⟨by decide, rfl⟩ (by omega) (by decide) hbk ?_
    refine z_iload_n dX5_countBlocksAt_18 rfl ?_
    refine z_ishrN dX5_countBlocksAt_19 (by omega) (by omega) ?_
    refine z_iconst (v := nI 1) dX5_countBlocksAt_20 (by decide) ?_
    refine z_iandN dX5_countBlocksAt_21 ?_
    refine z_ifT_eq (tgt := 28) dX5_countBlocksAt_22 (by decide) (fun c22 => ?_) (fun c22 => ?_)
    · refine z_iinc (v := nI (k + 1)) (lv' := [(3, _), (0, _), (1, _), (2, _)]) dX5_countBlocksAt_28 rfl (nI_inc _ 1) (by decide) rfl ?_
      refine z_goto (tgt := 4) dX5_countBlocksAt_31 (by decide) ?_
      have q := ih (k + 1) (B + 1) (by omega) (by omega) hnx
      rw [show cntN (fun B => blk a b E B && B.testBit p) (B + 1) = cntN (fun B => blk a b E B && B.testBit p) s by rw [cntN_succ, q3, cntN_flat (s := s) q1 (fun B h1 h2 => by show (blk a b E B && _) = false; rw [q5 B h1 h2]; rfl)]; simp [c22]] at q
      refine z_sub (lv' := [(0, _), (1, _), (2, _), (3, _)]) rfl ?_
      exact q
    · refine z_iinc (v := nI ((cntN (fun B => blk a b E B && B.testBit p) s) + 1)) (lv' := [(2, _), (0, _), (1, _), (3, _)]) dX5_countBlocksAt_25 rfl (nI_inc _ 1) (by decide) rfl ?_
      refine z_iinc (v := nI (k + 1)) (lv' := [(3, _), (2, _), (0, _), (1, _)]) dX5_countBlocksAt_28 rfl (nI_inc _ 1) (by decide) rfl ?_
      refine z_goto (tgt := 4) dX5_countBlocksAt_31 (by decide) ?_
      have q := ih (k + 1) (B + 1) (by omega) (by omega) hnx
      rw [show cntN (fun B => blk a b E B && B.testBit p) (B + 1) = cntN (fun B => blk a b E B && B.testBit p) s + 1 by rw [cntN_succ, q3, cntN_flat (s := s) q1 (fun B h1 h2 => by show (blk a b E B && _) = false; rw [q5 B h1 h2]; rfl)]; simp [c22]] at q
      refine z_sub (lv' := [(0, _), (1, _), (2, _), (3, _)]) rfl ?_
      exact q
set_option maxRecDepth 100000 in
theorem ev_X5_countBlocksAt (G : Gt) {a b m w : Nat} {E : Nat → Nat} {p : Nat} {μ : Mm} (h : tabOK μ a b m E w) (hpl : p < 32) : EVr G 0 Y_X5_countBlocksAt [rf G 23, .int (nI p)] μ (.int (nI (cntN (fun B => blk a b E B && B.testBit p) (2 ^ m)))) := by
  have hm := h.le
  have hp := p1024 hm
  have hp1 := ppos m
  have hc := cntN_le (blk a b E) (2 ^ m)
  refine ev_of (by decide) (Nat.le_of_ble_eq_true rfl) ?_
  show Zs G 0 Y_X5_countBlocksAt (fnN G _) 0 [(0, rf G 23), (1, .int (nI p))] [] μ
  refine z_iconst (v := nI 0) dX5_countBlocksAt_0 (by decide) ?_
  refine z_istore_n (lv' := [(2, _), (0, _), (1, _)]) dX5_countBlocksAt_1 rfl (by decide) rfl ?_
  refine z_iconst (v := nI 0) dX5_countBlocksAt_2 (by decide) ?_
  refine z_istore_n (lv' := [(3, _), (2, _), (0, _), (1, _)]) dX5_countBlocksAt_3 rfl (by decide) rfl ?_
  refine z_sub (lv' := [(0, _), (1, _), (2, _), (3, _)]) rfl ?_
  exact lp_X5_countBlocksAt G h (by assumption) (cntN (blk a b E) (2 ^ m)) 0 0 (by omega) (by omega) rfl
def cPl (a b : Nat) (E : Nat → Nat) (P B : Nat) : Bool := blk a b E B && decide (B &&& P ≠ 0)
set_option maxRecDepth 100000 in
theorem lp_X5_smallestBlock (G : Gt) {a b m w : Nat} {E : Nat → Nat} {P : Nat} {μ : Mm} (h : tabOK μ a b m E w) (hP : P < 1024) : ∀ (f k s : Nat), k + f = cntN (blk a b E) (2 ^ m) → s ≤ 2 ^ m → k = cntN (blk a b E) s →
    Zs G 1 Y_X5_smallestBlock (fnN G (fun v u => v = some (.int (nI (smA (cPl a b E P) (2 ^ m)))) ∧ u = μ)) 4 [(0, rf G 23), (1, .int (nI P)), (2, .int (nI (smA (cPl a b E P) s))), (3, .int (nI k))] [] μ := by
  intro f
  have hm := h.le
  have hp := p1024 hm
  have hp1 := ppos m
  have hc := cntN_le (blk a b E) (2 ^ m)
  have hsm := fun s => smA_le (cPl a b E P) s
  induction f with
  | zero =>
    intro k s hf hs hk
    have hfl := cntN_none (f := blk a b E) hs (by omega)
    refine z_iload_n dX5_smallestBlock_4 rfl ?_
    refine z_aload_n dX5_smallestBlock_5 rfl ?_
    refine z_getI dX5_smallestBlock_6 fl_X5_34 ⟨by decide, _, rfl, rfl⟩ h.c ?_
    refine z_icmpN_ge (tgt := 53) dX5_smallestBlock_9 (by decide) (by omega) (by omega) (fun c9 => ?_) (fun c9 => absurd c9 (by omega))
    refine z_iload_n dX5_smallestBlock_53 rfl ?_
    exact z_ret (ty := none) (v := none) rfl dX5_smallestBlock_54 ⟨by rw [smA_flat hs (fun B h1 h2 => by unfold cPl; rw [hfl B h1 h2]; rfl)], rfl⟩
  | succ f ih =>
    intro k s hf hs hk
    obtain ⟨B, q1, q2, q3, q4, q5⟩ := cntN_next (f := blk a b E) hs (show cntN (blk a b E) s < cntN (blk a b E) (2 ^ m) by omega)
    have hbk := h.bk q2 q3 (q4.trans hk.symm)
    have hnx : k + 1 = cntN (blk a b E) (B + 1) := by rw [cntN_succ, if_pos q3]; omega
    have hsm2 := hsm s
    have hcb : cPl a b E P B = decide (B &&& P ≠ 0) := by unfold cPl; rw [q3]; rfl
    refine z_iload_n dX5_smallestBlock_4 rfl ?_
    refine z_aload_n dX5_smallestBlock_5 rfl ?_
    refine z_getI dX5_smallestBlock_6 fl_X5_34 ⟨by decide, _, rfl, rfl⟩ h.c ?_
    refine z_icmpN_ge (tgt := 53) dX5_smallestBlock_9 (by decide) (by omega) (by omega) (fun c9 => absurd c9 (by omega)) (fun c9 => ?_)
    refine z_aload_n dX5_smallestBlock_12 rfl ?_
    refine z_getR (j := 32) dX5_smallestBlock_13 fl_X5_31 ⟨by decide, _, rfl, rfl⟩ ?_
    refine z_iload_n dX5_smallestBlock_16 rfl ?_
    refine z_ialdN dX5_smallestBlock_17 ⟨by decide, rfl⟩ (by omega) (by decide) hbk ?_
    refine z_cS1 dX5_smallestBlock_18 lk_X5_78 (by decide) (Nat.le_of_ble_eq_true rfl) (ev_J6_bitCount_0f7a4 G (by omega)) ?_
    refine z_istore (lv' := [(4, _), (0, _), (1, _), (2, _), (3, _)]) dX5_smallestBlock_21 (by decide) rfl ?_
    refine z_aload_n dX5_smallestBlock_23 rfl ?_
    refine z_getR (j := 32) dX5_smallestBlock_24 fl_X5_31 ⟨by decide, _, rfl, rfl⟩ ?_
    have hpc := pcN_le B
    refine z_iload_n dX5_smallestBlock_27 rfl ?_
    refine z_ialdN dX5_smallestBlock_28 ⟨by decide, rfl⟩ (by omega) (by decide) hbk ?_
    refine z_iload_n dX5_smallestBlock_29 rfl ?_
    refine z_iandN dX5_smallestBlock_30 ?_
    refine z_ifN_eq (tgt := 47) dX5_smallestBlock_31 (by decide) (by have : B &&& P ≤ B := Nat.and_le_left; omega) (fun c31 => ?_) (fun c31 => ?_)
    · refine z_iinc (v := nI (k + 1)) (lv' := [(3, _), (4, _), (0, _), (1, _), (2, _)]) dX5_smallestBlock_47 rfl (nI_inc _ 1) (by decide) rfl ?_
      refine z_goto (tgt := 4) dX5_smallestBlock_50 (by decide) ?_
      have q := ih (k + 1) (B + 1) (by omega) (by omega) hnx
      rw [show smA (cPl a b E P) (B + 1) = smA (cPl a b E P) s by
        have e9 : smA (cPl a b E P) (B + 1) = if cPl a b E P B && (decide (smA (cPl a b E P) B = 0) || decide (pcN B < smA (cPl a b E P) B)) then pcN B else smA (cPl a b E P) B := rfl
        rw [e9, hcb, smA_flat (s := s) q1 (fun B h1 h2 => by unfold cPl; rw [q5 B h1 h2]; rfl)]; simp [c31]] at q
      refine z_sub (lv' := [(0, _), (1, _), (2, _), (3, _)]) rfl ?_
      exact q
    · refine z_iload_n dX5_smallestBlock_34 rfl ?_
      refine z_ifN_eq (tgt := 44) dX5_smallestBlock_35 (by decide) (by omega) (fun c35 => ?_) (fun c35 => ?_)
      · refine z_iload dX5_smallestBlock_44 rfl ?_
        refine z_istore_n (lv' := [(2, _), (4, _), (0, _), (1, _), (3, _)]) dX5_smallestBlock_46 rfl (by decide) rfl ?_
        refine z_iinc (v := nI (k + 1)) (lv' := [(3, _), (2, _), (4, _), (0, _), (1, _)]) dX5_smallestBlock_47 rfl (nI_inc _ 1) (by decide) rfl ?_
        refine z_goto (tgt := 4) dX5_smallestBlock_50 (by decide) ?_
        have q := ih (k + 1) (B + 1) (by omega) (by omega) hnx
        rw [show smA (cPl a b E P) (B + 1) = pcN B by
          have e9 : smA (cPl a b E P) (B + 1) = if cPl a b E P B && (decide (smA (cPl a b E P) B = 0) || decide (pcN B < smA (cPl a b E P) B)) then pcN B else smA (cPl a b E P) B := rfl
          rw [e9, hcb, smA_flat (s := s) q1 (fun B h1 h2 => by unfold cPl; rw [q5 B h1 h2]; rfl)]; simp [c31, c35]] at q
        refine z_sub (lv' := [(0, _), (1, _), (2, _), (3, _)]) rfl ?_
        exact q
      · refine z_iload dX5_smallestBlock_38 rfl ?_
        refine z_iload_n dX5_smallestBlock_40 rfl ?_
        refine z_icmpN_ge (tgt := 47) dX5_smallestBlock_41 (by decide) (by omega) (by omega) (fun c41 => ?_) (fun c41 => ?_)
        · refine z_iinc (v := nI (k + 1)) (lv' := [(3, _), (4, _), (0, _), (1, _), (2, _)]) dX5_smallestBlock_47 rfl (nI_inc _ 1) (by decide) rfl ?_
          refine z_goto (tgt := 4) dX5_smallestBlock_50 (by decide) ?_
          have q := ih (k + 1) (B + 1) (by omega) (by omega) hnx
          rw [show smA (cPl a b E P) (B + 1) = smA (cPl a b E P) s by
            have e9 : smA (cPl a b E P) (B + 1) = if cPl a b E P B && (decide (smA (cPl a b E P) B = 0) || decide (pcN B < smA (cPl a b E P) B)) then pcN B else smA (cPl a b E P) B := rfl
            rw [e9, hcb, smA_flat (s := s) q1 (fun B h1 h2 => by unfold cPl; rw [q5 B h1 h2]; rfl)]; simp [c31, c35]; omega] at q
          refine z_sub (lv' := [(0, _), (1, _), (2, _), (3, _)]) rfl ?_
          exact q
        · refine z_iload dX5_smallestBlock_44 rfl ?_
          refine z_istore_n (lv' := [(2, _), (4, _), (0, _), (1, _), (3, _)]) dX5_smallestBlock_46 rfl (by decide) rfl ?_
          refine z_iinc (v := nI (k + 1)) (lv' := [(3, _), (2, _), (4, _), (0, _), (1, _)]) dX5_smallestBlock_47 rfl (nI_inc _ 1) (by decide) rfl ?_
          refine z_goto (tgt := 4) dX5_smallestBlock_50 (by decide) ?_
          have q := ih (k + 1) (B + 1) (by omega) (by omega) hnx
          rw [show smA (cPl a b E P) (B + 1) = pcN B by
            have e9 : smA (cPl a b E P) (B + 1) = if cPl a b E P B && (decide (smA (cPl a b E P) B = 0) || decide (pcN B < smA (cPl a b E P) B)) then pcN B else smA (cPl a b E P) B := rfl
            rw [e9, hcb, smA_flat (s := s) q1 (fun B h1 h2 => by unfold cPl; rw [q5 B h1 h2]; rfl)]; simp [c31, c41]] at q
          refine z_sub (lv' := [(0, _), (1, _), (2, _), (3, _)]) rfl ?_
          exact q
set_option maxRecDepth 100000 in
theorem ev_X5_smallestBlock (G : Gt) {a b m w : Nat} {E : Nat → Nat} {P : Nat} {μ : Mm} (h : tabOK μ a b m E w) (hP : P < 1024) : EVr G 1 Y_X5_smallestBlock [rf G 23, .int (nI P)] μ (.int (nI (smA (cPl a b E P) (2 ^ m)))) := by
  have hm := h.le
  have hp := p1024 hm
  have hp1 := ppos m
  have hc := cntN_le (blk a b E) (2 ^ m)
  refine ev_of (by decide) (Nat.le_of_ble_eq_true rfl) ?_
  show Zs G 1 Y_X5_smallestBlock (fnN G _) 0 [(0, rf G 23), (1, .int (nI P))] [] μ
  refine z_iconst (v := nI 0) dX5_smallestBlock_0 (by decide) ?_
  refine z_istore_n (lv' := [(2, _), (0, _), (1, _)]) dX5_smallestBlock_1 rfl (by decide) rfl ?_
  refine z_iconst (v := nI 0) dX5_smallestBlock_2 (by decide) ?_
  refine z_istore_n (lv' := [(3, _), (2, _), (0, _), (1, _)]) dX5_smallestBlock_3 rfl (by decide) rfl ?_
  refine z_sub (lv' := [(0, _), (1, _), (2, _), (3, _)]) rfl ?_
  exact lp_X5_smallestBlock G h hP (cntN (blk a b E) (2 ^ m)) 0 0 (by omega) (by omega) rfl
set_option maxRecDepth 100000 in
theorem lp_X5_greatestBlock (G : Gt) {a b m w : Nat} {E : Nat → Nat}  {μ : Mm} (h : tabOK μ a b m E w) : ∀ (f k s : Nat), k + f = cntN (blk a b E) (2 ^ m) → s ≤ 2 ^ m → k = cntN (blk a b E) s →
    Zs G 1 Y_X5_greatestBlock (fnN G (fun v u => v = some (.int (nI (gmA (blk a b E) (2 ^ m)))) ∧ u = μ)) 4 [(0, rf G 23), (1, .int (nI (gmA (blk a b E) s))), (2, .int (nI k))] [] μ := by
  intro f
  have hm := h.le
  have hp := p1024 hm
  have hp1 := ppos m
  have hc := cntN_le (blk a b E) (2 ^ m)
  have hgm := fun s => gmA_le (blk a b E) s
  induction f with
  | zero =>
    intro k s hf hs hk
    have hfl := cntN_none (f := blk a b E) hs (by omega)
    refine z_iload_n dX5_greatestBlock_4 rfl ?_
    refine z_aload_n dX5_greatestBlock_5 rfl ?_
    refine z_getI dX5_greatestBlock_6 fl_X5_34 ⟨by decide, _, rfl, rfl⟩ h.c ?_
    refine z_icmpN_ge (tgt := 32) dX5_greatestBlock_9 (by decide) (by omega) (by omega) (fun c9 => ?_) (fun c9 => absurd c9 (by omega))
    refine z_iload_n dX5_greatestBlock_32 rfl ?_
    exact z_ret (ty := none) (v := none) rfl dX5_greatestBlock_33 ⟨by rw [gmA_flat hs hfl], rfl⟩
  | succ f ih =>
    intro k s hf hs hk
    obtain ⟨B, q1, q2, q3, q4, q5⟩ := cntN_next (f := blk a b E) hs (show cntN (blk a b E) s < cntN (blk a b E) (2 ^ m) by omega)
    have hbk := h.bk q2 q3 (q4.trans hk.symm)
    have hnx : k + 1 = cntN (blk a b E) (B + 1) := by rw [cntN_succ, if_pos q3]; omega
    have hgm2 := hgm s
    refine z_iload_n dX5_greatestBlock_4 rfl ?_
    refine z_aload_n dX5_greatestBlock_5 rfl ?_
    refine z_getI dX5_greatestBlock_6 fl_X5_34 ⟨by decide, _, rfl, rfl⟩ h.c ?_
    refine z_icmpN_ge (tgt := 32) dX5_greatestBlock_9 (by decide) (by omega) (by omega) (fun c9 => absurd c9 (by omega)) (fun c9 => ?_)
    refine z_iload_n dX5_greatestBlock_12 rfl ?_
    refine z_aload_n dX5_greatestBlock_13 rfl ?_
    refine z_getR (j := 32) dX5_greatestBlock_14 fl_X5_31 ⟨by decide, _, rfl, rfl⟩ ?_
    refine z_iload_n dX5_greatestBlock_17 rfl ?_
    refine z_ialdN dX5_greatestBlock_18 ⟨by decide, rfl⟩ (by omega) (by decide) hbk ?_
    refine z_cS1 dX5_greatestBlock_19 lk_X5_78 (by decide) (Nat.le_of_ble_eq_true rfl) (ev_J6_bitCount_0f7a4 G (by omega)) ?_
    have hpc := pcN_le B
    refine z_cS2 dX5_greatestBlock_22 lk_X5_84 (by decide) (Nat.le_of_ble_eq_true rfl) (ev_J9_max_7cf53 G (by omega) (by omega)) ?_
    refine z_istore_n (lv' := [(1, _), (0, _), (2, _)]) dX5_greatestBlock_25 rfl (by decide) rfl ?_
    refine z_iinc (v := nI (k + 1)) (lv' := [(2, _), (1, _), (0, _)]) dX5_greatestBlock_26 rfl (nI_inc _ 1) (by decide) rfl ?_
    refine z_goto (tgt := 4) dX5_greatestBlock_29 (by decide) ?_
    have q := ih (k + 1) (B + 1) (by omega) (by omega) hnx
    rw [show gmA (blk a b E) (B + 1) = max (gmA (blk a b E) s) (pcN B) by
      have e9 : gmA (blk a b E) (B + 1) = if blk a b E B then max (gmA (blk a b E) B) (pcN B) else gmA (blk a b E) B := rfl
      rw [e9, q3, gmA_flat (s := s) q1 q5]; simp] at q
    refine z_sub (lv' := [(0, _), (1, _), (2, _)]) rfl ?_
    exact q
set_option maxRecDepth 100000 in
theorem ev_X5_greatestBlock (G : Gt) {a b m w : Nat} {E : Nat → Nat} {μ : Mm} (h : tabOK μ a b m E w) : EVr G 1 Y_X5_greatestBlock [rf G 23] μ (.int (nI (gmA (blk a b E) (2 ^ m)))) := by
  have hm := h.le
  have hp := p1024 hm
  have hp1 := ppos m
  have hc := cntN_le (blk a b E) (2 ^ m)
  refine ev_of (by decide) (Nat.le_of_ble_eq_true rfl) ?_
  show Zs G 1 Y_X5_greatestBlock (fnN G _) 0 [(0, rf G 23)] [] μ
  refine z_iconst (v := nI 0) dX5_greatestBlock_0 (by decide) ?_
  refine z_istore_n (lv' := [(1, _), (0, _)]) dX5_greatestBlock_1 rfl (by decide) rfl ?_
  refine z_iconst (v := nI 0) dX5_greatestBlock_2 (by decide) ?_
  refine z_istore_n (lv' := [(2, _), (1, _), (0, _)]) dX5_greatestBlock_3 rfl (by decide) rfl ?_
  refine z_sub (lv' := [(0, _), (1, _), (2, _)]) rfl ?_
  exact lp_X5_greatestBlock G h (cntN (blk a b E) (2 ^ m)) 0 0 (by omega) (by omega) rfl
set_option maxRecDepth 100000 in
theorem lp_X5_countFreeSets (G : Gt) {a b m w : Nat} {E : Nat → Nat} {p t : Nat} {μ : Mm} (h : tabOK μ a b m E w) (hpp : p < 2 ^ 31) (htt : t < 2 ^ 31) : ∀ (f S : Nat), S + f = 2 ^ m →
    Zs G 1 Y_X5_countFreeSets (fnN G (fun v u => v = some (.int (nI (cntN (fun S => decide (pcN S = p) && decide (kindN a b E S = 0) && decide (tot a b E S = t)) (2 ^ m)))) ∧ u = μ)) 5 [(0, rf G 23), (1, .int (nI p)), (2, .int (nI t)), (3, .int (nI (cntN (fun S => decide (pcN S = p) && decide (kindN a b E S = 0) && decide (tot a b E S = t)) S))), (4, .int (nI S))] [] μ := by
  intro f
  have hm := h.le
  have hp := p1024 hm
  have hp1 := ppos m
  have hc := cntN_le (blk a b E) (2 ^ m)
  induction f with
  | zero =>
    intro S hf
    refine z_iload dX5_countFreeSets_5 rfl ?_
    refine z_iconst (v := nI 1) dX5_countFreeSets_7 (by decide) ?_
    refine z_aload_n dX5_countFreeSets_8 rfl ?_
    refine z_getR (j := 24) dX5_countFreeSets_9 fl_X5_12 ⟨by decide, _, rfl, rfl⟩ ?_
    refine z_getI dX5_countFreeSets_12 fl_X5_45 ⟨by decide, _, rfl, rfl⟩ h.n ?_
    refine z_ishlN dX5_countFreeSets_15 (by omega) (by omega) ?_
    refine z_icmpN_ge (tgt := 58) dX5_countFreeSets_16 (by decide) (by omega) (by omega) (fun c16 => ?_) (fun c16 => absurd c16 (by omega))
    refine z_iload_n dX5_countFreeSets_58 rfl ?_
    exact z_ret (ty := none) (v := none) rfl dX5_countFreeSets_59 ⟨by rw [show 2 ^ m = S by omega], rfl⟩
  | succ f ih =>
    intro S hf
    have hk := kind_le a b E S
    have ht2 := tot_lt h.g.2.2.1 h.g.2.2.2.2.1 E S
    have hab := ab_le h.g.2.2.2.1 h.g.2.2.2.2.2
    have hpc := pcN_le S
    refine z_iload dX5_countFreeSets_5 rfl ?_
    refine z_iconst (v := nI 1) dX5_countFreeSets_7 (by decide) ?_
    refine z_aload_n dX5_countFreeSets_8 rfl ?_
    refine z_getR (j := 24) dX5_countFreeSets_9 fl_X5_12 ⟨by decide, _, rfl, rfl⟩ ?_
    refine z_getI dX5_countFreeSets_12 fl_X5_45 ⟨by decide, _, rfl, rfl⟩ h.n ?_
    refine z_ishlN dX5_countFreeSets_15 (by omega) (by omega) ?_
    refine z_icmpN_ge (tgt := 58) dX5_countFreeSets_16 (by decide) (by omega) (by omega) (fun c16 => absurd c16 (by omega)) (fun c16 => ?_)
    refine z_iload dX5_countFreeSets_19 rfl ?_
    refine z_cS1 dX5_countFreeSets_21 lk_X5_78 (by decide) (Nat.le_of_ble_eq_true rfl) (ev_J6_bitCount_0f7a4 G (by omega)) ?_
    refine z_iload_n dX5_countFreeSets_24 rfl ?_
    refine z_icmpN_ne (tgt := 52) dX5_countFreeSets_25 (by decide) (by omega) (by omega) (fun c25 => ?_) (fun c25 => ?_)
    · refine z_iinc (v := nI (S + 1)) (lv' := [(4, _), (0, _), (1, _), (2, _), (3, _)]) dX5_countFreeSets_52 rfl (nI_inc _ 1) (by decide) rfl ?_
      refine z_goto (tgt := 5) dX5_countFreeSets_55 (by decide) ?_
      have q := ih (S + 1) (by omega)
      rw [show cntN (fun S => decide (pcN S = p) && decide (kindN a b E S = 0) && decide (tot a b E S = t)) (S + 1) = cntN (fun S => decide (pcN S = p) && decide (kindN a b E S = 0) && decide (tot a b E S = t)) S by rw [cntN_succ]; simp [c25]] at q
      refine z_sub (lv' := [(0, _), (1, _), (2, _), (3, _), (4, _)]) rfl ?_
      exact q
    · refine z_aload_n dX5_countFreeSets_28 rfl ?_
      refine z_getR (j := 29) dX5_countFreeSets_29 fl_X5_22 ⟨by decide, _, rfl, rfl⟩ ?_
      refine z_iload dX5_countFreeSets_32 rfl ?_
      refine z_ialdN dX5_countFreeSets_34 ⟨by decide, rfl⟩ (by omega) (by decide) (h.k (by omega)) ?_
      refine z_ifN_ne (tgt := 52) dX5_countFreeSets_35 (by decide) (by omega) (fun c35 => ?_) (fun c35 => ?_)
      · refine z_iinc (v := nI (S + 1)) (lv' := [(4, _), (0, _), (1, _), (2, _), (3, _)]) dX5_countFreeSets_52 rfl (nI_inc _ 1) (by decide) rfl ?_
        refine z_goto (tgt := 5) dX5_countFreeSets_55 (by decide) ?_
        have q := ih (S + 1) (by omega)
        rw [show cntN (fun S => decide (pcN S = p) && decide (kindN a b E S = 0) && decide (tot a b E S = t)) (S + 1) = cntN (fun S => decide (pcN S = p) && decide (kindN a b E S = 0) && decide (tot a b E S = t)) S by rw [cntN_succ]; simp [c35]] at q
        refine z_sub (lv' := [(0, _), (1, _), (2, _), (3, _), (4, _)]) rfl ?_
        exact q
      · refine z_aload_n dX5_countFreeSets_38 rfl ?_
        refine z_getR (j := 28) dX5_countFreeSets_39 fl_X5_18 ⟨by decide, _, rfl, rfl⟩ ?_
        refine z_iload dX5_countFreeSets_42 rfl ?_
        refine z_ialdN dX5_countFreeSets_44 ⟨by decide, rfl⟩ (by omega) (by decide) (h.t (by omega)) ?_
        refine z_iload_n dX5_countFreeSets_45 rfl ?_
        refine z_icmpN_ne (tgt := 52) dX5_countFreeSets_46 (by decide) (by omega) (by omega) (fun c46 => ?_) (fun c46 => ?_)
        · refine z_iinc (v := nI (S + 1)) (lv' := [(4, _), (0, _), (1, _), (2, _), (3, _)]) dX5_countFreeSets_52 rfl (nI_inc _ 1) (by decide) rfl ?_
          refine z_goto (tgt := 5) dX5_countFreeSets_55 (by decide) ?_
          have q := ih (S + 1) (by omega)
          rw [show cntN (fun S => decide (pcN S = p) && decide (kindN a b E S = 0) && decide (tot a b E S = t)) (S + 1) = cntN (fun S => decide (pcN S = p) && decide (kindN a b E S = 0) && decide (tot a b E S = t)) S by rw [cntN_succ]; simp [c46]] at q
          refine z_sub (lv' := [(0, _), (1, _), (2, _), (3, _), (4, _)]) rfl ?_
          exact q
        · refine z_iinc (v := nI ((cntN (fun S => decide (pcN S = p) && decide (kindN a b E S = 0) && decide (tot a b E S = t)) S) + 1)) (lv' := [(3, _), (0, _), (1, _), (2, _), (4, _)]) dX5_countFreeSets_49 rfl (nI_inc _ 1) (by decide) rfl ?_
          refine z_iinc (v := nI (S + 1)) (lv' := [(4, _), (3, _), (0, _), (1, _), (2, _)]) dX5_countFreeSets_52 rfl (nI_inc _ 1) (by decide) rfl ?_
          refine z_goto (tgt := 5) dX5_countFreeSets_55 (by decide) ?_
          have q := ih (S + 1) (by omega)
          rw [show cntN (fun S => decide (pcN S = p) && decide (kindN a b E S = 0) && decide (tot a b E S = t)) (S + 1) = cntN (fun S => decide (pcN S = p) && decide (kindN a b E S = 0) && decide (tot a b E S = t)) S + 1 by rw [cntN_succ]; simp [c25, c35, c46]] at q
          refine z_sub (lv' := [(0, _), (1, _), (2, _), (3, _), (4, _)]) rfl ?_
          exact q
set_option maxRecDepth 100000 in
theorem ev_X5_countFreeSets (G : Gt) {a b m w : Nat} {E : Nat → Nat} {p t : Nat} {μ : Mm} (h : tabOK μ a b m E w) (hpp : p < 2 ^ 31) (htt : t < 2 ^ 31) : EVr G 1 Y_X5_countFreeSets [rf G 23, .int (nI p), .int (nI t)] μ (.int (nI (cntN (fun S => decide (pcN S = p) && decide (kindN a b E S = 0) && decide (tot a b E S = t)) (2 ^ m)))) := by
  have hm := h.le
  have hp := p1024 hm
  have hp1 := ppos m
  have hc := cntN_le (blk a b E) (2 ^ m)
  refine ev_of (by decide) (Nat.le_of_ble_eq_true rfl) ?_
  show Zs G 1 Y_X5_countFreeSets (fnN G _) 0 [(0, rf G 23), (1, .int (nI p)), (2, .int (nI t))] [] μ
  refine z_iconst (v := nI 0) dX5_countFreeSets_0 (by decide) ?_
  refine z_istore_n (lv' := [(3, _), (0, _), (1, _), (2, _)]) dX5_countFreeSets_1 rfl (by decide) rfl ?_
  refine z_iconst (v := nI 0) dX5_countFreeSets_2 (by decide) ?_
  refine z_istore (lv' := [(4, _), (3, _), (0, _), (1, _), (2, _)]) dX5_countFreeSets_3 (by decide) rfl ?_
  refine z_sub (lv' := [(0, _), (1, _), (2, _), (3, _), (4, _)]) rfl ?_
  exact lp_X5_countFreeSets G h hpp htt (2 ^ m) 0 (by omega)
