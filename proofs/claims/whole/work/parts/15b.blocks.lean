theorem sb_nz {T S n : Nat} (h : sb T S = true) (hS : S < 2 ^ n) {k : Nat} (hk : T.testBit k = true) : k < n := by
  rcases Nat.lt_or_ge k n with q | q
  · exact q
  · have := sb_iff.mp h k hk
    rw [Nat.testBit_lt_two_pow (Nat.lt_of_lt_of_le hS (Nat.pow_le_pow_right (by decide) q))] at this
    cases this
/-- some part that is not empty sums to nothing -/
def hld (a b : Nat) (E : Nat → Nat) (S : Nat) : Bool := anyN (fun T => decide (T ≠ 0) && sb T S && decide (tot a b E T = 0)) (S + 1)
theorem hld_iff {a b S : Nat} {E : Nat → Nat} : hld a b E S = true ↔ ∃ T, T ≠ 0 ∧ sb T S = true ∧ tot a b E T = 0 := by
  unfold hld
  rw [anyN_true]
  constructor
  · rintro ⟨T, h1, h2⟩
    simp only [Bool.and_eq_true, decide_eq_true_eq] at h2
    exact ⟨T, h2.1.1, h2.1.2, h2.2⟩
  · rintro ⟨T, h1, h2, h3⟩
    exact ⟨T, by have := sb_le h2; omega, by simp only [Bool.and_eq_true, decide_eq_true_eq]; exact ⟨⟨h1, h2⟩, h3⟩⟩
theorem hld_0 (a b : Nat) (E : Nat → Nat) : hld a b E 0 = false := by
  cases h : hld a b E 0 with
  | false => rfl
  | true =>
    obtain ⟨T, h1, h2, -⟩ := hld_iff.mp h
    have := sb_le h2; omega
theorem hld_mono {a b S S' : Nat} {E : Nat → Nat} (h : hld a b E S = true) (hs : sb S S' = true) : hld a b E S' = true := by
  obtain ⟨T, h1, h2, h3⟩ := hld_iff.mp h
  exact hld_iff.mpr ⟨T, h1, sb_trans h2 hs, h3⟩
theorem sb_ne {T S : Nat} (h : sb T S = true) (hn : T ≠ S) : ∃ k, S.testBit k = true ∧ T.testBit k = false := by
  apply Classical.byContradiction
  intro q
  apply hn
  apply Nat.eq_of_testBit_eq
  intro k
  cases e : T.testBit k with
  | true => exact (sb_iff.mp h k e).symm
  | false =>
    cases e2 : S.testBit k with
    | false => rfl
    | true => exact absurd ⟨k, e2, e⟩ q
theorem sb_less {T S k : Nat} (h : sb T S = true) (hk : T.testBit k = false) : sb T (S ^^^ 2 ^ k) = true := sb_iff.mpr (fun j hj => by
  rw [tb_xor2, sb_iff.mp h j hj]
  by_cases e : k = j
  · subst e; rw [hk] at hj; cases hj
  · simp [e])
def hsub (a b : Nat) (E : Nat → Nat) (S : Nat) : Bool := anyN (fun k => S.testBit k && hld a b E (S ^^^ 2 ^ k)) 11
theorem hsub_iff {a b S n : Nat} {E : Nat → Nat} (hS : S < 2 ^ n) (hn : n ≤ 11) : hsub a b E S = true ↔ ∃ T, T ≠ 0 ∧ sb T S = true ∧ T ≠ S ∧ tot a b E T = 0 := by
  unfold hsub
  rw [anyN_true]
  constructor
  · rintro ⟨k, h1, h2⟩
    rw [Bool.and_eq_true] at h2
    obtain ⟨T, q1, q2, q3⟩ := hld_iff.mp h2.2
    refine ⟨T, q1, sb_trans q2 (sb_xor (sb_pow.mpr h2.1)), ?_, q3⟩
    rintro rfl
    have := sb_iff.mp q2 k h2.1
    rw [tb_xor2, h2.1] at this
    simp at this
  · rintro ⟨T, q1, q2, q3, q4⟩
    obtain ⟨k, h1, h2⟩ := sb_ne q2 q3
    have h3 := sb_nz (sb_rf S) hS h1
    refine ⟨k, by omega, ?_⟩
    rw [h1, Bool.true_and]
    exact hld_iff.mpr ⟨T, q1, sb_less q2 h2, q4⟩
theorem hld_rec {a b S n : Nat} {E : Nat → Nat} (hS : S < 2 ^ n) (hn : n ≤ 11) : hld a b E S = (hsub a b E S || (decide (S ≠ 0) && decide (tot a b E S = 0))) := by
  apply Bool.eq_iff_iff.mpr
  rw [Bool.or_eq_true, hsub_iff hS hn, hld_iff, Bool.and_eq_true, decide_eq_true_iff, decide_eq_true_iff]
  constructor
  · rintro ⟨T, h1, h2, h3⟩
    by_cases e : T = S
    · subst e; exact Or.inr ⟨h1, h3⟩
    · exact Or.inl ⟨T, h1, h2, e, h3⟩
  · rintro (⟨T, h1, h2, h3, h4⟩ | ⟨h1, h2⟩)
    · exact ⟨T, h1, h2, h4⟩
    · exact ⟨S, h1, sb_rf S, h2⟩
/-- a block -/
def blk (a b : Nat) (E : Nat → Nat) (S : Nat) : Bool := decide (S ≠ 0) && decide (tot a b E S = 0) && !hsub a b E S
theorem blk_iff {a b S n : Nat} {E : Nat → Nat} (hS : S < 2 ^ n) (hn : n ≤ 11) : blk a b E S = true ↔ S ≠ 0 ∧ tot a b E S = 0 ∧ ∀ T, T ≠ 0 → sb T S = true → tot a b E T = 0 → T = S := by
  unfold blk
  rw [Bool.and_eq_true, Bool.and_eq_true, decide_eq_true_iff, decide_eq_true_iff, Bool.not_eq_true']
  constructor
  · rintro ⟨⟨h1, h2⟩, h3⟩
    refine ⟨h1, h2, fun T q1 q2 q3 => ?_⟩
    apply Classical.byContradiction
    intro q4
    have := (hsub_iff (a := a) (b := b) (E := E) hS hn).mpr ⟨T, q1, q2, q4, q3⟩
    rw [h3] at this; cases this
  · rintro ⟨h1, h2, h3⟩
    refine ⟨⟨h1, h2⟩, ?_⟩
    cases e : hsub a b E S with
    | false => rfl
    | true =>
      obtain ⟨T, q1, q2, q3, q4⟩ := (hsub_iff hS hn).mp e
      exact absurd (h3 T q1 q2 q4) q3
theorem blk_ne {a b S : Nat} {E : Nat → Nat} (h : blk a b E S = true) : S ≠ 0 := by
  unfold blk at h
  simp only [Bool.and_eq_true, decide_eq_true_eq] at h
  exact h.1.1
theorem blk_tot {a b S : Nat} {E : Nat → Nat} (h : blk a b E S = true) : tot a b E S = 0 := by
  unfold blk at h
  simp only [Bool.and_eq_true, decide_eq_true_eq] at h
  exact h.1.2
def kindN (a b : Nat) (E : Nat → Nat) (S : Nat) : Nat := if hsub a b E S then 2 else if S ≠ 0 ∧ tot a b E S = 0 then 1 else 0
theorem kind_le (a b : Nat) (E : Nat → Nat) (S : Nat) : kindN a b E S ≤ 2 := by
  unfold kindN; split
  · omega
  · split <;> omega
theorem kind_blk {a b S : Nat} {E : Nat → Nat} : kindN a b E S = 1 ↔ blk a b E S = true := by
  unfold kindN blk
  cases hsub a b E S with
  | true => simp
  | false =>
    simp only [Bool.false_eq_true, if_false, Bool.not_false, Bool.and_true, Bool.and_eq_true, decide_eq_true_eq]
    by_cases h : S ≠ 0 ∧ tot a b E S = 0
    · rw [if_pos h]; exact ⟨fun _ => h, fun _ => rfl⟩
    · rw [if_neg h]; exact ⟨fun q => by omega, fun q => absurd q h⟩
theorem kind_hld {a b S n : Nat} {E : Nat → Nat} (hS : S < 2 ^ n) (hn : n ≤ 11) : kindN a b E S = 0 ↔ hld a b E S = false := by
  rw [hld_rec hS hn]
  unfold kindN
  cases hsub a b E S with
  | true => simp
  | false =>
    simp only [Bool.false_eq_true, if_false, Bool.false_or]
    by_cases h : S ≠ 0 ∧ tot a b E S = 0
    · rw [if_pos h]; simp [h.1, h.2]
    · rw [if_neg h]
      refine ⟨fun _ => ?_, fun _ => rfl⟩
      cases e : (decide (S ≠ 0) && decide (tot a b E S = 0)) with
      | false => rfl
      | true =>
        simp only [Bool.and_eq_true, decide_eq_true_eq] at e
        exact absurd e h
theorem kind_0 (a b : Nat) (E : Nat → Nat) : kindN a b E 0 = 0 := (kind_hld (n := 0) (by decide) (by decide)).mpr (hld_0 a b E)
/-- what depends on the first n places alone -/
theorem tot_cg {a b n S : Nat} {E E' : Nat → Nat} (h : ∀ k, k < n → E k = E' k) (hS : S < 2 ^ n) : tot a b E S = tot a b E' S := tot_congr (fun j hj => h j (sb_nz (sb_rf S) hS hj))
theorem anyN_congr {f g : Nat → Bool} : ∀ n, (∀ k, k < n → f k = g k) → anyN f n = anyN g n := by
  intro n
  induction n with
  | zero => intro _; rfl
  | succ n ih =>
    intro h
    unfold anyN
    rw [ih (fun k hk => h k (by omega)), h n (by omega)]
theorem hld_cg {a b n S : Nat} {E E' : Nat → Nat} (h : ∀ k, k < n → E k = E' k) (hS : S < 2 ^ n) : hld a b E S = hld a b E' S := by
  unfold hld
  refine anyN_congr _ (fun T hT => ?_)
  rw [tot_cg h (show T < 2 ^ n by omega)]
theorem xor_lt2 {n S k : Nat} (hS : S < 2 ^ n) (hk : S.testBit k = true) : S ^^^ 2 ^ k < 2 ^ n := Nat.lt_trans (xor_lt (sb_pow.mpr hk) (pow_ne0 k)) hS
theorem hsub_cg {a b n S : Nat} {E E' : Nat → Nat} (h : ∀ k, k < n → E k = E' k) (hS : S < 2 ^ n) : hsub a b E S = hsub a b E' S := by
  unfold hsub
  refine anyN_congr _ (fun k hk => ?_)
  cases e : S.testBit k with
  | false => rfl
  | true => rw [hld_cg h (xor_lt2 hS e)]
theorem blk_cg {a b n S : Nat} {E E' : Nat → Nat} (h : ∀ k, k < n → E k = E' k) (hS : S < 2 ^ n) : blk a b E S = blk a b E' S := by
  unfold blk
  rw [tot_cg h hS, hsub_cg h hS]
theorem kind_cg {a b n S : Nat} {E E' : Nat → Nat} (h : ∀ k, k < n → E k = E' k) (hS : S < 2 ^ n) : kindN a b E S = kindN a b E' S := by
  unfold kindN
  rw [tot_cg h hS, hsub_cg h hS]
/-- splits: by the block that has the lowest place -/
def lowN (S : Nat) : Nat := S ^^^ (S &&& (S - 1))
def cB (a b : Nat) (E : Nat → Nat) (S B : Nat) : Bool := blk a b E B && decide (B &&& lowN S ≠ 0) && sb B S
def lenF (a b : Nat) (E : Nat → Nat) : Nat → Nat → Nat
  | 0, S => if S = 0 then 1 else 0
  | f + 1, S => if S = 0 then 1 else accO (cB a b E S) (fun B => lenF a b E f (S ^^^ B) * 2) (S + 1)
def splF (a b : Nat) (E : Nat → Nat) : Nat → Nat → Nat
  | 0, S => if S = 0 then 1 else 0
  | f + 1, S => if S = 0 then 1 else accS (cB a b E S) (fun B => splF a b E f (S ^^^ B)) (S + 1)
def lenN (a b : Nat) (E : Nat → Nat) (S : Nat) : Nat := lenF a b E S S
def splN (a b : Nat) (E : Nat → Nat) (S : Nat) : Nat := splF a b E S S
theorem cB_blk {a b S B : Nat} {E : Nat → Nat} (h : cB a b E S B = true) : blk a b E B = true := by
  unfold cB at h; rw [Bool.and_eq_true, Bool.and_eq_true] at h; exact h.1.1
theorem cB_sb {a b S B : Nat} {E : Nat → Nat} (h : cB a b E S B = true) : sb B S = true := by
  unfold cB at h; rw [Bool.and_eq_true, Bool.and_eq_true] at h; exact h.2
theorem cB_lt {a b S B : Nat} {E : Nat → Nat} (h : cB a b E S B = true) : S ^^^ B < S := xor_lt (cB_sb h) (blk_ne (cB_blk h))
theorem lenF_eq {a b : Nat} {E : Nat → Nat} : ∀ (f g S : Nat), S ≤ f → S ≤ g → lenF a b E f S = lenF a b E g S := by
  intro f
  induction f with
  | zero =>
    intro g S h1 h2
    rw [show S = 0 by omega]
    cases g <;> rfl
  | succ f ih =>
    intro g S h1 h2
    cases g with
    | zero => rw [show S = 0 by omega]; rfl
    | succ g =>
      unfold lenF
      by_cases e : S = 0
      · rw [if_pos e, if_pos e]
      · rw [if_neg e, if_neg e]
        refine accO_congr (fun B hB hc => ?_)
        have := cB_lt hc
        rw [ih g (S ^^^ B) (by omega) (by omega)]
theorem splF_eq {a b : Nat} {E : Nat → Nat} : ∀ (f g S : Nat), S ≤ f → S ≤ g → splF a b E f S = splF a b E g S := by
  intro f
  induction f with
  | zero =>
    intro g S h1 h2
    rw [show S = 0 by omega]
    cases g <;> rfl
  | succ f ih =>
    intro g S h1 h2
    cases g with
    | zero => rw [show S = 0 by omega]; rfl
    | succ g =>
      unfold splF
      by_cases e : S = 0
      · rw [if_pos e, if_pos e]
      · rw [if_neg e, if_neg e]
        refine accS_congr (fun B hB hc => ?_)
        have := cB_lt hc
        rw [ih g (S ^^^ B) (by omega) (by omega)]
theorem len_0 (a b : Nat) (E : Nat → Nat) : lenN a b E 0 = 1 := rfl
theorem spl_0 (a b : Nat) (E : Nat → Nat) : splN a b E 0 = 1 := rfl
theorem len_rec {a b S : Nat} {E : Nat → Nat} (h : S ≠ 0) : lenN a b E S = accO (cB a b E S) (fun B => lenN a b E (S ^^^ B) * 2) (S + 1) := by
  unfold lenN
  obtain ⟨f, rfl⟩ : ∃ f, S = f + 1 := ⟨S - 1, by omega⟩
  have e : lenF a b E (f + 1) (f + 1) = if f + 1 = 0 then 1 else accO (cB a b E (f + 1)) (fun B => lenF a b E f ((f + 1) ^^^ B) * 2) (f + 1 + 1) := rfl
  rw [e, if_neg h]
  refine accO_congr (fun B hB hc => ?_)
  have := cB_lt hc
  show lenF a b E f _ * 2 = lenF a b E _ _ * 2
  rw [lenF_eq f ((f + 1) ^^^ B) ((f + 1) ^^^ B) (by omega) (Nat.le_refl _)]
theorem spl_rec {a b S : Nat} {E : Nat → Nat} (h : S ≠ 0) : splN a b E S = accS (cB a b E S) (fun B => splN a b E (S ^^^ B)) (S + 1) := by
  unfold splN
  obtain ⟨f, rfl⟩ : ∃ f, S = f + 1 := ⟨S - 1, by omega⟩
  have e : splF a b E (f + 1) (f + 1) = if f + 1 = 0 then 1 else accS (cB a b E (f + 1)) (fun B => splF a b E f ((f + 1) ^^^ B)) (f + 1 + 1) := rfl
  rw [e, if_neg h]
  refine accS_congr (fun B hB hc => ?_)
  have := cB_lt hc
  show splF a b E f _ = splF a b E _ _
  rw [splF_eq f ((f + 1) ^^^ B) ((f + 1) ^^^ B) (by omega) (Nat.le_refl _)]
theorem cB_cg {a b n S B : Nat} {E E' : Nat → Nat} (h : ∀ k, k < n → E k = E' k) (hB : B < 2 ^ n) : cB a b E S B = cB a b E' S B := by
  unfold cB; rw [blk_cg h hB]
theorem len_cg {a b n : Nat} {E E' : Nat → Nat} (h : ∀ k, k < n → E k = E' k) : ∀ (f S : Nat), S < f → S < 2 ^ n → lenN a b E S = lenN a b E' S := by
  intro f
  induction f with
  | zero => intro S h1; omega
  | succ f ih =>
    intro S h1 h2
    by_cases e : S = 0
    · subst e; rfl
    · rw [len_rec e, len_rec e, accO_cc (fun B hB => cB_cg h (show B < 2 ^ n by omega))]
      refine accO_congr (fun B hB hc => ?_)
      have := cB_lt hc
      rw [ih _ (by omega) (by omega)]
theorem spl_cg {a b n : Nat} {E E' : Nat → Nat} (h : ∀ k, k < n → E k = E' k) : ∀ (f S : Nat), S < f → S < 2 ^ n → splN a b E S = splN a b E' S := by
  intro f
  induction f with
  | zero => intro S h1; omega
  | succ f ih =>
    intro S h1 h2
    by_cases e : S = 0
    · subst e; rfl
    · rw [spl_rec e, spl_rec e, accS_cc (fun B hB => cB_cg h (show B < 2 ^ n by omega))]
      refine accS_congr (fun B hB hc => ?_)
      have := cB_lt hc
      rw [ih _ (by omega) (by omega)]
/-- a set that does not sum to nothing has no split -/
theorem len_zero {a b n : Nat} {E : Nat → Nat} (ha : 1 ≤ a) (hb : 1 ≤ b) (hE : okE a b E n) : ∀ (f S : Nat), S < f → S < 2 ^ n → tot a b E S ≠ 0 → lenN a b E S = 0 ∧ splN a b E S = 0 := by
  intro f
  induction f with
  | zero => intro S h1; omega
  | succ f ih =>
    intro S h1 h2 h3
    have e : S ≠ 0 := by rintro rfl; exact h3 (tot_0 a b E)
    have key : ∀ B, B < S + 1 → cB a b E S B = true → lenN a b E (S ^^^ B) = 0 ∧ splN a b E (S ^^^ B) = 0 := by
      intro B hB hc
      have hl := cB_lt hc
      refine ih _ (by omega) (by omega) (fun q => h3 ?_)
      rw [tot_part ha hb hE h2 (cB_sb hc), blk_tot (cB_blk hc), q, plN_zero ha (ab_pos ha hb)]
    rw [len_rec e, spl_rec e]
    exact ⟨accO_zero (fun B hB hc => by rw [(key B hB hc).1]), accS_zero (fun B hB hc => (key B hB hc).2)⟩
theorem pc_part {S B : Nat} (h : sb B S = true) : pcN (S ^^^ B) + pcN B = pcN S := by
  unfold pcN
  have key : ∀ k, cntN (S ^^^ B).testBit k + cntN B.testBit k = cntN S.testBit k := by
    intro k
    induction k with
    | zero => rfl
    | succ k ih =>
      rw [cntN_succ, cntN_succ, cntN_succ, Nat.testBit_xor]
      cases e : B.testBit k with
      | true => rw [sb_iff.mp h k e]; simp; omega
      | false => simp; split <;> omega
  exact key 11
theorem pc_pos {B : Nat} (h0 : B ≠ 0) (h : B < 2 ^ 11) : 1 ≤ pcN B := by
  apply Classical.byContradiction
  intro q
  have h1 : cntN B.testBit 0 = cntN B.testBit 11 := by show 0 = pcN B; omega
  have h2 := cntN_none (f := B.testBit) (s := 0) (N := 11) (by omega) h1
  apply h0
  apply Nat.eq_of_testBit_eq
  intro k
  rw [Nat.zero_testBit]
  by_cases hk : k < 11
  · exact h2 k (by omega) hk
  · exact Nat.testBit_lt_two_pow (Nat.lt_of_lt_of_le h (Nat.pow_le_pow_right (by decide) (by omega)))
theorem len_lt {a b n : Nat} {E : Nat → Nat} (hn : n ≤ 11) : ∀ (f S : Nat), S < f → S < 2 ^ n → lenN a b E S < 2 ^ (pcN S + 1) := by
  intro f
  induction f with
  | zero => intro S h1; omega
  | succ f ih =>
    intro S h1 h2
    by_cases e : S = 0
    · subst e; rw [len_0]; exact Nat.one_lt_two_pow (by omega)
    · rw [len_rec e]
      refine accO_lt (fun B hB hc => ?_)
      have hl := cB_lt hc
      have h3 := ih (S ^^^ B) (by omega) (by omega)
      have h4 := pc_part (cB_sb hc)
      have h6 : 2 ^ n ≤ 2 ^ 11 := Nat.pow_le_pow_right (by decide) hn
      have h5 := pc_pos (blk_ne (cB_blk hc)) (by omega)
      have h7 : 2 ^ (pcN (S ^^^ B) + 1) ≤ 2 ^ pcN S := Nat.pow_le_pow_right (by decide) (by omega)
      rw [Nat.pow_succ]
      omega
theorem pc_le {S n : Nat} (h : S < 2 ^ n) (hn : n ≤ 11) : pcN S ≤ n := by
  unfold pcN
  rw [cntN_flat (f := S.testBit) (s := n) hn (fun j h1 h2 => Nat.testBit_lt_two_pow (Nat.lt_of_lt_of_le h (Nat.pow_le_pow_right (by decide) h1)))]
  exact cntN_le _ _
theorem len_lt2 {a b n S : Nat} {E : Nat → Nat} (hn : n ≤ 10) (hS : S < 2 ^ n) : lenN a b E S < 2048 := by
  have h := len_lt (a := a) (b := b) (E := E) (show n ≤ 11 by omega) (S + 1) S (by omega) hS
  have h2 := pc_le hS (by omega)
  have h3 : 2 ^ (pcN S + 1) ≤ 2 ^ 11 := Nat.pow_le_pow_right (by decide) (by omega)
  omega
theorem low_all : ((List.range 2048).all fun S => decide (S = 0) || anyN (fun j => decide (lowN S = 2 ^ j) && S.testBit j) 11) = true := by decide +kernel
theorem low_bit {S : Nat} (h0 : S ≠ 0) (h : S < 2048) : ∃ j, j < 11 ∧ lowN S = 2 ^ j ∧ S.testBit j = true := by
  have h1 := List.all_eq_true.mp low_all S (List.mem_range.mpr h)
  rw [decide_eq_false h0, Bool.false_or] at h1
  obtain ⟨j, h2, h3⟩ := anyN_true.mp h1
  rw [Bool.and_eq_true, decide_eq_true_iff] at h3
  exact ⟨j, h2, h3.1, h3.2⟩
theorem and_pow {B j : Nat} : B &&& 2 ^ j ≠ 0 ↔ B.testBit j = true := by
  constructor
  · intro h
    apply Classical.byContradiction
    intro q
    apply h
    apply Nat.eq_of_testBit_eq
    intro k
    rw [Nat.testBit_and, Nat.testBit_two_pow, Nat.zero_testBit]
    by_cases e : j = k
    · subst e; simp only [Bool.not_eq_true] at q; rw [q]; rfl
    · simp [e]
  · intro h q
    have h1 : (B &&& 2 ^ j).testBit j = true := by rw [Nat.testBit_and, h, Nat.testBit_two_pow]; simp
    rw [q, Nat.zero_testBit] at h1
    cases h1
/-- in a set that sums to nothing there is a block at its lowest place -/
theorem blk_at {a b n : Nat} {E : Nat → Nat} (ha : 1 ≤ a) (hb : 1 ≤ b) (hE : okE a b E n) (hn : n ≤ 11) {j : Nat} : ∀ (f S : Nat), S < f → S < 2 ^ n → S.testBit j = true → tot a b E S = 0 → ∃ B, blk a b E B = true ∧ B.testBit j = true ∧ sb B S = true := by
  intro f
  induction f with
  | zero => intro S h1; omega
  | succ f ih =>
    intro S h1 h2 h3 h4
    have h0 : S ≠ 0 := by rintro rfl; rw [Nat.zero_testBit] at h3; cases h3
    by_cases hB : blk a b E S = true
    · exact ⟨S, hB, h3, sb_rf S⟩
    · have h5 : hsub a b E S = true := by
        cases e : hsub a b E S with
        | true => rfl
        | false => exact absurd (by unfold blk; rw [e, decide_eq_true h0, decide_eq_true h4]; rfl) hB
      obtain ⟨T, q1, q2, q3, q4⟩ := (hsub_iff h2 hn).mp h5
      have hl := xor_lt q2 q1
      have hT := sb_le q2
      by_cases e : T.testBit j = true
      · obtain ⟨B, r1, r2, r3⟩ := ih T (by omega) (by omega) e q4
        exact ⟨B, r1, r2, sb_trans r3 q2⟩
      · simp only [Bool.not_eq_true] at e
        have h6 := tot_part ha hb hE h2 q2
        rw [h4, q4, plN_zero' ha (tot_lt ha hb _ _)] at h6
        obtain ⟨B, r1, r2, r3⟩ := ih (S ^^^ T) (by omega) (by omega) (by rw [Nat.testBit_xor, h3, e]; rfl) h6.symm
        exact ⟨B, r1, r2, sb_trans r3 (sb_xor q2)⟩
theorem len_pos {a b n : Nat} {E : Nat → Nat} (ha : 1 ≤ a) (hb : 1 ≤ b) (hE : okE a b E n) (hn : n ≤ 11) : ∀ (f S : Nat), S < f → S < 2 ^ n → tot a b E S = 0 → lenN a b E S ≠ 0 := by
  intro f
  induction f with
  | zero => intro S h1; omega
  | succ f ih =>
    intro S h1 h2 h3
    by_cases e : S = 0
    · subst e; rw [len_0]; decide
    · have h6 : 2 ^ n ≤ 2 ^ 11 := Nat.pow_le_pow_right (by decide) hn
      obtain ⟨j, q1, q2, q3⟩ := low_bit e (by omega)
      obtain ⟨B, r1, r2, r3⟩ := blk_at ha hb hE hn (S + 1) S (by omega) h2 q3 h3
      have hc : cB a b E S B = true := by
        unfold cB
        rw [r1, r3, q2, decide_eq_true (and_pow.mpr r2)]; rfl
      have h7 := tot_part ha hb hE h2 r3
      rw [h3, blk_tot r1, plN_zero' ha (tot_lt ha hb _ _)] at h7
      have hl := cB_lt hc
      have h8 := ih (S ^^^ B) (by omega) (by omega) h7.symm
      obtain ⟨i, hi⟩ : ∃ i, (lenN a b E (S ^^^ B) * 2).testBit i = true := by
        apply Classical.byContradiction
        intro q
        have : lenN a b E (S ^^^ B) * 2 = 0 := by
          apply Nat.eq_of_testBit_eq
          intro i
          rw [Nat.zero_testBit]
          cases e2 : (lenN a b E (S ^^^ B) * 2).testBit i with
          | false => rfl
          | true => exact absurd ⟨i, e2⟩ q
        omega
      intro q
      have h9 : (lenN a b E S).testBit i = true := by
        rw [len_rec e]
        exact accO_tb.mpr ⟨B, by have := sb_le r3; omega, hc, hi⟩
      rw [q, Nat.zero_testBit] at h9
      cases h9
