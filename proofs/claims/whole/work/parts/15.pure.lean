/-- is there one below k; or-ed and summed over those below k that a test picks; the least and the greatest size -/
def anyN (f : Nat → Bool) : Nat → Bool
  | 0 => false
  | k + 1 => anyN f k || f k
def accO (c : Nat → Bool) (g : Nat → Nat) : Nat → Nat
  | 0 => 0
  | k + 1 => if c k then accO c g k ||| g k else accO c g k
def accS (c : Nat → Bool) (g : Nat → Nat) : Nat → Nat
  | 0 => 0
  | k + 1 => if c k then accS c g k + g k else accS c g k
theorem anyN_true {f : Nat → Bool} : ∀ {k : Nat}, anyN f k = true ↔ ∃ j, j < k ∧ f j = true := by
  intro k
  induction k with
  | zero => simp [anyN]
  | succ k ih =>
    unfold anyN
    rw [Bool.or_eq_true, ih]
    constructor
    · rintro (⟨j, h1, h2⟩ | h)
      · exact ⟨j, by omega, h2⟩
      · exact ⟨k, by omega, h⟩
    · rintro ⟨j, h1, h2⟩
      by_cases hj : j = k
      · subst hj; exact Or.inr h2
      · exact Or.inl ⟨j, by omega, h2⟩
theorem cntN_flat {f : Nat → Bool} {s : Nat} : ∀ {t : Nat}, s ≤ t → (∀ j, s ≤ j → j < t → f j = false) → cntN f t = cntN f s := by
  intro t
  induction t with
  | zero => intro h _; rw [show s = 0 by omega]
  | succ t ih =>
    intro h hf
    by_cases e : s = t + 1
    · rw [e]
    · have e1 : cntN f (t + 1) = if f t then cntN f t + 1 else cntN f t := rfl
      rw [e1, hf t (by omega) (by omega), ih (by omega) (fun j h1 h2 => hf j h1 (by omega))]; rfl
theorem accO_flat {c : Nat → Bool} {g : Nat → Nat} {s : Nat} : ∀ {t : Nat}, s ≤ t → (∀ j, s ≤ j → j < t → c j = false) → accO c g t = accO c g s := by
  intro t
  induction t with
  | zero => intro h _; rw [show s = 0 by omega]
  | succ t ih =>
    intro h hf
    by_cases e : s = t + 1
    · rw [e]
    · have e1 : accO c g (t + 1) = if c t then accO c g t ||| g t else accO c g t := rfl
      rw [e1, hf t (by omega) (by omega), ih (by omega) (fun j h1 h2 => hf j h1 (by omega))]; rfl
theorem accS_flat {c : Nat → Bool} {g : Nat → Nat} {s : Nat} : ∀ {t : Nat}, s ≤ t → (∀ j, s ≤ j → j < t → c j = false) → accS c g t = accS c g s := by
  intro t
  induction t with
  | zero => intro h _; rw [show s = 0 by omega]
  | succ t ih =>
    intro h hf
    by_cases e : s = t + 1
    · rw [e]
    · have e1 : accS c g (t + 1) = if c t then accS c g t + g t else accS c g t := rfl
      rw [e1, hf t (by omega) (by omega), ih (by omega) (fun j h1 h2 => hf j h1 (by omega))]; rfl
theorem accO_congr {c : Nat → Bool} {g g' : Nat → Nat} : ∀ {k : Nat}, (∀ j, j < k → c j = true → g j = g' j) → accO c g k = accO c g' k := by
  intro k
  induction k with
  | zero => intro _; rfl
  | succ k ih =>
    intro h
    unfold accO
    rw [ih (fun j h1 h2 => h j (by omega) h2)]
    by_cases e : c k = true
    · rw [if_pos e, if_pos e, h k (by omega) e]
    · rw [if_neg e, if_neg e]
theorem accS_congr {c : Nat → Bool} {g g' : Nat → Nat} : ∀ {k : Nat}, (∀ j, j < k → c j = true → g j = g' j) → accS c g k = accS c g' k := by
  intro k
  induction k with
  | zero => intro _; rfl
  | succ k ih =>
    intro h
    unfold accS
    rw [ih (fun j h1 h2 => h j (by omega) h2)]
    by_cases e : c k = true
    · rw [if_pos e, if_pos e, h k (by omega) e]
    · rw [if_neg e, if_neg e]
theorem accO_cc {c c' : Nat → Bool} {g : Nat → Nat} : ∀ {k : Nat}, (∀ j, j < k → c j = c' j) → accO c g k = accO c' g k := by
  intro k
  induction k with
  | zero => intro _; rfl
  | succ k ih =>
    intro h
    unfold accO
    rw [ih (fun j h1 => h j (by omega)), h k (by omega)]
theorem accS_cc {c c' : Nat → Bool} {g : Nat → Nat} : ∀ {k : Nat}, (∀ j, j < k → c j = c' j) → accS c g k = accS c' g k := by
  intro k
  induction k with
  | zero => intro _; rfl
  | succ k ih =>
    intro h
    unfold accS
    rw [ih (fun j h1 => h j (by omega)), h k (by omega)]
theorem accO_zero {c : Nat → Bool} {g : Nat → Nat} : ∀ {k : Nat}, (∀ j, j < k → c j = true → g j = 0) → accO c g k = 0 := by
  intro k
  induction k with
  | zero => intro _; rfl
  | succ k ih =>
    intro h
    unfold accO
    rw [ih (fun j h1 h2 => h j (by omega) h2)]
    by_cases e : c k = true
    · rw [if_pos e, h k (by omega) e]; rfl
    · rw [if_neg e]
theorem accS_zero {c : Nat → Bool} {g : Nat → Nat} : ∀ {k : Nat}, (∀ j, j < k → c j = true → g j = 0) → accS c g k = 0 := by
  intro k
  induction k with
  | zero => intro _; rfl
  | succ k ih =>
    intro h
    unfold accS
    rw [ih (fun j h1 h2 => h j (by omega) h2)]
    by_cases e : c k = true
    · rw [if_pos e, h k (by omega) e]
    · rw [if_neg e]
theorem accO_lt {c : Nat → Bool} {g : Nat → Nat} {n : Nat} : ∀ {k : Nat}, (∀ j, j < k → c j = true → g j < 2 ^ n) → accO c g k < 2 ^ n := by
  intro k
  induction k with
  | zero => intro _; exact Nat.pos_of_ne_zero (by simp)
  | succ k ih =>
    intro h
    unfold accO
    have h1 := ih (fun j h1 h2 => h j (by omega) h2)
    by_cases e : c k = true
    · rw [if_pos e]; exact Nat.or_lt_two_pow h1 (h k (by omega) e)
    · rw [if_neg e]; exact h1
theorem accO_tb {c : Nat → Bool} {g : Nat → Nat} {i : Nat} : ∀ {k : Nat}, (accO c g k).testBit i = true ↔ ∃ j, j < k ∧ c j = true ∧ (g j).testBit i = true := by
  intro k
  induction k with
  | zero => simp [accO]
  | succ k ih =>
    unfold accO
    by_cases e : c k = true
    · rw [if_pos e, Nat.testBit_or, Bool.or_eq_true, ih]
      constructor
      · rintro (⟨j, h1, h2⟩ | h)
        · exact ⟨j, by omega, h2⟩
        · exact ⟨k, by omega, e, h⟩
      · rintro ⟨j, h1, h2, h3⟩
        by_cases hj : j = k
        · subst hj; exact Or.inr h3
        · exact Or.inl ⟨j, by omega, h2, h3⟩
    · rw [if_neg e, ih]
      constructor
      · rintro ⟨j, h1, h2⟩; exact ⟨j, by omega, h2⟩
      · rintro ⟨j, h1, h2, h3⟩
        by_cases hj : j = k
        · subst hj; exact absurd h2 e
        · exact ⟨j, by omega, h2, h3⟩
theorem cntN_mono (f : Nat → Bool) {s t : Nat} (h : s ≤ t) : cntN f s ≤ cntN f t := by
  obtain ⟨d, rfl⟩ := Nat.le.dest h
  rw [cntN_add]; omega
theorem cntN_succ (f : Nat → Bool) (k : Nat) : cntN f (k + 1) = if f k then cntN f k + 1 else cntN f k := rfl
/-- the next one behind s -/
theorem cntN_next {f : Nat → Bool} {s : Nat} : ∀ {N : Nat}, s ≤ N → cntN f s < cntN f N → ∃ S, s ≤ S ∧ S < N ∧ f S = true ∧ cntN f S = cntN f s ∧ ∀ j, s ≤ j → j < S → f j = false := by
  intro N
  induction N with
  | zero => intro h1 h2; rw [show s = 0 by omega] at h2; omega
  | succ N ih =>
    intro h1 h2
    by_cases e : s = N + 1
    · subst e; omega
    · by_cases h3 : cntN f s < cntN f N
      · obtain ⟨S, q1, q2, q3⟩ := ih (by omega) h3
        exact ⟨S, q1, by omega, q3⟩
      · have h4 := cntN_mono f (show s ≤ N by omega)
        rw [cntN_succ] at h2
        by_cases h5 : f N = true
        · refine ⟨N, by omega, by omega, h5, by omega, fun j q1 q2 => ?_⟩
          cases h6 : f j with
          | false => rfl
          | true =>
            have h7 := cntN_mono f (show j + 1 ≤ N by omega)
            have h8 := cntN_mono f q1
            rw [cntN_succ, if_pos h6] at h7
            omega
        · rw [if_neg h5] at h2; omega
theorem cntN_none {f : Nat → Bool} {s N : Nat} (h1 : s ≤ N) (h2 : cntN f s = cntN f N) : ∀ j, s ≤ j → j < N → f j = false := by
  intro j q1 q2
  cases h6 : f j with
  | false => rfl
  | true =>
    have h7 := cntN_mono f (show j + 1 ≤ N by omega)
    have h8 := cntN_mono f q1
    rw [cntN_succ, if_pos h6] at h7
    omega
/-- the group: nothing, in any order, one after the other -/
theorem plN_mod {a b x y : Nat} (ha : 1 ≤ a) : plN a b x y % a = (x + y) % a := by
  unfold plN
  rw [Nat.mul_add_mod, Nat.mod_mod]
theorem plN_div {a b x y : Nat} (ha : 1 ≤ a) : plN a b x y / a = (x / a + y / a) % b := by
  unfold plN
  rw [Nat.mul_add_div ha, Nat.div_eq_of_lt (Nat.mod_lt _ ha), Nat.add_zero]
theorem plN_comm (a b x y : Nat) : plN a b x y = plN a b y x := by
  unfold plN
  rw [Nat.add_comm (x / a), Nat.add_comm x]
theorem plN_assoc {a b x y z : Nat} (ha : 1 ≤ a) : plN a b (plN a b x y) z = plN a b x (plN a b y z) := by
  have e1 : plN a b (plN a b x y) z = a * ((plN a b x y / a + z / a) % b) + (plN a b x y + z) % a := rfl
  have e2 : plN a b x (plN a b y z) = a * ((x / a + plN a b y z / a) % b) + (x + plN a b y z) % a := rfl
  rw [e1, e2, plN_div ha, plN_div ha, Nat.mod_add_mod, Nat.add_mod_mod, Nat.add_assoc]
  congr 1
  rw [Nat.add_mod (plN a b x y) z a, plN_mod ha, ← Nat.add_mod, Nat.add_mod x (plN a b y z) a, plN_mod ha, ← Nat.add_mod, Nat.add_assoc]
theorem plN_zero {a b x : Nat} (ha : 1 ≤ a) (hx : x < a * b) : plN a b x 0 = x := by
  unfold plN
  have h1 : x / a < b := (Nat.div_lt_iff_lt_mul ha).mpr (by rw [Nat.mul_comm]; exact hx)
  rw [Nat.zero_div, Nat.add_zero, Nat.add_zero, Nat.mod_eq_of_lt h1, Nat.div_add_mod]
theorem plN_zero' {a b x : Nat} (ha : 1 ≤ a) (hx : x < a * b) : plN a b 0 x = x := by rw [plN_comm]; exact plN_zero ha hx
theorem plN_op {a b x : Nat} (ha : 1 ≤ a) (hb : 1 ≤ b) (hx : x < a * b) : plN a b x (opN a b x) = 0 := by
  have h1 : x / a < b := (Nat.div_lt_iff_lt_mul ha).mpr (by rw [Nat.mul_comm]; exact hx)
  have h2 : x % a < a := Nat.mod_lt _ ha
  have e1 : opN a b x / a = (b - x / a) % b := by
    unfold opN
    rw [Nat.mul_add_div ha, Nat.div_eq_of_lt (Nat.mod_lt _ ha), Nat.add_zero]
  have e2 : opN a b x % a = (a - x % a) % a := by
    unfold opN
    rw [Nat.mul_add_mod, Nat.mod_mod]
  unfold plN
  rw [e1, Nat.add_mod_mod, show x / a + (b - x / a) = b by omega, Nat.mod_self, Nat.add_mod, e2, Nat.add_mod_mod, show x % a + (a - x % a) = a by omega, Nat.mod_self, Nat.mul_zero]
theorem plN_cancel {a b x y z : Nat} (ha : 1 ≤ a) (hb : 1 ≤ b) (hx : x < a * b) (hy : y < a * b) (hz : z < a * b) (h : plN a b x y = plN a b x z) : y = z := by
  have h1 : plN a b (opN a b x) (plN a b x y) = plN a b (opN a b x) (plN a b x z) := by rw [h]
  rw [← plN_assoc ha, ← plN_assoc ha, plN_comm a b (opN a b x) x, plN_op ha hb hx, plN_zero' ha hy, plN_zero' ha hz] at h1
  exact h1
theorem plN_0_iff {a b x y : Nat} (ha : 1 ≤ a) (hb : 1 ≤ b) (hx : x < a * b) (hy : y < a * b) : plN a b x y = 0 ↔ y = opN a b x := by
  constructor
  · intro h
    exact plN_cancel ha hb hx hy (opN_lt ha hb x) (by rw [h, plN_op ha hb hx])
  · rintro rfl; exact plN_op ha hb hx
/-- the sum of a set of places -/
def totL (a b : Nat) (E : Nat → Nat) (S : Nat) : Nat → Nat
  | 0 => 0
  | k + 1 => if S.testBit k then plN a b (totL a b E S k) (E k) else totL a b E S k
def tot (a b : Nat) (E : Nat → Nat) (S : Nat) : Nat := totL a b E S 11
theorem totL_lt {a b : Nat} (ha : 1 ≤ a) (hb : 1 ≤ b) (E : Nat → Nat) (S k : Nat) : totL a b E S k < a * b := by
  induction k with
  | zero => exact ab_pos ha hb
  | succ k ih =>
    unfold totL
    by_cases h : S.testBit k = true
    · rw [if_pos h]; exact plN_lt ha hb _ _
    · rw [if_neg h]; exact ih
theorem tot_lt {a b : Nat} (ha : 1 ≤ a) (hb : 1 ≤ b) (E : Nat → Nat) (S : Nat) : tot a b E S < a * b := totL_lt ha hb E S 11
theorem totL_congr {a b : Nat} {E E' : Nat → Nat} {S S' : Nat} : ∀ {k : Nat}, (∀ j, j < k → S.testBit j = S'.testBit j ∧ (S.testBit j = true → E j = E' j)) → totL a b E S k = totL a b E' S' k := by
  intro k
  induction k with
  | zero => intro _; rfl
  | succ k ih =>
    intro h
    unfold totL
    rw [ih (fun j hj => h j (by omega)), (h k (by omega)).1]
    by_cases e : S'.testBit k = true
    · rw [if_pos e, if_pos e, (h k (by omega)).2 (by rw [(h k (by omega)).1]; exact e)]
    · rw [if_neg e, if_neg e]
theorem totL_flat {a b : Nat} {E : Nat → Nat} {S p : Nat} (hS : S < 2 ^ p) : ∀ k, p ≤ k → totL a b E S k = totL a b E S p := by
  intro k
  induction k with
  | zero => intro h; rw [show p = 0 by omega]
  | succ k ih =>
    intro h
    by_cases e : p = k + 1
    · rw [e]
    · have e1 : totL a b E S (k + 1) = if S.testBit k then plN a b (totL a b E S k) (E k) else totL a b E S k := rfl
      rw [e1, Nat.testBit_lt_two_pow (Nat.lt_of_lt_of_le hS (Nat.pow_le_pow_right (by decide) (show p ≤ k by omega)))]
      exact ih (by omega)
theorem tot_congr {a b : Nat} {E E' : Nat → Nat} {S : Nat} (h : ∀ j, S.testBit j = true → E j = E' j) : tot a b E S = tot a b E' S := totL_congr (fun j _ => ⟨rfl, h j⟩)
theorem tot_0 (a b : Nat) (E : Nat → Nat) : tot a b E 0 = 0 := by
  unfold tot
  rw [totL_flat (p := 0) (by decide) 11 (by decide)]
  rfl
theorem tb_top {S p : Nat} (h1 : 2 ^ p ≤ S) (h2 : S < 2 ^ (p + 1)) : S.testBit p = true := by
  have e : S / 2 ^ p = 1 := by
    apply Nat.le_antisymm
    · apply Nat.le_of_lt_succ
      rw [Nat.div_lt_iff_lt_mul (Nat.pos_of_ne_zero (by simp))]
      rw [Nat.pow_succ] at h2; omega
    · rw [Nat.le_div_iff_mul_le (Nat.pos_of_ne_zero (by simp))]; omega
  rw [Nat.testBit_eq_decide_div_mod_eq, e]; rfl
theorem tb_xor2 (S k j : Nat) : (S ^^^ 2 ^ k).testBit j = (S.testBit j ^^ decide (k = j)) := by
  rw [Nat.testBit_xor, Nat.testBit_two_pow]
theorem xor_top_lt {S p : Nat} (h1 : 2 ^ p ≤ S) (h2 : S < 2 ^ (p + 1)) : S ^^^ 2 ^ p < 2 ^ p := by
  apply Nat.lt_pow_two_of_testBit
  intro j hj
  rw [tb_xor2]
  by_cases e : p = j
  · subst e; rw [tb_top h1 h2]; simp
  · rw [Nat.testBit_lt_two_pow (Nat.lt_of_lt_of_le h2 (Nat.pow_le_pow_right (by decide) (by omega)))]
    simp [e]
theorem tot_top {a b : Nat} {E : Nat → Nat} {S p : Nat} (hp : p < 11) (h1 : 2 ^ p ≤ S) (h2 : S < 2 ^ (p + 1)) : tot a b E S = plN a b (tot a b E (S ^^^ 2 ^ p)) (E p) := by
  unfold tot
  rw [totL_flat h2 11 (by omega), totL_flat (xor_top_lt h1 h2) 11 (by omega)]
  have e : totL a b E S (p + 1) = if S.testBit p then plN a b (totL a b E S p) (E p) else totL a b E S p := rfl
  rw [e, tb_top h1 h2, if_pos rfl]
  congr 1
  refine totL_congr (fun j hj => ⟨?_, fun _ => rfl⟩)
  rw [tb_xor2]
  simp [show ¬ p = j by omega]
/-- a set within another -/
def sb (T S : Nat) : Bool := decide (T &&& S = T)
theorem sb_iff {T S : Nat} : sb T S = true ↔ ∀ k, T.testBit k = true → S.testBit k = true := by
  unfold sb
  rw [decide_eq_true_iff]
  constructor
  · intro h k hk
    rw [← h, Nat.testBit_and, Bool.and_eq_true] at hk
    exact hk.2
  · intro h
    apply Nat.eq_of_testBit_eq
    intro k
    rw [Nat.testBit_and]
    cases e : T.testBit k with
    | false => rfl
    | true => rw [h k e]; rfl
theorem sb_le {T S : Nat} (h : sb T S = true) : T ≤ S := by
  have : T &&& S = T := of_decide_eq_true h
  rw [← this]; exact Nat.and_le_right
theorem sb_rf (S : Nat) : sb S S = true := sb_iff.mpr (fun _ h => h)
theorem sb_trans {T S R : Nat} (h1 : sb T S = true) (h2 : sb S R = true) : sb T R = true := sb_iff.mpr (fun k h => sb_iff.mp h2 k (sb_iff.mp h1 k h))
theorem sb_xor {T S : Nat} (h : sb T S = true) : sb (S ^^^ T) S = true := sb_iff.mpr (fun k hk => by
  rw [Nat.testBit_xor] at hk
  cases e : S.testBit k with
  | true => rfl
  | false =>
    rw [e] at hk
    have h3 : T.testBit k = true := by simpa using hk
    have := sb_iff.mp h k h3
    rw [e] at this; exact this)
theorem and0_add : ∀ (n a b : Nat), a < n → a &&& b = 0 → a ||| b = a + b := by
  intro n
  induction n with
  | zero => intro a b h; omega
  | succ n ih =>
    intro a b h h0
    by_cases ha : a = 0
    · subst ha; simp
    · have h1 : (a &&& b) / 2 ^ 1 = 0 := by rw [h0]
      have h2 : (a &&& b) % 2 ^ 1 = 0 := by rw [h0]
      rw [← Nat.shiftRight_eq_div_pow, Nat.shiftRight_and_distrib, Nat.shiftRight_eq_div_pow, Nat.shiftRight_eq_div_pow] at h1
      rw [Nat.and_mod_two_pow] at h2
      have h3 := ih (a / 2 ^ 1) (b / 2 ^ 1) (by omega) h1
      have h4 : (a ||| b) / 2 ^ 1 = a / 2 ^ 1 + b / 2 ^ 1 := by
        rw [← Nat.shiftRight_eq_div_pow, Nat.shiftRight_or_distrib, Nat.shiftRight_eq_div_pow, Nat.shiftRight_eq_div_pow, h3]
      have h5 : (a ||| b) % 2 ^ 1 = a % 2 ^ 1 + b % 2 ^ 1 := by
        rw [Nat.or_mod_two_pow]
        rcases (show a % 2 ^ 1 = 0 ∨ a % 2 ^ 1 = 1 by omega) with q1 | q1 <;> rcases (show b % 2 ^ 1 = 0 ∨ b % 2 ^ 1 = 1 by omega) with q2 | q2 <;> rw [q1, q2] at h2 ⊢ <;> first | rfl | exact absurd h2 (by decide)
      omega
theorem xor_sub {T S : Nat} (h : sb T S = true) : S ^^^ T = S - T := by
  have hd : (S ^^^ T) &&& T = 0 := by
    apply Nat.eq_of_testBit_eq
    intro k
    rw [Nat.testBit_and, Nat.testBit_xor, Nat.zero_testBit]
    cases e : T.testBit k with
    | false => simp
    | true => rw [sb_iff.mp h k e]; rfl
  have ho : (S ^^^ T) ||| T = S := by
    apply Nat.eq_of_testBit_eq
    intro k
    rw [Nat.testBit_or, Nat.testBit_xor]
    cases e : T.testBit k with
    | false => simp
    | true => rw [sb_iff.mp h k e]; rfl
  have := and0_add _ _ _ (Nat.lt_succ_self _) hd
  omega
theorem xor_lt {T S : Nat} (h : sb T S = true) (h0 : T ≠ 0) : S ^^^ T < S := by
  rw [xor_sub h]; have := sb_le h; omega
theorem sb_pow {S k : Nat} : sb (2 ^ k) S = true ↔ S.testBit k = true := by
  rw [sb_iff]
  constructor
  · intro h; exact h k (by rw [Nat.testBit_two_pow]; simp)
  · intro h j hj
    rw [Nat.testBit_two_pow] at hj
    have : k = j := by simpa using hj
    rw [← this]; exact h
theorem pow_ne0 (k : Nat) : 2 ^ k ≠ 0 := by simp
/-- two parts of a set -/
theorem totL_part {a b : Nat} {E : Nat → Nat} (ha : 1 ≤ a) (hb : 1 ≤ b) {S T : Nat} (h : sb T S = true) : ∀ k, (∀ j, j < k → S.testBit j = true → E j < a * b) → totL a b E S k = plN a b (totL a b E T k) (totL a b E (S ^^^ T) k) := by
  intro k
  induction k with
  | zero => intro _; show 0 = plN a b 0 0; rw [plN_zero ha (ab_pos ha hb)]
  | succ k ih =>
    intro hE
    have ih := ih (fun j hj => hE j (by omega))
    unfold totL
    rw [Nat.testBit_xor]
    by_cases hT : T.testBit k = true
    · have hS := sb_iff.mp h k hT
      rw [hT, hS]
      simp only [if_true, Bool.xor_self, Bool.false_eq_true, if_false]
      rw [ih, plN_assoc ha, plN_assoc ha, plN_comm a b (totL a b E (S ^^^ T) k)]
    · simp only [Bool.not_eq_true] at hT
      rw [hT]
      by_cases hS : S.testBit k = true
      · rw [hS]
        simp only [if_true, Bool.xor_false, Bool.false_eq_true, if_false]
        rw [ih, plN_assoc ha]
      · simp only [Bool.not_eq_true] at hS
        rw [hS]
        simp only [Bool.xor_false, Bool.false_eq_true, if_false]
        exact ih
/-- the elements of a row are elements of the group -/
def okE (a b : Nat) (E : Nat → Nat) (n : Nat) : Prop := ∀ k : Nat, k < n → E k < a * b
theorem tot_part {a b n : Nat} {E : Nat → Nat} (ha : 1 ≤ a) (hb : 1 ≤ b) (hE : okE a b E n) {S T : Nat} (hS : S < 2 ^ n) (h : sb T S = true) : tot a b E S = plN a b (tot a b E T) (tot a b E (S ^^^ T)) := by
  refine totL_part ha hb h 11 (fun j _ hj => hE j ?_)
  rcases Nat.lt_or_ge j n with q | q
  · exact q
  · rw [Nat.testBit_lt_two_pow (Nat.lt_of_lt_of_le hS (Nat.pow_le_pow_right (by decide) q))] at hj
    cases hj
