/-- the sums of the sets that are not empty, both ways -/
theorem ss_iff {a b : Nat} {E : Nat → Nat} {t : Nat} : ∀ {N : Nat}, (ssN a b E N).testBit t = true ↔ ∃ S, 1 ≤ S ∧ S < N ∧ tot a b E S = t := by
  intro N
  induction N with
  | zero =>
    constructor
    · intro h
      have h2 : (0 : Nat).testBit t = true := h
      rw [Nat.zero_testBit] at h2; cases h2
    · rintro ⟨S, _, h, _⟩; omega
  | succ N ih =>
    rw [show ssN a b E (N + 1) = if N = 0 then 0 else ssN a b E N ||| 2 ^ tot a b E N from rfl]
    by_cases h0 : N = 0
    · rw [if_pos h0, Nat.zero_testBit]
      constructor
      · intro h; cases h
      · rintro ⟨S, h1, h2, _⟩; omega
    · rw [if_neg h0, Nat.testBit_or, Bool.or_eq_true, ih, Nat.testBit_two_pow, decide_eq_true_eq]
      constructor
      · rintro (⟨S, h1, h2, h3⟩ | h)
        · exact ⟨S, h1, by omega, h3⟩
        · exact ⟨N, by omega, by omega, h⟩
      · rintro ⟨S, h1, h2, h3⟩
        by_cases e : S = N
        · subst e; exact Or.inr h3
        · exact Or.inl ⟨S, h1, by omega, h3⟩
theorem rw_iff {a b S e t : Nat} : ∀ {k : Nat}, (rwL a b S e k).testBit t = true ↔ S.testBit t = true ∨ e = t ∨ ∃ j, j < k ∧ S.testBit j = true ∧ plN a b j e = t := by
  intro k
  induction k with
  | zero =>
    rw [show rwL a b S e 0 = S ||| 2 ^ e from rfl, Nat.testBit_or, Bool.or_eq_true, Nat.testBit_two_pow, decide_eq_true_eq]
    constructor
    · rintro (h | h)
      · exact Or.inl h
      · exact Or.inr (Or.inl h)
    · rintro (h | h | ⟨j, h, _⟩)
      · exact Or.inl h
      · exact Or.inr h
      · omega
  | succ k ih =>
    rw [show rwL a b S e (k + 1) = if S.testBit k then rwL a b S e k ||| 2 ^ plN a b k e else rwL a b S e k from rfl]
    by_cases c : S.testBit k = true
    · rw [if_pos c, Nat.testBit_or, Bool.or_eq_true, ih, Nat.testBit_two_pow, decide_eq_true_eq]
      constructor
      · rintro ((h | h | ⟨j, h1, h2, h3⟩) | h)
        · exact Or.inl h
        · exact Or.inr (Or.inl h)
        · exact Or.inr (Or.inr ⟨j, by omega, h2, h3⟩)
        · exact Or.inr (Or.inr ⟨k, by omega, c, h⟩)
      · rintro (h | h | ⟨j, h1, h2, h3⟩)
        · exact Or.inl (Or.inl h)
        · exact Or.inl (Or.inr (Or.inl h))
        · by_cases e2 : j = k
          · subst e2; exact Or.inr h3
          · exact Or.inl (Or.inr (Or.inr ⟨j, by omega, h2, h3⟩))
    · rw [if_neg c, ih]
      constructor
      · rintro (h | h | ⟨j, h1, h2, h3⟩)
        · exact Or.inl h
        · exact Or.inr (Or.inl h)
        · exact Or.inr (Or.inr ⟨j, by omega, h2, h3⟩)
      · rintro (h | h | ⟨j, h1, h2, h3⟩)
        · exact Or.inl h
        · exact Or.inr (Or.inl h)
        · by_cases e2 : j = k
          · subst e2; exact absurd h2 c
          · exact Or.inr (Or.inr ⟨j, by omega, h2, h3⟩)
theorem tot_pw {a b : Nat} {E : Nat → Nat} {S k : Nat} (hk : k < 11) (hS : S < 2 ^ k) : 2 ^ k ≤ S ^^^ 2 ^ k ∧ S ^^^ 2 ^ k < 2 ^ (k + 1) ∧ tot a b E (S ^^^ 2 ^ k) = plN a b (tot a b E S) (E k) := by
  have h0 : S.testBit k = false := Nat.testBit_lt_two_pow hS
  have h1 : (S ^^^ 2 ^ k).testBit k = true := by rw [Nat.testBit_xor, h0, Nat.testBit_two_pow]; simp
  have h2 := sb_le (sb_pow.mpr h1)
  have h4 : 2 ^ (k + 1) = 2 ^ k * 2 := Nat.pow_succ _ _
  have h5 := ppos k
  have h3 : S ^^^ 2 ^ k < 2 ^ (k + 1) := Nat.xor_lt_two_pow (by omega) (by omega)
  refine ⟨h2, h3, ?_⟩
  have h6 := tot_top (a := a) (b := b) (E := E) hk h2 h3
  rw [Nat.xor_assoc, Nat.xor_self, Nat.xor_zero] at h6
  exact h6
theorem su_iff {a b n : Nat} {E : Nat → Nat} (ha : 1 ≤ a) (hb : 1 ≤ b) (hE : okE a b E n) (hn : n ≤ 11) {t : Nat} : ∀ k, k ≤ n → ((suN a b E k).testBit t = true ↔ ∃ S, 1 ≤ S ∧ S < 2 ^ k ∧ tot a b E S = t) := by
  have key : ∀ k, k ≤ n → ∀ t : Nat, (suN a b E k).testBit t = true ↔ ∃ S, 1 ≤ S ∧ S < 2 ^ k ∧ tot a b E S = t := by
    intro k
    induction k with
    | zero =>
      intro _ t
      rw [show suN a b E 0 = 0 from rfl, Nat.zero_testBit]
      constructor
      · intro h; cases h
      · rintro ⟨S, h1, h2, _⟩; omega
    | succ k ih =>
      intro hk t
      have h4 : 2 ^ (k + 1) = 2 ^ k * 2 := Nat.pow_succ _ _
      have h5 := ppos k
      have hek := hE k (by omega)
      rw [show suN a b E (k + 1) = rwL a b (suN a b E k) (E k) (a * b) from rfl, rw_iff, ih (by omega) t]
      constructor
      · rintro (⟨S, q1, q2, q3⟩ | q | ⟨j, q1, q2, q3⟩)
        · exact ⟨S, q1, by omega, q3⟩
        · obtain ⟨p1, p2, p3⟩ := tot_pw (a := a) (b := b) (E := E) (S := 0) (show k < 11 by omega) (by omega)
          refine ⟨0 ^^^ 2 ^ k, by omega, p2, ?_⟩
          rw [p3, tot_0, plN_zero' ha hek]; exact q
        · obtain ⟨S, r1, r2, r3⟩ := (ih (by omega) j).mp q2
          obtain ⟨p1, p2, p3⟩ := tot_pw (a := a) (b := b) (E := E) (S := S) (show k < 11 by omega) r2
          exact ⟨S ^^^ 2 ^ k, by omega, p2, by rw [p3, r3]; exact q3⟩
      · rintro ⟨S, q1, q2, q3⟩
        by_cases c : S < 2 ^ k
        · exact Or.inl ⟨S, q1, c, q3⟩
        · have p := tot_top (a := a) (b := b) (E := E) (show k < 11 by omega) (show 2 ^ k ≤ S by omega) q2
          have hl := xor_top_lt (show 2 ^ k ≤ S by omega) q2
          by_cases c2 : S ^^^ 2 ^ k = 0
          · rw [c2, tot_0, plN_zero' ha hek] at p
            exact Or.inr (Or.inl (by rw [← q3, p]))
          · exact Or.inr (Or.inr ⟨tot a b E (S ^^^ 2 ^ k), tot_lt ha hb E _, (ih (by omega) _).mpr ⟨_, by omega, hl, rfl⟩, by rw [← q3, p]⟩)
  exact fun k hk => key k hk t
/-- the reference's set of sums is the class's -/
theorem ss_su {a b n : Nat} {E : Nat → Nat} (ha : 1 ≤ a) (hb : 1 ≤ b) (hE : okE a b E n) (hn : n ≤ 11) : ssN a b E (2 ^ n) = suN a b E n := by
  apply Nat.eq_of_testBit_eq
  intro t
  apply Bool.eq_iff_iff.mpr
  rw [ss_iff, su_iff ha hb hE hn n (Nat.le_refl _)]
/-- a part that sums to nothing: holds[all] -/
theorem hld_su {a b n : Nat} {E : Nat → Nat} (ha : 1 ≤ a) (hb : 1 ≤ b) (hE : okE a b E n) (hn : n ≤ 11) : hld a b E (2 ^ n - 1) = (suN a b E n).testBit 0 := by
  apply Bool.eq_iff_iff.mpr
  rw [hld_iff, su_iff ha hb hE hn n (Nat.le_refl _)]
  have h5 := ppos n
  constructor
  · rintro ⟨T, q1, q2, q3⟩
    rw [sb_all, decide_eq_true_eq] at q2
    exact ⟨T, by omega, q2, q3⟩
  · rintro ⟨T, q1, q2, q3⟩
    exact ⟨T, by omega, by rw [sb_all, decide_eq_true q2], q3⟩
