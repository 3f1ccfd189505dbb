/-- each element that is free reaches one sum more -/
theorem cnt_le2 {f g : Nat → Bool} : ∀ {k : Nat}, (∀ j, j < k → f j = true → g j = true) → cntN f k ≤ cntN g k := by
  intro k
  induction k with
  | zero => intro _; exact Nat.le_refl _
  | succ k ih =>
    intro h
    have h1 := ih (fun j hj => h j (by omega))
    rw [cntN_succ, cntN_succ]
    by_cases c : f k = true
    · rw [if_pos c, if_pos (h k (by omega) c)]; omega
    · rw [if_neg c]; split <;> omega
theorem cnt_lt2 {f g : Nat → Bool} {i : Nat} (h1 : g i = true) (h2 : f i = false) : ∀ {k : Nat}, i < k → (∀ j, j < k → f j = true → g j = true) → cntN f k + 1 ≤ cntN g k := by
  intro k
  induction k with
  | zero => intro h _; omega
  | succ k ih =>
    intro h hfg
    rw [cntN_succ, cntN_succ]
    by_cases e : i = k
    · subst e
      have := cnt_le2 (f := f) (g := g) (k := i) (fun j hj => hfg j (by omega))
      rw [if_neg (by rw [h2]; decide), if_pos h1]; omega
    · have h3 := ih (by omega) (fun j hj => hfg j (by omega))
      by_cases c : f k = true
      · rw [if_pos c, if_pos (hfg k (by omega) c)]; omega
      · rw [if_neg c]; split <;> omega
theorem lf_free {a b S e : Nat} (h : lfN a b S = some e) : S.testBit 0 = false := by
  unfold lfN at h
  split at h
  · cases h
  · next c => simpa using c
theorem grow {a b S e : Nat} (h1 : 1 ≤ a) (h2 : a ≤ 6) (h3 : 1 ≤ b) (h4 : b ≤ 6) (hl : lfN a b S = some e) (he : e < a * b) : cntN S.testBit (a * b) + 1 ≤ cntN (rwN a b S e).testBit (a * b) := by
  have hsub : ∀ j, j < a * b → S.testBit j = true → (rwN a b S e).testBit j = true := fun j _ hj => rw_iff.mpr (Or.inl hj)
  have h0 := lf_free hl
  apply Classical.byContradiction
  intro c
  have hall : ∀ j, j < a * b → (rwN a b S e).testBit j = true → S.testBit j = true := by
    intro j hj hr
    cases q : S.testBit j with
    | true => rfl
    | false => exact absurd (cnt_lt2 (f := S.testBit) hr q hj hsub) c
  have key : ∀ f tot, tot < a * b → S.testBit tot = true → hitL a b e f tot = true → S.testBit 0 = true := by
    intro f
    induction f with
    | zero =>
      intro tot _ hs hh
      have : tot = 0 := of_decide_eq_true hh
      rw [← this]; exact hs
    | succ f ih =>
      intro tot ht hs hh
      have hh2 : (decide (tot = 0) || hitL a b e f (plN a b tot e)) = true := hh
      by_cases z : tot = 0
      · rw [← z]; exact hs
      · rw [decide_eq_false z, Bool.false_or] at hh2
        exact ih _ (plN_lt h1 h3 _ _) (hall _ (plN_lt h1 h3 _ _) (rw_iff.mpr (Or.inr (Or.inr ⟨tot, ht, hs, rfl⟩)))) hh2
  have hs := hall e he (rw_iff.mpr (Or.inr (Or.inl rfl)))
  have := key _ e he hs (hit_all h1 h2 h3 h4 he)
  rw [h0] at this; cases this
