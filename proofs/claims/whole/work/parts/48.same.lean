/-- small equalities of the two sides' answers -/
theorem many_eq {a b n : Nat} {E : Nat → Nat} (ha : 1 ≤ a) (hb : 1 ≤ b) (hab : a * b ≤ 36) (hE : okE a b E n) (hn : n ≤ 11) : cntN (suN a b E n).testBit 36 = cntN (suN a b E n).testBit (a * b) :=
  cntN_flat (s := a * b) hab (fun j h1 h2 => by
    cases q : (suN a b E n).testBit j with
    | false => rfl
    | true =>
      obtain ⟨S, _, _, h3⟩ := (su_iff ha hb hE hn n (Nat.le_refl _)).mp q
      have := tot_lt ha hb E S
      omega)
theorem bi_eq {a b n S : Nat} {E : Nat → Nat} (hS : S < 2 ^ n) : cntN (fun B => blk a b E B && sb B S) (2 ^ n) = cntN (fun B => blk a b E B && sb B S) (S + 1) :=
  cntN_flat (s := S + 1) (by omega) (fun j h1 h2 => by
    show (blk a b E j && sb j S) = false
    cases q : sb j S with
    | false => rw [Bool.and_false]
    | true => have := sb_le q; omega)
theorem smA_cg {c d : Nat → Bool} : ∀ {k : Nat}, (∀ j, j < k → c j = d j) → smA c k = smA d k := by
  intro k
  induction k with
  | zero => intro _; rfl
  | succ k ih =>
    intro h
    rw [smA_s, smA_s, ih (fun j hj => h j (by omega)), h k (by omega)]
theorem sm_all {a b n : Nat} {E : Nat → Nat} : smA (cPl a b E (2 ^ n - 1)) (2 ^ n) = smA (blk a b E) (2 ^ n) := by
  refine smA_cg (fun j hj => ?_)
  unfold cPl
  rw [Nat.and_two_pow_sub_one_eq_mod, Nat.mod_eq_of_lt hj]
  cases q : blk a b E j with
  | false => rfl
  | true => rw [decide_eq_true (blk_ne q)]; rfl
theorem gp_eq {a b n : Nat} {E Q : Nat → Nat} : cntN (fun p => blk a b E (poN Q p n)) 6 = cntN (fun p => decide (poN Q p n ≠ 0) && (!true || blk a b E (poN Q p n))) 6 := by
  refine cntN_congr 6 (fun p _ => ?_)
  cases q : blk a b E (poN Q p n) with
  | false => simp
  | true => rw [decide_eq_true (blk_ne q)]; rfl
theorem lp_eq {a b n : Nat} {E Q : Nat → Nat} : cntN (fun p => decide (poN Q p n ≠ 0)) 6 = cntN (fun p => decide (poN Q p n ≠ 0) && (!false || blk a b E (poN Q p n))) 6 := by
  refine cntN_congr 6 (fun p _ => ?_)
  simp
theorem to_all {n x : Nat} {E : Nat → Nat} : toN E x (2 ^ n - 1) n = cntN (fun k => decide (E k = x)) n := by
  unfold toN
  refine cntN_congr n (fun k hk => ?_)
  rw [Nat.testBit_two_pow_sub_one, decide_eq_true hk, Bool.and_true]
