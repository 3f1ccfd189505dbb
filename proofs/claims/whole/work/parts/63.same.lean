/-- alike sets, both ways; blocks unlike those below them; blocks with a new place -/
theorem b01_t : b01 true = 1 := rfl
theorem b01_f : b01 false = 0 := rfl
theorem toN_lo {E : Nat → Nat} {e Y p : Nat} : ∀ {n : Nat}, n ≤ p → toN E e (Y ^^^ 2 ^ p) n = toN E e Y n := by
  intro n hn
  unfold toN
  refine cntN_congr n (fun k hk => ?_)
  rw [tb_xor2, decide_eq_false (show ¬ p = k by omega), Bool.xor_false]
theorem toN_add {E : Nat → Nat} {e Y p : Nat} (h : Y.testBit p = false) : ∀ {n : Nat}, p < n → toN E e (Y ^^^ 2 ^ p) n = toN E e Y n + b01 (decide (E p = e)) := by
  intro n
  induction n with
  | zero => intro q; omega
  | succ n ih =>
    intro q
    rw [toN_s, toN_s]
    by_cases e2 : p = n
    · subst e2
      rw [toN_lo (Nat.le_refl _), tb_xor2, h, decide_eq_true (rfl : p = p), Bool.and_false, b01_f]
      simp
    · rw [ih (by omega), tb_xor2, decide_eq_false e2, Bool.xor_false]
      omega
theorem cnt_disj {f g h : Nat → Bool} : ∀ {n : Nat}, (∀ k, k < n → h k = (f k || g k) ∧ (f k && g k) = false) → cntN f n + cntN g n = cntN h n := by
  intro n
  induction n with
  | zero => intro _; rfl
  | succ n ih =>
    intro q
    have q1 := ih (fun k hk => q k (by omega))
    obtain ⟨q2, q3⟩ := q n (by omega)
    rw [cntN_succ, cntN_succ, cntN_succ, q2]
    rcases hf : f n with _ | _ <;> rcases hg : g n with _ | _
    · simp; omega
    · simp; omega
    · simp; omega
    · rw [hf, hg] at q3; cases q3
def smE (E : Nat → Nat) (S n : Nat) : Nat → Nat
  | 0 => 0
  | N + 1 => smE E S n N + toN E N S n
theorem smE_eq {E : Nat → Nat} {S n : Nat} : ∀ N, smE E S n N = cntN (fun k => S.testBit k && decide (E k < N)) n := by
  intro N
  induction N with
  | zero =>
    rw [cntN_flat (s := 0) (Nat.zero_le _) (fun j _ _ => by simp)]
    rfl
  | succ N ih =>
    show smE E S n N + toN E N S n = _
    rw [ih]
    refine cnt_disj (fun k hk => ?_)
    rcases S.testBit k with _ | _
    · simp
    · by_cases e : E k = N
      · simp [e]
      · simp only [Bool.true_and, Bool.and_true]
        rw [decide_eq_false e, Bool.or_false, Bool.and_false]
        refine ⟨?_, rfl⟩
        by_cases e2 : E k < N
        · rw [decide_eq_true e2, decide_eq_true (by omega)]
        · rw [decide_eq_false e2, decide_eq_false (by omega)]
theorem smE_cg {E : Nat → Nat} {S T n : Nat} : ∀ N, (∀ e, e < N → toN E e S n = toN E e T n) → smE E S n N = smE E T n N := by
  intro N
  induction N with
  | zero => intro _; rfl
  | succ N ih =>
    intro q
    show smE E S n N + toN E N S n = smE E T n N + toN E N T n
    rw [ih (fun e he => q e (by omega)), q N (by omega)]
theorem pc_smE {E : Nat → Nat} {S n N : Nat} (hS : S < 2 ^ n) (hn : n ≤ 11) (hE : ∀ k, k < n → E k < N) : pcN S = smE E S n N := by
  rw [smE_eq]
  unfold pcN
  rw [cntN_flat hn (fun j hj _ => by
    rcases q : S.testBit j with _ | _
    · rfl
    · exact absurd (sb_nz (sb_rf S) hS q) (by omega))]
  exact cntN_congr n (fun k hk => by rw [decide_eq_true (hE k hk), Bool.and_true])
theorem al_iff {a b n S T : Nat} {E : Nat → Nat} : alN a b E n S T = true ↔ ∀ e, e < a * b → toN E e S n = toN E e T n := by
  unfold alN
  rw [Bool.not_eq_true', ← Bool.not_eq_true, anyN_true]
  constructor
  · intro h e he
    by_cases q : toN E e S n = toN E e T n
    · exact q
    · exact absurd ⟨e, he, decide_eq_true q⟩ h
  · rintro h ⟨e, he, q⟩
    exact of_decide_eq_true q (h e he)
theorem ak_eq {a b n S T : Nat} {E : Nat → Nat} (hE : okE a b E n) (hn : n ≤ 10) (hS : S < 2 ^ n) (hT : T < 2 ^ n) : alN a b E n S T = akN E n S T := by
  apply Bool.eq_iff_iff.mpr
  rw [al_iff]
  unfold akN
  rw [Bool.not_eq_true', ← Bool.not_eq_true, anyN_true]
  constructor
  · rintro h ⟨k, hk, q⟩
    exact of_decide_eq_true q (h _ (hE k hk))
  · rintro h e he
    by_cases q : ∃ k, k < n ∧ E k = e
    · obtain ⟨k, hk, rfl⟩ := q
      by_cases q2 : toN E (E k) S n = toN E (E k) T n
      · exact q2
      · exact absurd ⟨k, hk, decide_eq_true q2⟩ h
    · have z : ∀ X : Nat, toN E e X n = 0 := fun X => by
        unfold toN
        rw [cntN_flat (s := 0) (Nat.zero_le _) (fun j _ hj => by rw [decide_eq_false (fun e2 => q ⟨j, hj, e2⟩), Bool.false_and])]
        rfl
      rw [z, z]
theorem xx (X Y : Nat) : X ^^^ Y ^^^ Y = X := by rw [Nat.xor_assoc, Nat.xor_self, Nat.xor_zero]
theorem tot_one {a b n Y p : Nat} {E : Nat → Nat} (ha : 1 ≤ a) (hb : 1 ≤ b) (hE : okE a b E n) (hn : n ≤ 11) (hY : Y < 2 ^ n) (hp : p < n) (h : Y.testBit p = false) : tot a b E (Y ^^^ 2 ^ p) = plN a b (E p) (tot a b E Y) := by
  have hpn : 2 ^ p < 2 ^ n := Nat.pow_lt_pow_right (by decide) hp
  have h1 : tot a b E (2 ^ p) = E p := by
    have q := (tot_pw (a := a) (b := b) (E := E) (S := 0) (k := p) (by omega) (Nat.two_pow_pos p)).2.2
    rw [Nat.zero_xor, tot_0, plN_zero' ha (hE p hp)] at q
    exact q
  have q := tot_part ha hb hE (Nat.xor_lt_two_pow hY hpn) (sb_pow.mpr (show (Y ^^^ 2 ^ p).testBit p = true by rw [tb_xor2, h, decide_eq_true rfl]; rfl))
  rw [xx, h1] at q
  exact q
theorem bit_xs {Y p : Nat} (h : Y.testBit p = false) : (Y ^^^ 2 ^ p).testBit p = true := by rw [tb_xor2, h, decide_eq_true rfl]; rfl
theorem bit_xn {Y p i : Nat} (h : p ≠ i) : (Y ^^^ 2 ^ p).testBit i = Y.testBit i := by rw [tb_xor2, decide_eq_false h, Bool.xor_false]
/-- two places with one element: the one for the other -/
theorem blk_swap {a b n Y j k : Nat} {E : Nat → Nat} (ha : 1 ≤ a) (hb : 1 ≤ b) (hE : okE a b E n) (hn : n ≤ 11) (hY : Y < 2 ^ n) (hj : j < n) (hk : k < n) (hjY : Y.testBit j = false) (hkY : Y.testBit k = false) (hjk : j ≠ k) (he : E j = E k) (h : blk a b E (Y ^^^ 2 ^ k) = true) : blk a b E (Y ^^^ 2 ^ j) = true := by
  have pj : 2 ^ j < 2 ^ n := Nat.pow_lt_pow_right (by decide) hj
  have pk : 2 ^ k < 2 ^ n := Nat.pow_lt_pow_right (by decide) hk
  have hS : Y ^^^ 2 ^ k < 2 ^ n := Nat.xor_lt_two_pow hY pk
  have hS' : Y ^^^ 2 ^ j < 2 ^ n := Nat.xor_lt_two_pow hY pj
  obtain ⟨-, h2, h3⟩ := (blk_iff hS hn).mp h
  refine (blk_iff hS' hn).mpr ⟨?_, ?_, ?_⟩
  · intro e
    have := bit_xs hjY
    rw [e] at this; simp at this
  · rw [tot_one ha hb hE hn hY hj hjY, he, ← tot_one ha hb hE hn hY hk hkY]; exact h2
  · intro T hT0 hTs hTt
    have hs := sb_iff.mp hTs
    have hTk : T.testBit k = false := by
      rcases q : T.testBit k with _ | _
      · rfl
      · have := hs k q; rw [bit_xn hjk, hkY] at this; cases this
    rcases hTj : T.testBit j with _ | _
    · exfalso
      have hTS : T = Y ^^^ 2 ^ k := h3 T hT0 (sb_iff.mpr (fun i hi => by
        have q := hs i hi
        by_cases e1 : j = i
        · subst e1; rw [hTj] at hi; cases hi
        · rw [bit_xn e1] at q
          by_cases e2 : k = i
          · subst e2; rw [hTk] at hi; cases hi
          · rw [bit_xn e2]; exact q)) hTt
      have := bit_xs hkY
      rw [← hTS, hTk] at this; cases this
    · have hZj : (T ^^^ 2 ^ j).testBit j = false := by rw [tb_xor2, hTj, decide_eq_true rfl]; rfl
      have hZk : (T ^^^ 2 ^ j).testBit k = false := by rw [bit_xn hjk]; exact hTk
      have hZl : T ^^^ 2 ^ j < 2 ^ n := Nat.xor_lt_two_pow (Nat.lt_of_le_of_lt (sb_le hTs) hS') pj
      have e0 : T = (T ^^^ 2 ^ j) ^^^ 2 ^ j := (xx T (2 ^ j)).symm
      have hZY : ∀ i, (T ^^^ 2 ^ j).testBit i = true → Y.testBit i = true := fun i hi => by
        by_cases e1 : j = i
        · subst e1; rw [hZj] at hi; cases hi
        · rw [bit_xn e1] at hi
          have q := hs i hi
          rw [bit_xn e1] at q; exact q
      have hU := h3 ((T ^^^ 2 ^ j) ^^^ 2 ^ k) (fun e => by have := bit_xs hZk; rw [e] at this; simp at this) (sb_iff.mpr (fun i hi => by
        by_cases e2 : k = i
        · subst e2; exact bit_xs hkY
        · rw [bit_xn e2] at hi ⊢; exact hZY i hi)) (by
        rw [tot_one ha hb hE hn hZl hk hZk, ← he, ← tot_one ha hb hE hn hZl hj hZj, ← e0]; exact hTt)
      have hZ : T ^^^ 2 ^ j = Y := by
        have := congrArg (fun z => z ^^^ 2 ^ k) hU
        simp only [xx] at this
        exact this
      rw [← hZ, xx]
theorem tf_false {E : Nat → Nat} {S : Nat} : ∀ {n : Nat}, tfL E S n = false → ∃ k, k < n ∧ S.testBit k = true ∧ skN E S k = true := by
  intro n
  induction n with
  | zero => intro h; cases h
  | succ n ih =>
    intro h
    rw [show tfL E S (n + 1) = (tfL E S n && !(S.testBit n && skN E S n)) from rfl] at h
    rcases q : tfL E S n with _ | _
    · obtain ⟨k, h1, h2⟩ := ih q
      exact ⟨k, by omega, h2⟩
    · rw [q, Bool.true_and, Bool.not_eq_false', Bool.and_eq_true] at h
      exact ⟨n, by omega, h.1, h.2⟩
theorem tf_true {E : Nat → Nat} {S : Nat} : ∀ {n : Nat}, tfL E S n = true → ∀ k, k < n → S.testBit k = true → skN E S k = false := by
  intro n
  induction n with
  | zero => intro _ k hk; omega
  | succ n ih =>
    intro h k hk hb
    rw [show tfL E S (n + 1) = (tfL E S n && !(S.testBit n && skN E S n)) from rfl, Bool.and_eq_true, Bool.not_eq_true'] at h
    by_cases e : k = n
    · subst e
      have := h.2
      rw [hb, Bool.true_and] at this; exact this
    · exact ih h.1 k (by omega) hb
theorem lt_bits {x y i : Nat} (hx : x.testBit i = false) (hy : y.testBit i = true) (h : ∀ j, i < j → x.testBit j = y.testBit j) : x < y := by
  have hq : x / 2 ^ (i + 1) = y / 2 ^ (i + 1) := Nat.eq_of_testBit_eq (fun j => by
    rw [Nat.testBit_div_two_pow, Nat.testBit_div_two_pow]; exact h _ (by omega))
  have h1 : x % 2 ^ (i + 1) < 2 ^ i := Nat.lt_pow_two_of_testBit _ (fun j hj => by
    rw [Nat.testBit_mod_two_pow]
    by_cases e : j = i
    · rw [e, hx, Bool.and_false]
    · rw [decide_eq_false (by omega), Bool.false_and])
  have h2 : 2 ^ i ≤ y % 2 ^ (i + 1) := Nat.ge_two_pow_of_testBit (by
    rw [Nat.testBit_mod_two_pow, decide_eq_true (by omega), hy]; rfl)
  have e1 := Nat.div_add_mod x (2 ^ (i + 1))
  have e2 := Nat.div_add_mod y (2 ^ (i + 1))
  rw [hq] at e1
  omega
theorem diff_top {o s : Nat} : ∀ N, (∃ i, i < N ∧ o.testBit i ≠ s.testBit i) → ∃ k, k < N ∧ o.testBit k ≠ s.testBit k ∧ ∀ i, k < i → i < N → o.testBit i = s.testBit i := by
  intro N
  induction N with
  | zero => rintro ⟨i, hi, _⟩; omega
  | succ N ih =>
    rintro ⟨i, hi, hd⟩
    by_cases e : o.testBit N = s.testBit N
    · have hiN : i ≠ N := fun q => hd (by rw [q]; exact e)
      obtain ⟨k, h1, h2, h3⟩ := ih ⟨i, by omega, hd⟩
      refine ⟨k, by omega, h2, fun j hj hj2 => ?_⟩
      by_cases e2 : j = N
      · rw [e2]; exact e
      · exact h3 j hj (by omega)
    · exact ⟨N, by omega, e, fun j h1 h2 => by omega⟩
theorem lt_top {o s n : Nat} (ho : o < 2 ^ n) (hs : s < 2 ^ n) (h : o < s) : ∃ k, k < n ∧ s.testBit k = true ∧ o.testBit k = false ∧ ∀ i, k < i → o.testBit i = s.testBit i := by
  have hex : ∃ i, i < n ∧ o.testBit i ≠ s.testBit i := by
    by_cases q : ∃ i, i < n ∧ o.testBit i ≠ s.testBit i
    · exact q
    · exfalso
      have : o = s := Nat.eq_of_testBit_eq (fun i => by
        by_cases e : i < n
        · by_cases e2 : o.testBit i = s.testBit i
          · exact e2
          · exact absurd ⟨i, e, e2⟩ q
        · rw [Nat.testBit_lt_two_pow (Nat.lt_of_lt_of_le ho (Nat.pow_le_pow_right (by decide) (by omega))), Nat.testBit_lt_two_pow (Nat.lt_of_lt_of_le hs (Nat.pow_le_pow_right (by decide) (by omega)))])
      omega
  obtain ⟨k, h1, h2, h3⟩ := diff_top n hex
  have h4 : ∀ i, k < i → o.testBit i = s.testBit i := fun i hi => by
    by_cases e : i < n
    · exact h3 i hi e
    · rw [Nat.testBit_lt_two_pow (Nat.lt_of_lt_of_le ho (Nat.pow_le_pow_right (by decide) (by omega))), Nat.testBit_lt_two_pow (Nat.lt_of_lt_of_le hs (Nat.pow_le_pow_right (by decide) (by omega)))]
  rcases q1 : s.testBit k with _ | _
  · exfalso
    rcases q2 : o.testBit k with _ | _
    · rw [q1, q2] at h2; exact h2 rfl
    · have := lt_bits q1 q2 (fun i hi => (h4 i hi).symm)
      omega
  · rcases q2 : o.testBit k with _ | _
    · exact ⟨k, h1, q1, q2, h4⟩
    · rw [q1, q2] at h2; exact absurd rfl h2
/-- of alike sets the least one takes the first places -/
theorem tf_least {E : Nat → Nat} {o s n : Nat} (ho : o < 2 ^ n) (hs : s < 2 ^ n) (h : o < s) (ht : tfL E s n = true) : ∃ k, k < n ∧ toN E (E k) o n < toN E (E k) s n := by
  obtain ⟨k, h1, h2, h3, h4⟩ := lt_top ho hs h
  have hsk := tf_true ht k h1 h2
  have hall : ∀ j, j < k → E j = E k → s.testBit j = true := fun j hj he => by
    rcases q : s.testBit j with _ | _
    · exfalso
      have : skN E s k = true := (skL_true k).mpr ⟨j, hj, he, q⟩
      rw [hsk] at this; cases this
    · rfl
  refine ⟨k, h1, ?_⟩
  have key : ∀ d, toN E (E k) o (k + 1 + d) < toN E (E k) s (k + 1 + d) := by
    intro d
    induction d with
    | zero =>
      show toN E (E k) o (k + 1) < toN E (E k) s (k + 1)
      rw [toN_s, toN_s, h2, h3, decide_eq_true rfl]
      have : toN E (E k) o k ≤ toN E (E k) s k := cnt_le2 (fun j hj hf => by
        rw [Bool.and_eq_true, decide_eq_true_eq] at hf
        rw [decide_eq_true hf.1, hall j hj hf.1]; rfl)
      show toN E (E k) o k + 0 < toN E (E k) s k + 1
      omega
    | succ d ih =>
      show toN E (E k) o (k + 1 + d + 1) < toN E (E k) s (k + 1 + d + 1)
      rw [toN_s, toN_s, h4 (k + 1 + d) (by omega)]
      omega
  have q := key (n - (k + 1))
  rw [show k + 1 + (n - (k + 1)) = n by omega] at q
  exact q
theorem uq_eq {a b n s : Nat} {E : Nat → Nat} (ha : 1 ≤ a) (hb : 1 ≤ b) (hE : okE a b E n) (hn : n ≤ 10) (hs : s < 2 ^ n) : uqN a b E n s = (blk a b E s && tfN E s n) := by
  unfold uqN uqL
  rcases hbk : blk a b E s with _ | _
  · rfl
  · rw [Bool.true_and, Bool.true_and]
    rcases ht : tfN E s n with _ | _
    · rw [Bool.not_eq_false', anyN_true]
      obtain ⟨k, hk, hsk, hsn⟩ := tf_false ht
      obtain ⟨j, hj, he, hjs⟩ := (skL_true k).mp hsn
      have pk : 2 ^ k < 2 ^ n := Nat.pow_lt_pow_right (by decide) hk
      have hjk : k ≠ j := by omega
      have hYk : (s ^^^ 2 ^ k).testBit k = false := by rw [tb_xor2, hsk, decide_eq_true rfl]; rfl
      have hYj : (s ^^^ 2 ^ k).testBit j = false := by rw [bit_xn hjk]; exact hjs
      have hY : s ^^^ 2 ^ k < 2 ^ n := Nat.xor_lt_two_pow hs pk
      have e0 : (s ^^^ 2 ^ k) ^^^ 2 ^ k = s := xx s _
      refine ⟨(s ^^^ 2 ^ k) ^^^ 2 ^ j, ?_, ?_⟩
      · refine lt_bits (i := k) (by rw [bit_xn hjk.symm]; exact hYk) hsk (fun i hi => ?_)
        rw [bit_xn (by omega), bit_xn (by omega)]
      · unfold uqF
        rw [blk_swap ha hb hE (by omega) hY (by omega) hk hYj hYk hjk.symm he (by rw [e0]; exact hbk), Bool.true_and]
        refine al_iff.mpr (fun e _ => ?_)
        have q1 := toN_add (E := E) (e := e) hYk hk
        rw [e0] at q1
        rw [q1, toN_add hYj (by omega), he]
    · rw [Bool.not_eq_true', ← Bool.not_eq_true, anyN_true]
      rintro ⟨o, ho, hq⟩
      unfold uqF at hq
      rw [Bool.and_eq_true] at hq
      obtain ⟨k, hk, hlt⟩ := tf_least (E := E) (n := n) (Nat.lt_trans ho hs) hs ho ht
      have := al_iff.mp hq.2 (E k) (hE k hk)
      omega
theorem uq_cnt {a b n : Nat} {E : Nat → Nat} (ha : 1 ≤ a) (hb : 1 ≤ b) (hE : okE a b E n) (hn : n ≤ 10) : cntN (uqN a b E n) (2 ^ n) = cntN (fun B => blk a b E B && tfN E B n) (2 ^ n) := cntN_congr _ (fun s hs => uq_eq ha hb hE hn hs)
/-- blocks with a new place are the free sets of the right sum -/
theorem pc_pow {p : Nat} (hp : p < 11) : pcN (2 ^ p) = 1 := by
  have : ∀ p, p < 11 → pcN (2 ^ p) = 1 := by decide +kernel
  exact this p hp
theorem bw_pt {a b n x p S : Nat} {E : Nat → Nat} (ha : 1 ≤ a) (hb : 1 ≤ b) (hE : okE a b E n) (hn : n ≤ 10) (hx : x < a * b) (hp : 1 ≤ p) (hS : S < 2 ^ n) : bwF a b (upE E n x) n p (2 ^ n + S) = (decide (pcN S = p - 1) && decide (kindN a b E S = 0) && decide (tot a b E S = opN a b x)) := by
  have hSn : S.testBit n = false := Nat.testBit_lt_two_pow hS
  have eX : 2 ^ n + S = S ^^^ 2 ^ n := by
    have h1 : sb S (S ^^^ 2 ^ n) = true := sb_iff.mpr (fun i hi => by
      by_cases e : n = i
      · subst e; rw [hSn] at hi; cases hi
      · rw [bit_xn e]; exact hi)
    have h2 := xor_sub (S := S ^^^ 2 ^ n) (T := 2 ^ n) (sb_pow.mpr (bit_xs hSn))
    rw [xx] at h2
    have h3 := sb_le (sb_pow.mpr (bit_xs hSn))
    omega
  have hE' : okE a b (upE E n x) (n + 1) := fun k hk => by
    unfold upE
    by_cases e : k = n
    · rw [if_pos e]; exact hx
    · rw [if_neg e]; exact hE k (by omega)
  have hag : ∀ k, k < n → E k = upE E n x k := upE_lt E n x
  have hS1 : S < 2 ^ (n + 1) := Nat.lt_trans hS (Nat.pow_lt_pow_right (by decide) (Nat.lt_succ_self n))
  have hX1 : S ^^^ 2 ^ n < 2 ^ (n + 1) := Nat.xor_lt_two_pow hS1 (Nat.pow_lt_pow_right (by decide) (Nat.lt_succ_self n))
  have ht : tot a b (upE E n x) (S ^^^ 2 ^ n) = plN a b x (tot a b E S) := by
    rw [tot_one ha hb hE' (by omega) hS1 (Nat.lt_succ_self n) hSn, upE_s, ← tot_cg hag hS]
  have hpc : pcN (S ^^^ 2 ^ n) = pcN S + 1 := by
    have q := pc_part (S := S ^^^ 2 ^ n) (B := 2 ^ n) (sb_pow.mpr (bit_xs hSn))
    rw [xx, pc_pow (by omega)] at q
    omega
  unfold bwF
  rw [eX, decide_eq_true (show 2 ^ n ≤ S ^^^ 2 ^ n by omega), Bool.true_and, hpc]
  rw [Bool.and_assoc, show decide (pcN S + 1 = p) = decide (pcN S = p - 1) by
    by_cases e : pcN S + 1 = p
    · rw [decide_eq_true e, decide_eq_true (by omega)]
    · rw [decide_eq_false e, decide_eq_false (by omega)]]
  congr 1
  apply Bool.eq_iff_iff.mpr
  rw [Bool.and_eq_true, decide_eq_true_eq, decide_eq_true_eq, kind_hld hS (by omega), blk_iff hX1 (by omega), ht, plN_0_iff ha hb hx (tot_lt ha hb E S)]
  constructor
  · rintro ⟨h1, h2, h3⟩
    refine ⟨?_, h2⟩
    rcases q : hld a b E S with _ | _
    · rfl
    · exfalso
      obtain ⟨T, t1, t2, t3⟩ := hld_iff.mp q
      have hTl : T < 2 ^ n := Nat.lt_of_le_of_lt (sb_le t2) hS
      have := h3 T t1 (sb_iff.mpr (fun i hi => by
        have q2 := sb_iff.mp t2 i hi
        by_cases e : n = i
        · subst e; rw [hSn] at q2; cases q2
        · rw [bit_xn e]; exact q2)) (by rw [← tot_cg hag hTl]; exact t3)
      omega
  · rintro ⟨h1, h2⟩
    refine ⟨fun e => by have := bit_xs hSn; rw [e] at this; simp at this, h2, fun T t1 t2 t3 => ?_⟩
    have hs2 := sb_iff.mp t2
    rcases q : T.testBit n with _ | _
    · exfalso
      have hTS : sb T S = true := sb_iff.mpr (fun i hi => by
        have q2 := hs2 i hi
        by_cases e : n = i
        · subst e; rw [q] at hi; cases hi
        · rw [bit_xn e] at q2; exact q2)
      have hTl : T < 2 ^ n := Nat.lt_of_le_of_lt (sb_le hTS) hS
      have : hld a b E S = true := hld_iff.mpr ⟨T, t1, hTS, by rw [tot_cg hag hTl]; exact t3⟩
      rw [h1] at this; cases this
    · by_cases e : T = S ^^^ 2 ^ n
      · exact e
      · exfalso
        have hp := tot_part ha hb hE' hX1 t2
        have hXt : tot a b (upE E n x) (S ^^^ 2 ^ n) = 0 := by rw [ht]; exact (plN_0_iff ha hb hx (tot_lt ha hb E S)).mpr h2
        rw [hXt, t3, plN_zero' ha (tot_lt ha hb _ _)] at hp
        have hUS : sb ((S ^^^ 2 ^ n) ^^^ T) S = true := sb_iff.mpr (fun i hi => by
          by_cases e2 : n = i
          · subst e2
            rw [Nat.testBit_xor, bit_xs hSn, q] at hi; cases hi
          · have q2 := sb_iff.mp (sb_xor t2) i hi
            rw [bit_xn e2] at q2; exact q2)
        have hUl : (S ^^^ 2 ^ n) ^^^ T < 2 ^ n := Nat.lt_of_le_of_lt (sb_le hUS) hS
        have : hld a b E S = true := hld_iff.mpr ⟨(S ^^^ 2 ^ n) ^^^ T, fun z => e (by
          have := congrArg (fun w => w ^^^ T) z
          simp only [xx, Nat.zero_xor] at this
          exact this.symm), hUS, by rw [tot_cg hag hUl]; exact hp.symm⟩
        rw [h1] at this; cases this
theorem bw_eq {a b n x p : Nat} {E : Nat → Nat} (ha : 1 ≤ a) (hb : 1 ≤ b) (hE : okE a b E n) (hn : n ≤ 10) (hx : x < a * b) (hp : 1 ≤ p) : cntN (bwF a b (upE E n x) n p) (2 ^ (n + 1)) = cntN (fun S => decide (pcN S = p - 1) && decide (kindN a b E S = 0) && decide (tot a b E S = opN a b x)) (2 ^ n) := by
  rw [show 2 ^ (n + 1) = 2 ^ n + 2 ^ n by rw [Nat.pow_succ]; omega, cntN_add, cntN_flat (s := 0) (Nat.zero_le _) (fun j _ hj => by unfold bwF; rw [decide_eq_false (by omega)]; rfl)]
  rw [show cntN (bwF a b (upE E n x) n p) 0 = 0 from rfl, Nat.zero_add]
  exact cntN_congr _ (fun S hS => bw_pt ha hb hE hn hx hp hS)
theorem bk_all {a b n : Nat} {E : Nat → Nat} : cntN (fun B => blk a b E B && sb B (2 ^ n - 1)) (2 ^ n - 1 + 1) = cntN (blk a b E) (2 ^ n) := by
  have hp := ppos n
  rw [show 2 ^ n - 1 + 1 = 2 ^ n by omega]
  exact cntN_congr _ (fun B hB => by rw [sb_all, decide_eq_true hB, Bool.and_true])
