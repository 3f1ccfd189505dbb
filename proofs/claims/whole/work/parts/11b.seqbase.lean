section ZT
variable {G : Gt} {d : Nat} {Y : YC} {F : Fn} {pc : Nat} {lv : List (Nat × Value)} {st : List Value} {μ : Mm}
theorem z_ifT_eq {S k : Nat} {off : Int} {tgt : Nat} (hdg : decode Y.2.1 pc = .ok (.ifCond .eq off, 3)) (ht : (pc : Int) + off = (tgt : Int)) (kt : S.testBit k = false → Zs G d Y F tgt lv st μ) (kf : S.testBit k = true → Zs G d Y F (pc + 3) lv st μ) : Zs G d Y F pc lv (.int (nI (S / 2 ^ k &&& 1)) :: st) μ := by
  refine z_ifN_eq hdg ht ?_ (fun h => kt ((tb_div S k).2.mp h)) (fun h => kf ?_)
  · rw [tb_and1]; cases S.testBit k <;> decide
  · cases q : S.testBit k with
    | true => rfl
    | false => exact absurd ((tb_div S k).2.mpr q) h
theorem z_ifT_ne {S k : Nat} {off : Int} {tgt : Nat} (hdg : decode Y.2.1 pc = .ok (.ifCond .ne off, 3)) (ht : (pc : Int) + off = (tgt : Int)) (kt : S.testBit k = true → Zs G d Y F tgt lv st μ) (kf : S.testBit k = false → Zs G d Y F (pc + 3) lv st μ) : Zs G d Y F pc lv (.int (nI (S / 2 ^ k &&& 1)) :: st) μ := by
  refine z_ifN_ne hdg ht ?_ (fun h => kt ?_) (fun h => kf ((tb_div S k).2.mp h))
  · rw [tb_and1]; cases S.testBit k <;> decide
  · cases q : S.testBit k with
    | true => rfl
    | false => exact absurd ((tb_div S k).2.mpr q) h
end ZT
/-- nothing is changed but cells from lo to hi -/
def sm (lo hi : Nat) (μ μ' : Mm) : Prop := (∀ i : Nat, i < lo ∨ hi ≤ i → (∀ k : Nat, μ'.1 i k = μ.1 i k) ∧ μ'.2.1 i = μ.2.1 i) ∧ μ'.2.2 = μ.2.2
theorem sm.rf {lo hi : Nat} {μ : Mm} : sm lo hi μ μ := ⟨fun _ _ => ⟨fun _ => rfl, rfl⟩, rfl⟩
theorem sm.trans {lo hi : Nat} {μ μ1 μ2 : Mm} (h : sm lo hi μ μ1) (h2 : sm lo hi μ1 μ2) : sm lo hi μ μ2 :=
  ⟨fun i hi => ⟨fun k => ((h2.1 i hi).1 k).trans ((h.1 i hi).1 k), ((h2.1 i hi).2).trans (h.1 i hi).2⟩, h2.2.trans h.2⟩
theorem sm.mono {lo hi lo' hi' : Nat} {μ μ1 : Mm} (h : sm lo hi μ μ1) (h1 : lo' ≤ lo) (h2 : hi ≤ hi') : sm lo' hi' μ μ1 := ⟨fun i hi => h.1 i (by omega), h.2⟩
theorem sm.uF {lo hi i k : Nat} {x : Int32} {μ μ1 : Mm} (h : sm lo hi μ μ1) (h1 : lo ≤ i) (h2 : i < hi) : sm lo hi μ (uF μ1 i k x) :=
  h.trans ⟨fun j hj => ⟨fun k' => uF_n μ1 x (fun q => by omega), rfl⟩, rfl⟩
theorem sm.uR {lo hi i j : Nat} {x : Int32} {μ μ1 : Mm} (h : sm lo hi μ μ1) (h1 : lo ≤ i) (h2 : i < hi) : sm lo hi μ (uR μ1 i j x) :=
  h.trans ⟨fun k hk => ⟨fun _ => rfl, uR_n μ1 j x (fun q => by omega)⟩, rfl⟩
theorem sm.F {lo hi i : Nat} {μ μ1 : Mm} (h : sm lo hi μ μ1) (k : Nat) (hi' : i < lo ∨ hi ≤ i) : μ1.1 i k = μ.1 i k := (h.1 i hi').1 k
theorem sm.R {lo hi i : Nat} {μ μ1 : Mm} (h : sm lo hi μ μ1) (hi' : i < lo ∨ hi ≤ i) : μ1.2.1 i = μ.2.1 i := (h.1 i hi').2
theorem F_uR (μ : Mm) (i j : Nat) (x : Int32) : (uR μ i j x).1 = μ.1 := rfl
theorem R_uF (μ : Mm) (i k : Nat) (x : Int32) : (uF μ i k x).2.1 = μ.2.1 := rfl
theorem upd_s (f : Nat → Int32) (k : Nat) (x : Int32) : upd f k x k = x := pk_us
theorem upd_n (f : Nat → Int32) {k j : Nat} (x : Int32) (h : j ≠ k) : upd f k x j = f j := pk_un h
/-- a set of places that a test picks; how many it picks -/
def setN (f : Nat → Bool) : Nat → Nat
  | 0 => 0
  | k + 1 => if f k then setN f k ||| 2 ^ k else setN f k
def cntN (f : Nat → Bool) : Nat → Nat
  | 0 => 0
  | k + 1 => if f k then cntN f k + 1 else cntN f k
theorem setN_lt (f : Nat → Bool) : ∀ n, setN f n < 2 ^ n := by
  intro n
  induction n with
  | zero => exact Nat.one_pos
  | succ n ih =>
    unfold setN
    have h1 : setN f n < 2 ^ (n + 1) := Nat.lt_of_lt_of_le ih (Nat.pow_le_pow_right (by decide) (by omega))
    by_cases h : f n
    · rw [if_pos h]; exact Nat.or_lt_two_pow h1 (Nat.pow_lt_pow_right (by decide) (by omega))
    · rw [if_neg h]; exact h1
theorem setN_tb (f : Nat → Bool) : ∀ n k, (setN f n).testBit k = (decide (k < n) && f k) := by
  intro n
  induction n with
  | zero => intro k; simp [setN]
  | succ n ih =>
    intro k
    unfold setN
    by_cases h : f n
    · rw [if_pos h, Nat.testBit_or, ih, Nat.testBit_two_pow]
      by_cases hk : n = k
      · subst hk; simp [h]
      · have : (decide (k < n + 1)) = decide (k < n) := by
          apply decide_eq_decide.mpr; omega
        simp [hk, this]
    · rw [if_neg h, ih]
      by_cases hk : n = k
      · subst hk; simp [h]
      · have : (decide (k < n + 1)) = decide (k < n) := by
          apply decide_eq_decide.mpr; omega
        rw [this]
theorem setN_congr {f g : Nat → Bool} : ∀ n, (∀ k, k < n → f k = g k) → setN f n = setN g n := by
  intro n
  induction n with
  | zero => intro _; rfl
  | succ n ih =>
    intro h
    unfold setN
    rw [ih (fun k hk => h k (by omega)), h n (by omega)]
theorem cntN_le (f : Nat → Bool) : ∀ n, cntN f n ≤ n := by
  intro n
  induction n with
  | zero => exact Nat.le_refl _
  | succ n ih => unfold cntN; split <;> omega
theorem cntN_congr {f g : Nat → Bool} : ∀ n, (∀ k, k < n → f k = g k) → cntN f n = cntN g n := by
  intro n
  induction n with
  | zero => intro _; rfl
  | succ n ih =>
    intro h
    unfold cntN
    rw [ih (fun k hk => h k (by omega)), h n (by omega)]
theorem p1024 {n : Nat} (h : n ≤ 10) : 2 ^ n ≤ 1024 := Nat.pow_le_pow_right (by decide) h
theorem p2048 {n : Nat} (h : n ≤ 11) : 2 ^ n ≤ 2048 := Nat.pow_le_pow_right (by decide) h
theorem ppos (n : Nat) : 1 ≤ 2 ^ n := Nat.one_le_two_pow
/-- a sequence in the cells from s on -/
def seqOK (μ : Mm) (s a b n : Nat) (E Q : Nat → Nat) : Prop := μ.1 s 3 = nI n ∧ n ≤ 10 ∧ grpOK μ (s + 1) a b ∧ (∀ k : Nat, k < n → μ.2.1 (s + 2) k = nI (E k) ∧ E k < a * b) ∧ (∀ k : Nat, k < n → μ.2.1 (s + 3) k = nI (Q k) ∧ Q k < 6)
theorem seqOK.n {μ : Mm} {s a b n : Nat} {E Q : Nat → Nat} (h : seqOK μ s a b n E Q) : μ.1 s 3 = nI n := h.1
theorem seqOK.le {μ : Mm} {s a b n : Nat} {E Q : Nat → Nat} (h : seqOK μ s a b n E Q) : n ≤ 10 := h.2.1
theorem seqOK.g {μ : Mm} {s a b n : Nat} {E Q : Nat → Nat} (h : seqOK μ s a b n E Q) : grpOK μ (s + 1) a b := h.2.2.1
theorem seqOK.e {μ : Mm} {s a b n : Nat} {E Q : Nat → Nat} (h : seqOK μ s a b n E Q) {k : Nat} (hk : k < n) : μ.2.1 (s + 2) k = nI (E k) := (h.2.2.2.1 k hk).1
theorem seqOK.el {μ : Mm} {s a b n : Nat} {E Q : Nat → Nat} (h : seqOK μ s a b n E Q) {k : Nat} (hk : k < n) : E k < a * b := (h.2.2.2.1 k hk).2
theorem seqOK.p {μ : Mm} {s a b n : Nat} {E Q : Nat → Nat} (h : seqOK μ s a b n E Q) {k : Nat} (hk : k < n) : μ.2.1 (s + 3) k = nI (Q k) := (h.2.2.2.2 k hk).1
theorem seqOK.pl {μ : Mm} {s a b n : Nat} {E Q : Nat → Nat} (h : seqOK μ s a b n E Q) {k : Nat} (hk : k < n) : Q k < 6 := (h.2.2.2.2 k hk).2
theorem seqOK.same {μ μ' : Mm} {s a b n : Nat} {E Q : Nat → Nat} (h : seqOK μ s a b n E Q) {lo hi : Nat} (hs : sm lo hi μ μ') (hd : s + 4 ≤ lo ∨ hi ≤ s) : seqOK μ' s a b n E Q := by
  obtain ⟨h1, h2, ⟨h3, h4, h5⟩, h6, h7⟩ := h
  refine ⟨by rw [hs.F 3 (by omega)]; exact h1, h2, ⟨by rw [hs.F 0 (by omega)]; exact h3, by rw [hs.F 1 (by omega)]; exact h4, h5⟩, ?_, ?_⟩
  · rw [hs.R (by omega)]; exact h6
  · rw [hs.R (by omega)]; exact h7
