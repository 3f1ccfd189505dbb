theorem wb_tb (n : Nat) : (lN n).toBitVec = BitVec.ofNat 64 n := rfl
theorem wb_inj {a b : Int64} (h : a.toBitVec = b.toBitVec) : a = b := Int64.toBitVec_inj.mp h
theorem wb_c : ∀ k, k < 64 → ((nI k).toInt64 &&& 63) = lN k := by decide +kernel
theorem wb_sm : ∀ k, k < 64 → (BitVec.ofNat 64 k).smod 64 = BitVec.ofNat 64 k := by decide +kernel
theorem wb_shl (n : Nat) {k : Nat} (hk : k < 64) : lN n <<< ((nI k).toInt64 &&& 63) = lN (n * 2 ^ k) := by
  rw [wb_c k hk]
  apply wb_inj
  rw [Int64.toBitVec_shiftLeft, wb_tb, wb_tb, wb_tb, wb_sm k hk]
  apply BitVec.eq_of_toNat_eq
  rw [BitVec.shiftLeft_eq', BitVec.toNat_shiftLeft, BitVec.toNat_ofNat, BitVec.toNat_ofNat, BitVec.toNat_ofNat, Nat.mod_eq_of_lt (show k < 2 ^ 64 by omega), Nat.shiftLeft_eq, Nat.mul_mod, Nat.mod_mod, ← Nat.mul_mod]
theorem lN_and (a b : Nat) : lN a &&& lN b = lN (a &&& b) := by
  apply wb_inj
  apply BitVec.eq_of_toNat_eq
  simp [lN, Int64.toBitVec_and]
theorem lN_or (a b : Nat) : lN a ||| lN b = lN (a ||| b) := by
  apply wb_inj
  apply BitVec.eq_of_toNat_eq
  simp [lN, Int64.toBitVec_or]
theorem pf_lI {a : Nat} (h : a < 2 ^ 63) : (lN a).toInt = (a : Int) := lg_ofNat_toInt h
theorem pf_shr {a d : Nat} {D : Int64} (hD : (D.toBitVec.smod 64).toNat = d) (h : a < 2 ^ 62) : lN a >>> D = lN (a / 2 ^ d) := by
  have hd : a / 2 ^ d ≤ a := Nat.div_le_self _ _
  apply Int64.toInt_inj.mp
  have e : (lN a >>> D).toInt = (lN a).toInt >>> d := by
    rw [← hD]
    exact BitVec.toInt_sshiftRight ..
  rw [e, Int.shiftRight_eq_div_pow, pf_lI (by omega), pf_lI (by omega)]
  rfl
theorem wb_shr {a k : Nat} (hk : k < 64) (h : a < 2 ^ 62) : lN a >>> ((nI k).toInt64 &&& 63) = lN (a / 2 ^ k) := by
  rw [wb_c k hk]
  exact pf_shr (by rw [wb_tb, show ((64 : BitVec 64)) = 64 from rfl, wb_sm k hk]; simp; omega) h
theorem s_l : ∀ n, n < 32 → ((nI n &&& 31).toBitVec.smod 32).toNat = n := by decide +kernel
theorem nI_shl {a k : Nat} (hk : k < 32) (h : a * 2 ^ k < 2 ^ 32) : nI a <<< (nI k &&& 31) = nI (a * 2 ^ k) := pk_shlN _ k (s_l k hk) h
theorem nI_shr {a k : Nat} (hk : k < 32) (h : a < 2 ^ 31) : nI a >>> (nI k &&& 31) = nI (a / 2 ^ k) := pk_shrN h _ k (s_l k hk)
theorem tb_div (n k : Nat) : (n / 2 ^ k &&& 1 = 1 ↔ n.testBit k = true) ∧ (n / 2 ^ k &&& 1 = 0 ↔ n.testBit k = false) := by
  rw [Nat.testBit_eq_decide_div_mod_eq]
  have h := Nat.and_one_is_mod (n / 2 ^ k)
  rw [h]
  have h2 := Nat.mod_two_eq_zero_or_one (n / 2 ^ k)
  constructor
  · simp
  · simp
theorem tb_and1 (n k : Nat) : n / 2 ^ k &&& 1 = (n.testBit k).toNat := by
  cases h : n.testBit k with
  | true => exact (tb_div n k).1.mpr h
  | false => exact (tb_div n k).2.mpr h
theorem lN_inj {a b : Nat} (ha : a < 2 ^ 63) (hb : b < 2 ^ 63) : lN a = lN b ↔ a = b := pk_lEQ ha hb
section ZL
variable {G : Gt} {d : Nat} {Y : YC} {F : Fn} {pc : Nat} {lv : List (Nat × Value)} {st : List Value} {μ : Mm}
theorem z_ishlN {a k : Nat} (hdg : decode Y.2.1 pc = .ok (.ishl, 1)) (hk : k < 32) (h : a * 2 ^ k < 2 ^ 32) (kk : Zs G d Y F (pc + 1) lv (.int (nI (a * 2 ^ k)) :: st) μ) : Zs G d Y F pc lv (.int (nI k) :: .int (nI a) :: st) μ := z_ishl hdg (by rw [nI_shl hk h]; exact kk)
theorem z_ishrN {a k : Nat} (hdg : decode Y.2.1 pc = .ok (.ishr, 1)) (hk : k < 32) (h : a < 2 ^ 31) (kk : Zs G d Y F (pc + 1) lv (.int (nI (a / 2 ^ k)) :: st) μ) : Zs G d Y F pc lv (.int (nI k) :: .int (nI a) :: st) μ := z_ishr hdg (by rw [nI_shr hk h]; exact kk)
theorem z_lshlN {a k : Nat} (hdg : decode Y.2.1 pc = .ok (.lshl, 1)) (hk : k < 64) (kk : Zs G d Y F (pc + 1) lv (.long (lN (a * 2 ^ k)) :: st) μ) : Zs G d Y F pc lv (.int (nI k) :: .long (lN a) :: st) μ := z_lshl hdg (wb_shl a hk) kk
theorem z_lshrN {a k : Nat} (hdg : decode Y.2.1 pc = .ok (.lshr, 1)) (hk : k < 64) (h : a < 2 ^ 62) (kk : Zs G d Y F (pc + 1) lv (.long (lN (a / 2 ^ k)) :: st) μ) : Zs G d Y F pc lv (.int (nI k) :: .long (lN a) :: st) μ := z_lshr hdg (wb_shr hk h) kk
theorem z_lorN {a b : Nat} (hdg : decode Y.2.1 pc = .ok (.lor, 1)) (kk : Zs G d Y F (pc + 1) lv (.long (lN (a ||| b)) :: st) μ) : Zs G d Y F pc lv (.long (lN b) :: .long (lN a) :: st) μ := z_lor hdg (by rw [lN_or]; exact kk)
theorem z_landN {a b : Nat} (hdg : decode Y.2.1 pc = .ok (.land, 1)) (kk : Zs G d Y F (pc + 1) lv (.long (lN (a &&& b)) :: st) μ) : Zs G d Y F pc lv (.long (lN b) :: .long (lN a) :: st) μ := z_land hdg (by rw [lN_and]; exact kk)
theorem z_i2lN {a : Nat} (hdg : decode Y.2.1 pc = .ok (.i2l, 1)) (h : a < 2 ^ 31) (kk : Zs G d Y F (pc + 1) lv (.long (lN a) :: st) μ) : Zs G d Y F pc lv (.int (nI a) :: st) μ := z_i2l hdg (nI_l h) kk
theorem z_l2iN {a : Nat} (hdg : decode Y.2.1 pc = .ok (.l2i, 1)) (kk : Zs G d Y F (pc + 1) lv (.int (nI a) :: st) μ) : Zs G d Y F pc lv (.long (lN a) :: st) μ := z_l2i hdg (lN_i a) kk
/-- lcmp and the branch behind it -/
theorem z_lc_eq {x y : Int64} {off : Int} {tgt : Nat} (h1 : decode Y.2.1 pc = .ok (.lcmp, 1)) (h2 : decode Y.2.1 (pc + 1) = .ok (.ifCond .eq off, 3)) (ht : ((pc + 1 : Nat) : Int) + off = (tgt : Int)) (kt : x = y → Zs G d Y F tgt lv st μ) (kf : x ≠ y → Zs G d Y F (pc + 4) lv st μ) : Zs G d Y F pc lv (.long y :: .long x :: st) μ :=
  z_lcmp h1 (z_if_eq h2 ht (fun h => kt ((lg_cmp_eq x y).mp h)) (fun h => kf (fun q => h ((lg_cmp_eq x y).mpr q))))
theorem z_lc_ne {x y : Int64} {off : Int} {tgt : Nat} (h1 : decode Y.2.1 pc = .ok (.lcmp, 1)) (h2 : decode Y.2.1 (pc + 1) = .ok (.ifCond .ne off, 3)) (ht : ((pc + 1 : Nat) : Int) + off = (tgt : Int)) (kt : x ≠ y → Zs G d Y F tgt lv st μ) (kf : x = y → Zs G d Y F (pc + 4) lv st μ) : Zs G d Y F pc lv (.long y :: .long x :: st) μ :=
  z_lcmp h1 (z_if_ne h2 ht (fun h => kt (fun q => h ((lg_cmp_eq x y).mpr q))) (fun h => kf ((lg_cmp_eq x y).mp h)))
theorem z_lcN_eq {a b : Nat} {off : Int} {tgt : Nat} (h1 : decode Y.2.1 pc = .ok (.lcmp, 1)) (h2 : decode Y.2.1 (pc + 1) = .ok (.ifCond .eq off, 3)) (ht : ((pc + 1 : Nat) : Int) + off = (tgt : Int)) (ha : a < 2 ^ 63) (hb : b < 2 ^ 63) (kt : a = b → Zs G d Y F tgt lv st μ) (kf : a ≠ b → Zs G d Y F (pc + 4) lv st μ) : Zs G d Y F pc lv (.long (lN b) :: .long (lN a) :: st) μ :=
  z_lc_eq h1 h2 ht (fun h => kt ((lN_inj ha hb).mp h)) (fun h => kf (fun q => h ((lN_inj ha hb).mpr q)))
theorem z_lcN_ne {a b : Nat} {off : Int} {tgt : Nat} (h1 : decode Y.2.1 pc = .ok (.lcmp, 1)) (h2 : decode Y.2.1 (pc + 1) = .ok (.ifCond .ne off, 3)) (ht : ((pc + 1 : Nat) : Int) + off = (tgt : Int)) (ha : a < 2 ^ 63) (hb : b < 2 ^ 63) (kt : a ≠ b → Zs G d Y F tgt lv st μ) (kf : a = b → Zs G d Y F (pc + 4) lv st μ) : Zs G d Y F pc lv (.long (lN b) :: .long (lN a) :: st) μ :=
  z_lc_ne h1 h2 ht (fun h => kt (fun q => h ((lN_inj ha hb).mpr q))) (fun h => kf ((lN_inj ha hb).mp h))
theorem z_ldcw {idx : Nat} {v : Int32} (hdg : decode Y.2.1 pc = .ok (.ldc_w idx, 3)) (hc : Cond.constant Y.1.cls idx v ∈ tbG) (k : Zs G d Y F (pc + 3) lv (.int v :: st) μ) : Zs G d Y F pc lv st μ := fun p e s m args below meth c H locs ls E hP hD hS hl => lv_ldcw E.x E.b E.o (E.t _ hc) hdg (k p e s m args below meth c H locs ls E hP hD hS hl)
end ZL
/-- is an int a number below n -/
def inR (e : Int32) (n : Nat) : Bool := decide (0 ≤ e.toInt ∧ e.toInt < n)
theorem inR_neg {e : Int32} {n : Nat} (h : e < 0) : inR e n = false := by
  have h2 := Int32.lt_iff_toInt_lt.mp h
  rw [Int32.toInt_zero] at h2
  unfold inR
  simp
  omega
theorem inR_N {x n : Nat} (h : x < 2 ^ 31) : inR (nI x) n = decide (x < n) := by
  unfold inR
  rw [nI_toInt h]
  simp
theorem inR_cases (e : Int32) (n : Nat) (hn : n < 2 ^ 31) : (inR e n = true ∧ ∃ x, x < n ∧ e = nI x) ∨ inR e n = false := by
  cases h : inR e n with
  | false => exact Or.inr rfl
  | true =>
    refine Or.inl ⟨rfl, e.toInt.toNat, ?_⟩
    unfold inR at h
    simp at h
    refine ⟨by omega, ?_⟩
    apply Int32.toInt_inj.mp
    rw [nI_toInt (by omega)]
    omega
