theorem ev_ofF {G : Gt} {d : Nat} {Y : YC} {vs : List Value} {μ : Mm} {P : Option Value → Mm → Prop} (hy : plainFor Y.1 = true) (hle : (lg_sl vs).length ≤ Y.2.2.1) (h : Zs G d Y (fnN G P) 0 (lv_args 0 vs) [] μ) : EV G d Y vs μ P := by
  intro sz
  refine va_MetF (cc := Y.2.1) (maxL := Y.2.2.1) (ret := Y.2.2.2) hy rfl ?_
  intro p e s m args below meth c s₁ B hml hv
  obtain ⟨rfl, hsz, hP, hK, hD0, hC⟩ := hv
  subst hsz
  have hl := lv_entry vs (n := Y.2.2.1) hle
  rw [lg_entry_eq]
  have hts := atoms_spec (ws := wsY Y) B.pre
  exact h p e s m vs.toArray below meth c s.heap [] _ ⟨B.exec, B.bytes, hml, B.returns, B.notSynchronized, findClass_of_methodNamed B.named, fun w hw => hts w (List.mem_cons_of_mem _ hw), hK, hC⟩ hP (wl_DA hD0) va_S.rf hl
set_option maxRecDepth 100000 in
theorem ev_J9_max_7cf53 (G : Gt) {x y : Nat} {μ : Mm} (hx : x < 2 ^ 31) (hy : y < 2 ^ 31) : EVr G 0 Y_J9_max_7cf53 [.int (nI x), .int (nI y)] μ (.int (nI (max x y))) := by
  refine ev_ofF (by decide +kernel) (Nat.le_of_ble_eq_true rfl) ?_
  show Zs G 0 Y_J9_max_7cf53 (fnN G _) 0 [(0, .int (nI x)), (1, .int (nI y))] [] μ
  refine z_iload_n dJ9_max_7cf53_0 rfl ?_
  refine z_iload_n dJ9_max_7cf53_1 rfl ?_
  refine z_icmpN_lt (tgt := 9) dJ9_max_7cf53_2 (by decide) (by omega) (by omega) (fun c2 => ?_) (fun c2 => ?_)
  · refine z_iload_n dJ9_max_7cf53_9 rfl ?_
    exact z_ret (ty := none) (v := none) rfl dJ9_max_7cf53_10 ⟨by rw [Nat.max_eq_right (by omega)], rfl⟩
  · refine z_iload_n dJ9_max_7cf53_5 rfl ?_
    refine z_goto (tgt := 10) dJ9_max_7cf53_6 (by decide) ?_
    exact z_ret (ty := none) (v := none) rfl dJ9_max_7cf53_10 ⟨by rw [Nat.max_eq_left (by omega)], rfl⟩
set_option maxRecDepth 100000 in
theorem ev_J9_min_7cf53 (G : Gt) {x y : Nat} {μ : Mm} (hx : x < 2 ^ 31) (hy : y < 2 ^ 31) : EVr G 0 Y_J9_min_7cf53 [.int (nI x), .int (nI y)] μ (.int (nI (min x y))) := by
  refine ev_ofF (by decide +kernel) (Nat.le_of_ble_eq_true rfl) ?_
  show Zs G 0 Y_J9_min_7cf53 (fnN G _) 0 [(0, .int (nI x)), (1, .int (nI y))] [] μ
  refine z_iload_n dJ9_min_7cf53_0 rfl ?_
  refine z_iload_n dJ9_min_7cf53_1 rfl ?_
  refine z_icmpN_gt (tgt := 9) dJ9_min_7cf53_2 (by decide) (by omega) (by omega) (fun c2 => ?_) (fun c2 => ?_)
  · refine z_iload_n dJ9_min_7cf53_9 rfl ?_
    exact z_ret (ty := none) (v := none) rfl dJ9_min_7cf53_10 ⟨by rw [Nat.min_eq_right (by omega)], rfl⟩
  · refine z_iload_n dJ9_min_7cf53_5 rfl ?_
    refine z_goto (tgt := 10) dJ9_min_7cf53_6 (by decide) ?_
    exact z_ret (ty := none) (v := none) rfl dJ9_min_7cf53_10 ⟨by rw [Nat.min_eq_left (by omega)], rfl⟩
/-- how many places a set has -/
def pcN (S : Nat) : Nat := cntN S.testBit 11
theorem pcN_le (S : Nat) : pcN S ≤ 11 := cntN_le _ _
def bc1 (x : Int32) : Int32 := x - ((x.toUInt32 >>> ((nI 1).toUInt32 &&& Int32.toUInt32 31)).toInt32 &&& 1431655765)
def bc2 (x : Int32) : Int32 := (x &&& 858993459) + ((x.toUInt32 >>> ((nI 2).toUInt32 &&& Int32.toUInt32 31)).toInt32 &&& 858993459)
def bc3 (x : Int32) : Int32 := (x + (x.toUInt32 >>> ((nI 4).toUInt32 &&& Int32.toUInt32 31)).toInt32) &&& 252645135
def bc4 (x : Int32) : Int32 := x + (x.toUInt32 >>> ((nI 8).toUInt32 &&& Int32.toUInt32 31)).toInt32
def bc5 (x : Int32) : Int32 := x + (x.toUInt32 >>> ((nI 16).toUInt32 &&& Int32.toUInt32 31)).toInt32
theorem bc_all : ∀ S, S < 1024 → bc5 (bc4 (bc3 (bc2 (bc1 (nI S))))) &&& nI 63 = nI (pcN S) := by decide +kernel
set_option maxRecDepth 100000 in
theorem ev_J6_bitCount_0f7a4 (G : Gt) {S : Nat} {μ : Mm} (hS : S < 1024) : EVr G 0 Y_J6_bitCount_0f7a4 [.int (nI S)] μ (.int (nI (pcN S))) := by
  refine ev_ofF (by decide +kernel) (Nat.le_of_ble_eq_true rfl) ?_
  show Zs G 0 Y_J6_bitCount_0f7a4 (fnN G _) 0 [(0, .int (nI S))] [] μ
  refine z_iload_n dJ6_bitCount_0f7a4_0 rfl ?_
  refine z_iload_n dJ6_bitCount_0f7a4_1 rfl ?_
  refine z_iconst (v := nI 1) dJ6_bitCount_0f7a4_2 (by decide) ?_
  refine z_iushr dJ6_bitCount_0f7a4_3 rfl ?_
  refine z_ldcw (v := 1431655765) dJ6_bitCount_0f7a4_4 (tb_at 598 (by decide +kernel) rfl) ?_
  refine z_iand dJ6_bitCount_0f7a4_7 ?_
  refine z_isub dJ6_bitCount_0f7a4_8 ?_
  refine z_istore_n (lv' := [(0, _)]) dJ6_bitCount_0f7a4_9 rfl (by decide) rfl ?_
  refine z_iload_n dJ6_bitCount_0f7a4_10 rfl ?_
  refine z_ldcw (v := 858993459) dJ6_bitCount_0f7a4_11 (tb_at 599 (by decide +kernel) rfl) ?_
  refine z_iand dJ6_bitCount_0f7a4_14 ?_
  refine z_iload_n dJ6_bitCount_0f7a4_15 rfl ?_
  refine z_iconst (v := nI 2) dJ6_bitCount_0f7a4_16 (by decide) ?_
  refine z_iushr dJ6_bitCount_0f7a4_17 rfl ?_
  refine z_ldcw (v := 858993459) dJ6_bitCount_0f7a4_18 (tb_at 599 (by decide +kernel) rfl) ?_
  refine z_iand dJ6_bitCount_0f7a4_21 ?_
  refine z_iadd dJ6_bitCount_0f7a4_22 ?_
  refine z_istore_n (lv' := [(0, _)]) dJ6_bitCount_0f7a4_23 rfl (by decide) rfl ?_
  refine z_iload_n dJ6_bitCount_0f7a4_24 rfl ?_
  refine z_iload_n dJ6_bitCount_0f7a4_25 rfl ?_
  refine z_iconst (v := nI 4) dJ6_bitCount_0f7a4_26 (by decide) ?_
  refine z_iushr dJ6_bitCount_0f7a4_27 rfl ?_
  refine z_iadd dJ6_bitCount_0f7a4_28 ?_
  refine z_ldcw (v := 252645135) dJ6_bitCount_0f7a4_29 (tb_at 600 (by decide +kernel) rfl) ?_
  refine z_iand dJ6_bitCount_0f7a4_32 ?_
  refine z_istore_n (lv' := [(0, _)]) dJ6_bitCount_0f7a4_33 rfl (by decide) rfl ?_
  refine z_iload_n dJ6_bitCount_0f7a4_34 rfl ?_
  refine z_iload_n dJ6_bitCount_0f7a4_35 rfl ?_
  refine z_bipush (v := nI 8) dJ6_bitCount_0f7a4_36 (by decide) ?_
  refine z_iushr dJ6_bitCount_0f7a4_38 rfl ?_
  refine z_iadd dJ6_bitCount_0f7a4_39 ?_
  refine z_istore_n (lv' := [(0, _)]) dJ6_bitCount_0f7a4_40 rfl (by decide) rfl ?_
  refine z_iload_n dJ6_bitCount_0f7a4_41 rfl ?_
  refine z_iload_n dJ6_bitCount_0f7a4_42 rfl ?_
  refine z_bipush (v := nI 16) dJ6_bitCount_0f7a4_43 (by decide) ?_
  refine z_iushr dJ6_bitCount_0f7a4_45 rfl ?_
  refine z_iadd dJ6_bitCount_0f7a4_46 ?_
  refine z_istore_n (lv' := [(0, _)]) dJ6_bitCount_0f7a4_47 rfl (by decide) rfl ?_
  refine z_iload_n dJ6_bitCount_0f7a4_48 rfl ?_
  refine z_bipush (v := nI 63) dJ6_bitCount_0f7a4_49 (by decide) ?_
  refine z_iand dJ6_bitCount_0f7a4_51 ?_
  exact z_ret (ty := none) (v := none) rfl dJ6_bitCount_0f7a4_52 ⟨by rw [← bc_all S hS]; rfl, rfl⟩
/-- the bits of a long, eight at a time -/
def m5 : Nat → Nat
  | 0 => 0
  | j + 1 => 85 + 256 * m5 j
def m3 : Nat → Nat
  | 0 => 0
  | j + 1 => 51 + 256 * m3 j
def mf : Nat → Nat
  | 0 => 0
  | j + 1 => 15 + 256 * mf j
def f1 (j x : Nat) : Nat := x - (x / 2 &&& m5 j)
def f2 (j x : Nat) : Nat := (x &&& m3 j) + (x / 4 &&& m3 j)
def f3 (j x : Nat) : Nat := (x + x / 16) &&& mf j
theorem and_split {v m : Nat} (y k : Nat) (hv : v < 256) (hm : m < 256) : (v + 256 * y) &&& (m + 256 * k) = (v &&& m) + 256 * (y &&& k) := by
  have h1 : ((v + 256 * y) &&& (m + 256 * k)) % 2 ^ 8 = (v &&& m) := by
    rw [Nat.and_mod_two_pow, show (v + 256 * y) % 2 ^ 8 = v by omega, show (m + 256 * k) % 2 ^ 8 = m by omega]
  have h2 : ((v + 256 * y) &&& (m + 256 * k)) / 2 ^ 8 = (y &&& k) := by
    rw [← Nat.shiftRight_eq_div_pow, Nat.shiftRight_and_distrib, Nat.shiftRight_eq_div_pow, Nat.shiftRight_eq_div_pow, show (v + 256 * y) / 2 ^ 8 = y by omega, show (m + 256 * k) / 2 ^ 8 = k by omega]
  omega
theorem f1_le (j x : Nat) : x / 2 &&& m5 j ≤ x := Nat.le_trans Nat.and_le_left (Nat.div_le_self _ _)
theorem f1_d : ∀ v, v < 256 → ∀ t, t < 2 → (v / 2 + 128 * t) &&& 85 = v / 2 &&& 85 := by decide +kernel
theorem f2_d : ∀ v, v < 256 → ∀ t, t < 4 → (v / 4 + 64 * t) &&& 51 = v / 4 &&& 51 := by decide +kernel
theorem f1_s {v : Nat} (j y : Nat) (hv : v < 256) : f1 (j + 1) (v + 256 * y) = f1 1 v + 256 * f1 j y := by
  have e : (v + 256 * y) / 2 = (v / 2 + 128 * (y % 2)) + 256 * (y / 2) := by omega
  have h1 := and_split (v := v / 2 + 128 * (y % 2)) (m := 85) (y / 2) (m5 j) (by omega) (by decide)
  have h2 := f1_le j y
  have h3 := f1_le 1 v
  have h4 := f1_d v hv (y % 2) (by omega)
  have h5 : m5 1 = 85 := rfl
  have h6 : m5 (j + 1) = 85 + 256 * m5 j := rfl
  unfold f1
  rw [e, h6, h1, h4]
  rw [h5] at h3 ⊢
  omega
theorem f2_s {v : Nat} (j y : Nat) (hv : v < 256) : f2 (j + 1) (v + 256 * y) = f2 1 v + 256 * f2 j y := by
  have e : (v + 256 * y) / 4 = (v / 4 + 64 * (y % 4)) + 256 * (y / 4) := by omega
  have h1 := and_split (v := v / 4 + 64 * (y % 4)) (m := 51) (y / 4) (m3 j) (by omega) (by decide)
  have h0 := and_split (v := v) (m := 51) y (m3 j) hv (by decide)
  have h4 := f2_d v hv (y % 4) (by omega)
  have h5 : m3 1 = 51 := rfl
  have h6 : m3 (j + 1) = 51 + 256 * m3 j := rfl
  unfold f2
  rw [e, h6, h1, h0, h4, h5]
  omega
theorem f12_d : ∀ v, v < 256 → f1 1 v < 256 ∧ f2 1 (f1 1 v) ≤ 68 ∧ f2 1 (f1 1 v) % 16 ≤ 4 ∧ f3 1 (f2 1 (f1 1 v)) = cntN v.testBit 8 := by decide +kernel
theorem f12_lo (j : Nat) : ∀ x, f2 j (f1 j x) % 16 ≤ 4 := by
  intro x
  cases j with
  | zero => unfold f2; simp [m3]
  | succ j =>
    have hv : x % 256 < 256 := Nat.mod_lt _ (by decide)
    have h := f12_d (x % 256) hv
    rw [show x = x % 256 + 256 * (x / 256) by omega, f1_s j _ hv, f2_s j _ h.1]
    omega
theorem bcG_s {v : Nat} (j y : Nat) (hv : v < 256) : f3 (j + 1) (f2 (j + 1) (f1 (j + 1) (v + 256 * y))) = cntN v.testBit 8 + 256 * f3 j (f2 j (f1 j y)) := by
  have h := f12_d v hv
  rw [f1_s j y hv, f2_s j _ h.1, ← h.2.2.2]
  have hl := f12_lo j y
  generalize f2 1 (f1 1 v) = w at h
  generalize f2 j (f1 j y) = z at hl
  have e : (w + 256 * z) + (w + 256 * z) / 16 = (w + w / 16 + 16 * (z % 16)) + 256 * (z + z / 16) := by omega
  have h1 := and_split (v := w + w / 16 + 16 * (z % 16)) (m := 15) (z + z / 16) (mf j) (by omega) (by decide)
  have h6 : mf (j + 1) = 15 + 256 * mf j := rfl
  have h5 : mf 1 = 15 := rfl
  unfold f3
  rw [e, h6, h1, h5]
  have e1 : ∀ q : Nat, q &&& 15 = q % 16 := fun q => Nat.and_two_pow_sub_one_eq_mod q 4
  rw [e1, e1]
  omega
theorem cntN_add (f : Nat → Bool) (m : Nat) : ∀ n, cntN f (m + n) = cntN f m + cntN (fun k => f (m + k)) n := by
  intro n
  induction n with
  | zero => rfl
  | succ n ih =>
    have e1 : cntN f (m + (n + 1)) = if f (m + n) then cntN f (m + n) + 1 else cntN f (m + n) := rfl
    have e2 : cntN (fun k => f (m + k)) (n + 1) = if f (m + n) then cntN (fun k => f (m + k)) n + 1 else cntN (fun k => f (m + k)) n := rfl
    rw [e1, e2, ih]
    by_cases h : f (m + n)
    · rw [if_pos h, if_pos h]; omega
    · rw [if_neg h, if_neg h]
theorem tb_hi {v : Nat} (y k : Nat) (hv : v < 256) : (v + 256 * y).testBit (8 + k) = y.testBit k := by
  have e : (v + 256 * y) / 2 ^ 8 = y := by omega
  have h : ((v + 256 * y) / 2 ^ 8).testBit k = (v + 256 * y).testBit (8 + k) := by rw [Nat.testBit_div_two_pow, Nat.add_comm k 8]
  rw [e] at h
  exact h.symm
theorem tb_lo {v : Nat} (y : Nat) (hv : v < 256) {k : Nat} (hk : k < 8) : (v + 256 * y).testBit k = v.testBit k := by
  have e : (v + 256 * y) % 2 ^ 8 = v := by omega
  have h := Nat.testBit_mod_two_pow (v + 256 * y) 8 k
  rw [e] at h
  rw [h]; simp [hk]
theorem cnt_byte {v : Nat} (y n : Nat) (hv : v < 256) : cntN (v + 256 * y).testBit (8 + n) = cntN v.testBit 8 + cntN y.testBit n := by
  rw [cntN_add]
  rw [cntN_congr 8 (fun k hk => tb_lo y hv hk), cntN_congr (f := fun k => (v + 256 * y).testBit (8 + k)) n (fun k _ => tb_hi y k hv)]
def bcL (S : Nat) : Nat := f3 8 (f2 8 (f1 8 S))
theorem bcL_eq {S : Nat} (h : S < 2 ^ 40) : ∃ b0 b1 b2 b3 b4 : Nat, b0 ≤ 8 ∧ b1 ≤ 8 ∧ b2 ≤ 8 ∧ b3 ≤ 8 ∧ b4 ≤ 8 ∧ bcL S = b0 + 256 * (b1 + 256 * (b2 + 256 * (b3 + 256 * b4))) ∧ cntN S.testBit 40 = b0 + b1 + b2 + b3 + b4 := by
  obtain ⟨v0, y0, rfl, h0⟩ : ∃ v y, S = v + 256 * y ∧ v < 256 := ⟨S % 256, S / 256, by omega, by omega⟩
  obtain ⟨v1, y1, rfl, h1⟩ : ∃ v y, y0 = v + 256 * y ∧ v < 256 := ⟨y0 % 256, y0 / 256, by omega, by omega⟩
  obtain ⟨v2, y2, rfl, h2⟩ : ∃ v y, y1 = v + 256 * y ∧ v < 256 := ⟨y1 % 256, y1 / 256, by omega, by omega⟩
  obtain ⟨v3, v4, rfl, h3⟩ : ∃ v y, y2 = v + 256 * y ∧ v < 256 := ⟨y2 % 256, y2 / 256, by omega, by omega⟩
  have h4 : v4 < 256 := by omega
  have hz : v4 = v4 + 256 * 0 := by omega
  refine ⟨cntN v0.testBit 8, cntN v1.testBit 8, cntN v2.testBit 8, cntN v3.testBit 8, cntN v4.testBit 8, cntN_le _ _, cntN_le _ _, cntN_le _ _, cntN_le _ _, cntN_le _ _, ?_, ?_⟩
  · unfold bcL
    rw [bcG_s 7 _ h0, bcG_s 6 _ h1, bcG_s 5 _ h2, bcG_s 4 _ h3]
    have e := bcG_s 3 0 h4
    rw [← hz] at e
    rw [e]
    have e0 : f3 3 (f2 3 (f1 3 0)) = 0 := by decide
    rw [e0]
    omega
  · rw [show 40 = 8 + (8 + (8 + (8 + 8))) from rfl, cnt_byte _ _ h0, cnt_byte _ _ h1, cnt_byte _ _ h2, cnt_byte _ _ h3]
    omega
theorem m5_8 : m5 8 = 6148914691236517205 := rfl
theorem m3_8 : m3 8 = 3689348814741910323 := rfl
theorem mf_8 : mf 8 = 1085102592571150095 := rfl
theorem wb_cu : ∀ k, k < 64 → ((nI k).toInt64.toUInt64 &&& Int64.toUInt64 63) = UInt64.ofNat k := by decide +kernel
theorem lN_ushr {n k : Nat} (hn : n < 2 ^ 64) (hk : k < 64) : ((lN n).toUInt64 >>> ((nI k).toInt64.toUInt64 &&& Int64.toUInt64 63)).toInt64 = lN (n / 2 ^ k) := by
  rw [wb_cu k hk]
  apply wb_inj
  apply BitVec.eq_of_toNat_eq
  have e : (lN n).toUInt64.toNat = n := by
    show (BitVec.ofNat 64 n).toNat = n
    rw [BitVec.toNat_ofNat, Nat.mod_eq_of_lt hn]
  have hd : n / 2 ^ k ≤ n := Nat.div_le_self _ _
  show ((lN n).toUInt64 >>> UInt64.ofNat k).toNat = (BitVec.ofNat 64 (n / 2 ^ k)).toNat
  rw [UInt64.toNat_shiftRight, e, BitVec.toNat_ofNat, Nat.mod_eq_of_lt (show n / 2 ^ k < 2 ^ 64 by omega)]
  have e2 : (UInt64.ofNat k).toNat % 64 = k := by
    show (BitVec.ofNat 64 k).toNat % 64 = k
    rw [BitVec.toNat_ofNat]; omega
  rw [e2, Nat.shiftRight_eq_div_pow]
section ZU
variable {G : Gt} {d : Nat} {Y : YC} {F : Fn} {pc : Nat} {lv : List (Nat × Value)} {st : List Value} {μ : Mm}
theorem z_lushrN {a k : Nat} (hdg : decode Y.2.1 pc = .ok (.lushr, 1)) (hk : k < 64) (h : a < 2 ^ 64) (kk : Zs G d Y F (pc + 1) lv (.long (lN (a / 2 ^ k)) :: st) μ) : Zs G d Y F pc lv (.int (nI k) :: .long (lN a) :: st) μ := z_lushr hdg (lN_ushr h hk) kk
theorem z_laddN {a b : Nat} (hdg : decode Y.2.1 pc = .ok (.ladd, 1)) (kk : Zs G d Y F (pc + 1) lv (.long (lN (a + b)) :: st) μ) : Zs G d Y F pc lv (.long (lN b) :: .long (lN a) :: st) μ := z_ladd hdg (by rw [lN_add]; exact kk)
theorem z_lsubN {a b : Nat} (hdg : decode Y.2.1 pc = .ok (.lsub, 1)) (h : b ≤ a) (kk : Zs G d Y F (pc + 1) lv (.long (lN (a - b)) :: st) μ) : Zs G d Y F pc lv (.long (lN b) :: .long (lN a) :: st) μ := z_lsub hdg (by rw [lN_sub h]; exact kk)
theorem z_ldc2N {idx n : Nat} {v : Int64} (hdg : decode Y.2.1 pc = .ok (.ldc2_w idx, 3)) (hc : Cond.constantLong Y.1.cls idx v ∈ tbG) (hv : v = lN n) (k : Zs G d Y F (pc + 3) lv (.long (lN n) :: st) μ) : Zs G d Y F pc lv st μ := z_ldc2 hdg hc (by rw [hv]; exact k)
end ZU
set_option maxRecDepth 100000 in
theorem ev_J13_bitCount_95d88 (G : Gt) {S : Nat} {μ : Mm} (hS : S < 2 ^ 36) : EVr G 0 Y_J13_bitCount_95d88 [.long (lN S)] μ (.int (nI (cntN S.testBit 36))) := by
  refine ev_ofF (by decide +kernel) (Nat.le_of_ble_eq_true rfl) ?_
  show Zs G 0 Y_J13_bitCount_95d88 (fnN G _) 0 [(0, .long (lN S))] [] μ
  obtain ⟨b0, b1, b2, b3, b4, g0, g1, g2, g3, g4, hb, hc⟩ := bcL_eq (S := S) (by omega)
  refine z_lload_n dJ13_bitCount_95d88_0 rfl ?_
  refine z_lload_n dJ13_bitCount_95d88_1 rfl ?_
  refine z_iconst (v := nI 1) dJ13_bitCount_95d88_2 (by decide) ?_
  refine z_lushrN dJ13_bitCount_95d88_3 (by omega) (by omega) ?_
  refine z_ldc2N (n := 6148914691236517205) dJ13_bitCount_95d88_4 (tb_at 627 (by decide +kernel) rfl) rfl ?_
  refine z_landN dJ13_bitCount_95d88_7 ?_
  refine z_lsubN dJ13_bitCount_95d88_8 (Nat.le_trans Nat.and_le_left (Nat.div_le_self _ _)) ?_
  rw [show S - (S / 2 ^ 1 &&& 6148914691236517205) = f1 8 S from rfl]
  have k1 : f1 8 S ≤ S := Nat.sub_le _ _
  obtain ⟨x1, hx1⟩ : ∃ x, x = f1 8 S := ⟨_, rfl⟩
  rw [← hx1] at k1 ⊢
  refine z_lstore_n (lv' := [(0, _)]) dJ13_bitCount_95d88_9 rfl (by decide) rfl ?_
  refine z_lload_n dJ13_bitCount_95d88_10 rfl ?_
  refine z_ldc2N (n := 3689348814741910323) dJ13_bitCount_95d88_11 (tb_at 628 (by decide +kernel) rfl) rfl ?_
  refine z_landN dJ13_bitCount_95d88_14 ?_
  refine z_lload_n dJ13_bitCount_95d88_15 rfl ?_
  refine z_iconst (v := nI 2) dJ13_bitCount_95d88_16 (by decide) ?_
  refine z_lushrN dJ13_bitCount_95d88_17 (by omega) (by omega) ?_
  refine z_ldc2N (n := 3689348814741910323) dJ13_bitCount_95d88_18 (tb_at 628 (by decide +kernel) rfl) rfl ?_
  refine z_landN dJ13_bitCount_95d88_21 ?_
  refine z_laddN dJ13_bitCount_95d88_22 ?_
  rw [show (x1 &&& 3689348814741910323) + (x1 / 2 ^ 2 &&& 3689348814741910323) = f2 8 x1 from rfl]
  have k2 : f2 8 x1 ≤ x1 + x1 := Nat.add_le_add Nat.and_le_left (Nat.le_trans Nat.and_le_left (Nat.div_le_self _ _))
  obtain ⟨x2, hx2⟩ : ∃ x, x = f2 8 x1 := ⟨_, rfl⟩
  rw [← hx2] at k2 ⊢
  refine z_lstore_n (lv' := [(0, _)]) dJ13_bitCount_95d88_23 rfl (by decide) rfl ?_
  refine z_lload_n dJ13_bitCount_95d88_24 rfl ?_
  refine z_lload_n dJ13_bitCount_95d88_25 rfl ?_
  refine z_iconst (v := nI 4) dJ13_bitCount_95d88_26 (by decide) ?_
  refine z_lushrN dJ13_bitCount_95d88_27 (by omega) (by omega) ?_
  refine z_laddN dJ13_bitCount_95d88_28 ?_
  refine z_ldc2N (n := 1085102592571150095) dJ13_bitCount_95d88_29 (tb_at 629 (by decide +kernel) rfl) rfl ?_
  refine z_landN dJ13_bitCount_95d88_32 ?_
  rw [show (x2 + x2 / 2 ^ 4) &&& 1085102592571150095 = f3 8 x2 from rfl]
  have hx3 : f3 8 x2 = b0 + 256 * (b1 + 256 * (b2 + 256 * (b3 + 256 * b4))) := by rw [← hb, hx2, hx1]; rfl
  rw [hx3]
  obtain ⟨x3, hx4⟩ : ∃ x, x = b0 + 256 * (b1 + 256 * (b2 + 256 * (b3 + 256 * b4))) := ⟨_, rfl⟩
  rw [← hx4]
  refine z_lstore_n (lv' := [(0, _)]) dJ13_bitCount_95d88_33 rfl (by decide) rfl ?_
  refine z_lload_n dJ13_bitCount_95d88_34 rfl ?_
  refine z_lload_n dJ13_bitCount_95d88_35 rfl ?_
  refine z_bipush (v := nI 8) dJ13_bitCount_95d88_36 (by decide) ?_
  refine z_lushrN dJ13_bitCount_95d88_38 (by omega) (by omega) ?_
  refine z_laddN dJ13_bitCount_95d88_39 ?_
  refine z_lstore_n (lv' := [(0, _)]) dJ13_bitCount_95d88_40 rfl (by decide) rfl ?_
  refine z_lload_n dJ13_bitCount_95d88_41 rfl ?_
  refine z_lload_n dJ13_bitCount_95d88_42 rfl ?_
  refine z_bipush (v := nI 16) dJ13_bitCount_95d88_43 (by decide) ?_
  refine z_lushrN dJ13_bitCount_95d88_45 (by omega) (by omega) ?_
  refine z_laddN dJ13_bitCount_95d88_46 ?_
  refine z_lstore_n (lv' := [(0, _)]) dJ13_bitCount_95d88_47 rfl (by decide) rfl ?_
  refine z_lload_n dJ13_bitCount_95d88_48 rfl ?_
  refine z_lload_n dJ13_bitCount_95d88_49 rfl ?_
  refine z_bipush (v := nI 32) dJ13_bitCount_95d88_50 (by decide) ?_
  refine z_lushrN dJ13_bitCount_95d88_52 (by omega) (by omega) ?_
  refine z_laddN dJ13_bitCount_95d88_53 ?_
  refine z_lstore_n (lv' := [(0, _)]) dJ13_bitCount_95d88_54 rfl (by decide) rfl ?_
  refine z_lload_n dJ13_bitCount_95d88_55 rfl ?_
  refine z_l2iN dJ13_bitCount_95d88_56 ?_
  refine z_bipush (v := nI 127) dJ13_bitCount_95d88_57 (by decide) ?_
  refine z_iandN dJ13_bitCount_95d88_59 ?_
  exact z_ret (ty := none) (v := none) rfl dJ13_bitCount_95d88_60 ⟨by
    have e1 : ∀ q : Nat, q &&& 127 = q % 128 := fun q => Nat.and_two_pow_sub_one_eq_mod q 7
    have e2 : cntN S.testBit 40 = cntN S.testBit 36 := by
      rw [show 40 = 36 + 4 from rfl, cntN_add, cntN_congr (g := fun _ => false) 4 (fun k _ => Nat.testBit_lt_two_pow (Nat.lt_of_lt_of_le hS (Nat.pow_le_pow_right (by decide) (by omega))))]
      rfl
    rw [← e2, hc, e1]
    have d1 : x3 / 2 ^ 8 = b1 + 256 * (b2 + 256 * (b3 + 256 * b4)) := by omega
    rw [d1]
    obtain ⟨x4, hx5⟩ : ∃ x, x = x3 + (b1 + 256 * (b2 + 256 * (b3 + 256 * b4))) := ⟨_, rfl⟩
    have d2 : x4 / 2 ^ 16 = (b2 + b3) + 256 * (b3 + b4) + 65536 * b4 := by omega
    rw [← hx5, d2]
    obtain ⟨x5, hx6⟩ : ∃ x, x = x4 + ((b2 + b3) + 256 * (b3 + b4) + 65536 * b4) := ⟨_, rfl⟩
    have d3 : x5 / 2 ^ 32 = b4 := by omega
    rw [← hx6, d3]
    have d4 : (x5 + b4) % 128 = b0 + b1 + b2 + b3 + b4 := by omega
    rw [d4], rfl⟩
