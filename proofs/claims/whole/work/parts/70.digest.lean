def cxN (B : List (List (Nat × Nat))) : Bool := B.all fun l => l.all fun q => decide (Op.cmpValue (FP.dcmp (UInt64.ofNat q.1) (UInt64.ofNat q.1)) .l = 0)
set_option maxRecDepth 100000 in
theorem cxN12 : cxN cxB12 = true := by decide +kernel
set_option maxRecDepth 100000 in
theorem cxN20 : cxN cxB20 = true := by decide +kernel
set_option maxRecDepth 100000 in
theorem cxN30 : cxN cxB30 = true := by decide +kernel
theorem cx_N (a b : Nat) : cxN (cxBs (cxSel a b)) = true := by
  rcases cx_sel a b with h | h | h <;> rw [h]
  · exact cxN12
  · exact cxN20
  · exact cxN30
theorem cx_eq {B : List (List (Nat × Nat))} (hc : cxN B = true) {m k : Nat} {x : UInt64} (h : cxIn B m k x) : Op.cmpValue (FP.dcmp x x) .l = 0 := by
  obtain ⟨l, h1, h2⟩ := h
  have hm : B.getD m [] ∈ B := by
    have hl := cx_len h2
    show (B[m]?).getD [] ∈ B
    rw [List.getElem?_eq_getElem hl]; exact List.getElem_mem hl
  have h3 := of_decide_eq_true (List.all_eq_true.mp (List.all_eq_true.mp hc _ hm) _ h2)
  rw [show UInt64.ofNat x.toNat = x from UInt64.ofNat_toNat] at h3
  exact h3
theorem cr_eq {a b n : Nat} {E : Nat → Nat} (ha : 1 ≤ a) (ha6 : a ≤ 6) (hb : 1 ≤ b) (hb6 : b ≤ 6) (hE : okE a b E n) (hn : n ≤ 10) : Op.cmpValue (FP.dcmp (crN a b E n) (crN a b E n)) .l = 0 := by
  obtain ⟨m, hm⟩ := cr_in ha ha6 hb hb6 hE hn n (Nat.le_refl _)
  exact cx_eq (cx_N a b) hm
theorem z_d2l_raw {G : Gt} {d : Nat} {Y : YC} {F : Fn} {pc idx : Nat} {lv : List (Nat × Value)} {x : UInt64} {μ : Mm} (hd : 1 ≤ d) (hdg : decode Y.2.1 pc = .ok (.invokestatic idx, 3)) (hl : Cond.methodLink Y.1.cls idx ⟨"java/lang/Double", "doubleToRawLongBits", "(D)J"⟩ ∈ tbG) (h1 : Cond.native ⟨"java/lang/Double", "doubleToRawLongBits", "(D)J"⟩ ∈ tbG) (h2 : Cond.static ⟨"java/lang/Double", "doubleToRawLongBits", "(D)J"⟩ ∈ tbG) (h3 : Cond.initialized "java/lang/Double" ∈ tbG) (kk : Zs G d Y F (pc + 3) lv [.long x.toInt64] μ) : Zs G d Y F pc lv [.double x] μ := fun p e s m args below meth c H locs ls En hP hD hS hlv =>
  vn_d2l En.x En.b (En.ml.trans hlv.1.symm) En.o (En.t _ hl) (En.t _ h1) (En.t _ h2) (En.t _ h3) hd (by show 0 + 15 ≤ 27 * d; omega) hdg (kk p e s m args below meth c H locs ls En hP hD hS hlv)
set_option maxRecDepth 100000 in
theorem ev_Jxe99ae_isNaN_b9ae7 (G : Gt) {x : UInt64} {μ : Mm} (hx : Op.cmpValue (FP.dcmp x x) .l = 0) : EVr G 0 Y_Jxe99ae_isNaN_b9ae7 [.double x] μ (.int (nI 0)) := by
  refine ev_ofF (by decide +kernel) (Nat.le_of_ble_eq_true rfl) ?_
  show Zs G 0 Y_Jxe99ae_isNaN_b9ae7 (fnN G _) 0 [(0, .double x)] [] μ
  refine z_dload_n dJxe99ae_isNaN_b9ae7_0 rfl ?_
  refine z_dload_n dJxe99ae_isNaN_b9ae7_1 rfl ?_
  refine z_dcmp dJxe99ae_isNaN_b9ae7_2 ?_
  refine z_if_eq (tgt := 10) dJxe99ae_isNaN_b9ae7_3 (by decide) (fun c3 => ?_) (fun c3 => absurd hx c3)
  refine z_iconst (v := nI 0) dJxe99ae_isNaN_b9ae7_10 (by decide) ?_
  exact z_zret rfl rfl dJxe99ae_isNaN_b9ae7_11 ⟨rfl, rfl⟩
set_option maxRecDepth 100000 in
theorem ev_Jxe99ae_doubleToLongBits_ccdee (G : Gt) {x : UInt64} {μ : Mm} (hx : Op.cmpValue (FP.dcmp x x) .l = 0) : EVr G 1 Y_Jxe99ae_doubleToLongBits_ccdee [.double x] μ (.long x.toInt64) := by
  refine ev_ofF (by decide +kernel) (Nat.le_of_ble_eq_true rfl) ?_
  show Zs G 1 Y_Jxe99ae_doubleToLongBits_ccdee (fnN G _) 0 [(0, .double x)] [] μ
  refine z_dload_n dJxe99ae_doubleToLongBits_ccdee_0 rfl ?_
  refine z_cS1 dJxe99ae_doubleToLongBits_ccdee_1 lk_Jxe99ae_122 (by decide) (Nat.le_of_ble_eq_true rfl) (ev_Jxe99ae_isNaN_b9ae7 G hx) ?_
  refine z_ifN_ne (tgt := 12) dJxe99ae_doubleToLongBits_ccdee_4 (by decide) (by omega) (fun c4 => absurd rfl c4) (fun c4 => ?_)
  refine z_dload_n dJxe99ae_doubleToLongBits_ccdee_7 rfl ?_
  refine z_d2l_raw (by decide) dJxe99ae_doubleToLongBits_ccdee_8 (tb_at 1272 (by decide +kernel) rfl) (tb_at 1274 (by decide +kernel) rfl) (tb_at 1273 (by decide +kernel) rfl) (tb_at 89 (by decide +kernel) rfl) ?_
  exact z_lret rfl dJxe99ae_doubleToLongBits_ccdee_11 ⟨rfl, rfl⟩
/-- what the whole tells, and what the set of all places tells -/
def wtI (a b n tn : Nat) (E Q : Nat → Nat) : Nat → Int32
  | 0 => nI a
  | 1 => nI b
  | 2 => nI (a * b)
  | 3 => nI (exN a b)
  | 4 => nI n
  | 5 => nI (tot a b E (2 ^ n - 1))
  | 6 => bI (!hld a b E (2 ^ n - 1))
  | 7 => nI (cntN (fun B => blk a b E B && sb B (2 ^ n - 1)) (2 ^ n - 1 + 1))
  | 8 => nI (bsW a b E false (2 ^ n))
  | 9 => nI (bsW a b E true (2 ^ n))
  | 10 => nI (cntN (fun p => decide (poN Q p n ≠ 0) && (!false || blk a b E (poN Q p n))) 6)
  | 11 => nI (cntN (fun p => decide (poN Q p n ≠ 0) && (!true || blk a b E (poN Q p n))) 6)
  | 12 => nI (cntN (ssN a b E (2 ^ n)).testBit (a * b))
  | 13 => nI tn
  | _ => 0
def stI (a b n : Nat) (E : Nat → Nat) : Nat → Int32
  | 0 => nI (tot a b E (2 ^ n - 1))
  | 1 => bI (blk a b E (2 ^ n - 1))
  | 2 => nI (lenN a b E (2 ^ n - 1))
  | 3 => nI (splN a b E (2 ^ n - 1))
  | 4 => nI (cntN (fun B => blk a b E B && sb B (2 ^ n - 1)) (2 ^ n - 1 + 1))
  | _ => 0
def mdL (f : Nat → Int32) (h : Int64) : Nat → Int64
  | 0 => h
  | j + 1 => mx (mdL f h j) (f j).toInt64
def mgP (a b n c tn : Nat) (E Q : Nat → Nat) : Int64 := mqL a b n E Q (mpL a b n E Q (mx (mdL (wtI a b n tn E Q) (lN (1351662 + c)) 14) (lN (ssN a b E (2 ^ n)))) n) 6
def mgN (a b n c tn : Nat) (E Q : Nat → Nat) : Int64 := mx (mx (mx (bkL a b E (mdL (stI a b n E) (mgP a b n c tn E Q) 5) (2 ^ n)) (oI (lfN a b (ssN a b E (2 ^ n)))).toInt64) (lN (cntN (uqN a b E n) (2 ^ n)))) (Int64.ofNat (crN a b E n).toNat)
theorem wt_ev (G : Gt) {a b n tn : Nat} {E Q : Nat → Nat} {μ : Mm} (h : nwOK μ a b n E Q) (hl : lkE μ a b n E) (hs : lkS μ a b E (2 ^ n)) (ht : μ.1 35 6 = nI tn) {j : Nat} (hj : j < 14) : EVr G 3 Y_X8_wholeTells [rf G 35, .int (nI j)] μ (.int (wtI a b n tn E Q j)) := by
  rcases (show j = 0 ∨ j = 1 ∨ j = 2 ∨ j = 3 ∨ j = 4 ∨ j = 5 ∨ j = 6 ∨ j = 7 ∨ j = 8 ∨ j = 9 ∨ j = 10 ∨ j = 11 ∨ j = 12 ∨ j = 13 by omega) with rfl | rfl | rfl | rfl | rfl | rfl | rfl | rfl | rfl | rfl | rfl | rfl | rfl | rfl
  · exact ev_X8_wholeTells_0 G h hl hs
  · exact ev_X8_wholeTells_1 G h hl hs
  · exact ev_X8_wholeTells_2 G h hl hs
  · exact ev_X8_wholeTells_3 G h hl hs
  · exact ev_X8_wholeTells_4 G h hl hs
  · exact ev_X8_wholeTells_5 G h hl hs
  · exact ev_X8_wholeTells_6 G h hl hs
  · exact ev_X8_wholeTells_7 G h hl hs
  · exact ev_X8_wholeTells_8 G h hl hs
  · exact ev_X8_wholeTells_9 G h hl hs
  · exact ev_X8_wholeTells_10 G h hl hs
  · exact ev_X8_wholeTells_11 G h hl hs
  · exact ev_X8_wholeTells_12 G h hl hs
  · exact ev_X8_wholeTells_13 G ht
theorem st_ev (G : Gt) {a b n : Nat} {E Q : Nat → Nat} {μ : Mm} (h : nwOK μ a b n E Q) (hl : lkE μ a b n E) (hs : lkS μ a b E (2 ^ n)) (hp : lkP μ a b E (2 ^ n)) {j : Nat} (hj : j < 5) : EVr G 3 Y_X8_setTells [rf G 35, .int (nI (2 ^ n - 1)), .int (nI (1 + j))] μ (.int (stI a b n E j)) := by
  have hS : 2 ^ n - 1 < 2 ^ n := by have := ppos n; omega
  rcases (show j = 0 ∨ j = 1 ∨ j = 2 ∨ j = 3 ∨ j = 4 by omega) with rfl | rfl | rfl | rfl | rfl
  · exact ev_X8_setTells_1 G h hl hs hS
  · exact ev_X8_setTells_2 G h hl hs hS
  · exact ev_X8_setTells_3 G h hl hs hS hp
  · exact ev_X8_setTells_4 G h hl hs hS hp
  · exact ev_X8_setTells_5 G h hl hs hS
set_option maxRecDepth 100000 in
theorem dg1_X8 (G : Gt) {a b n : Nat} {E Q : Nat → Nat} {F : Fn} {μ : Mm} (h : nwOK μ a b n E Q) (hl : lkE μ a b n E) (hs : lkS μ a b E (2 ^ n)) {tn : Nat} (ht : μ.1 35 6 = nI tn) {h0 : Int64} (hk : Zs G 4 Y_X8_digest F 46 [(0, rf G 35), (1, .long (mdL (wtI a b n tn E Q) h0 14))] [] μ) : ∀ (f k : Nat), k + f = 14 → Zs G 4 Y_X8_digest F 21 [(0, rf G 35), (1, .long (mdL (wtI a b n tn E Q) h0 k)), (3, .int (nI k))] [] μ := by
  intro f
  have hn := h.le
  have hab := h.ab
  have hpw := p1024 hn
  have hpw1 := ppos n
  have htl := fun S : Nat => tot_lt (a := a) (b := b) h.g.1 h.g.2.2.1 E S
  induction f with
  | zero =>
    intro k hf
    refine z_iload_n dX8_digest_21 rfl ?_
    refine z_bipush (v := nI 13) dX8_digest_22 (by decide) ?_
    refine z_icmpN_gt (tgt := 46) dX8_digest_24 (by decide) (by omega) (by omega) (fun c24 => ?_) (fun c24 => absurd c24 (by omega))
    refine z_sub (lv' := [(0, _), (1, _)]) rfl ?_
    rw [show k = 14 by omega]
    exact hk
  | succ f ih =>
    intro k hf
    refine z_iload_n dX8_digest_21 rfl ?_
    refine z_bipush (v := nI 13) dX8_digest_22 (by decide) ?_
    refine z_icmpN_gt (tgt := 46) dX8_digest_24 (by decide) (by omega) (by omega) (fun c24 => absurd c24 (by omega)) (fun c24 => ?_)
    refine z_ldc2N (n := 31) dX8_digest_27 (tb_at 1262 (by decide +kernel) rfl) rfl ?_
    refine z_lload_n dX8_digest_30 rfl ?_
    refine z_lmul dX8_digest_31 ?_
    refine z_aload_n dX8_digest_32 rfl ?_
    refine z_iload_n dX8_digest_33 rfl ?_
    refine z_cV1 dX8_digest_34 lk_X8_152 (by decide) ⟨by decide, _, rfl⟩ rfl (Nat.le_of_ble_eq_true rfl) (wt_ev G h hl hs ht (show k < 14 by omega)) ?_
    refine z_i2l dX8_digest_37 rfl ?_
    refine z_ladd dX8_digest_38 ?_
    refine z_lstore_n (lv' := [(1, _), (0, _), (3, _)]) dX8_digest_39 rfl (by decide) rfl ?_
    refine z_iinc (v := nI (k + 1)) (lv' := [(3, _), (1, _), (0, _)]) dX8_digest_40 rfl (nI_inc _ 1) (by decide) rfl ?_
    refine z_goto (tgt := 21) dX8_digest_43 (by decide) ?_
    have q := ih (k + 1) (by omega)
    rw [show mdL (wtI a b n tn E Q) h0 (k + 1) = lN 31 * mdL (wtI a b n tn E Q) h0 k + (wtI a b n tn E Q k).toInt64 from rfl] at q
    refine z_sub (lv' := [(0, _), (1, _), (3, _)]) rfl ?_
    exact q
set_option maxRecDepth 100000 in
theorem dg2_X8 (G : Gt) {a b n : Nat} {E Q : Nat → Nat} {F : Fn} {μ : Mm} (h : nwOK μ a b n E Q) (hl : lkE μ a b n E) (hs : lkS μ a b E (2 ^ n))  {h0 : Int64} (hk : Zs G 4 Y_X8_digest F 136 [(0, rf G 35), (1, .long (mpL a b n E Q h0 n))] [] μ) : ∀ (f k : Nat), k + f = n → Zs G 4 Y_X8_digest F 59 [(0, rf G 35), (1, .long (mpL a b n E Q h0 k)), (3, .int (nI k))] [] μ := by
  intro f
  have hn := h.le
  have hab := h.ab
  have hpw := p1024 hn
  have hpw1 := ppos n
  have htl := fun S : Nat => tot_lt (a := a) (b := b) h.g.1 h.g.2.2.1 E S
  induction f with
  | zero =>
    intro k hf
    refine z_iload_n dX8_digest_59 rfl ?_
    refine z_aload_n dX8_digest_60 rfl ?_
    refine z_getR (j := 36) dX8_digest_61 fl_X8_7 ⟨by decide, _, rfl, rfl⟩ ?_
    refine z_iconst (v := nI 2) dX8_digest_64 (by decide) ?_
    refine z_ialdN dX8_digest_65 ⟨by decide, rfl⟩ (by omega) (by decide) h.vn ?_
    refine z_icmpN_ge (tgt := 136) dX8_digest_66 (by decide) (by omega) (by omega) (fun c66 => ?_) (fun c66 => absurd c66 (by omega))
    refine z_sub (lv' := [(0, _), (1, _)]) rfl ?_
    rw [show k = n by omega]
    exact hk
  | succ f ih =>
    intro k hf
    have hk2 : k < n := by omega
    have hel := h.el hk2
    have hpl := h.pl hk2
    have hc0 := cntN_le (fun B => blk a b E B && B.testBit k) (2 ^ n)
    have hc1 := smA_le (cPl a b E (2 ^ k)) (2 ^ n)
    have hb0 : EVr G 2 Y_X8_blocksAt [rf G 35, .int (nI k), .int (nI 0)] μ (.int (nI (cntN (fun B => blk a b E B && B.testBit k) (2 ^ n)))) := ev_X8_blocksAt G h hl hs (z := false) hk2
    have hb1 : EVr G 2 Y_X8_blocksAt [rf G 35, .int (nI k), .int (nI 1)] μ (.int (nI (smA (cPl a b E (2 ^ k)) (2 ^ n)))) := ev_X8_blocksAt G h hl hs (z := true) hk2
    refine z_iload_n dX8_digest_59 rfl ?_
    refine z_aload_n dX8_digest_60 rfl ?_
    refine z_getR (j := 36) dX8_digest_61 fl_X8_7 ⟨by decide, _, rfl, rfl⟩ ?_
    refine z_iconst (v := nI 2) dX8_digest_64 (by decide) ?_
    refine z_ialdN dX8_digest_65 ⟨by decide, rfl⟩ (by omega) (by decide) h.vn ?_
    refine z_icmpN_ge (tgt := 136) dX8_digest_66 (by decide) (by omega) (by omega) (fun c66 => absurd c66 (by omega)) (fun c66 => ?_)
    refine z_ldc2N (n := 31) dX8_digest_69 (tb_at 1262 (by decide +kernel) rfl) rfl ?_
    refine z_lload_n dX8_digest_72 rfl ?_
    refine z_lmul dX8_digest_73 ?_
    refine z_aload_n dX8_digest_74 rfl ?_
    refine z_getR (j := 36) dX8_digest_75 fl_X8_7 ⟨by decide, _, rfl, rfl⟩ ?_
    refine z_iconst (v := nI 3) dX8_digest_78 (by decide) ?_
    refine z_iload_n dX8_digest_79 rfl ?_
    refine z_iaddN dX8_digest_80 ?_
    refine z_ialdN dX8_digest_81 ⟨by decide, rfl⟩ (by omega) (by decide) (h.e hk2) ?_
    refine z_i2lN dX8_digest_82 (by omega) ?_
    refine z_ladd dX8_digest_83 ?_
    refine z_lstore_n (lv' := [(1, _), (0, _), (3, _)]) dX8_digest_84 rfl (by decide) rfl ?_
    refine z_ldc2N (n := 31) dX8_digest_85 (tb_at 1262 (by decide +kernel) rfl) rfl ?_
    refine z_lload_n dX8_digest_88 rfl ?_
    refine z_lmul dX8_digest_89 ?_
    refine z_aload_n dX8_digest_90 rfl ?_
    refine z_getR (j := 36) dX8_digest_91 fl_X8_7 ⟨by decide, _, rfl, rfl⟩ ?_
    refine z_bipush (v := nI 13) dX8_digest_94 (by decide) ?_
    refine z_iload_n dX8_digest_96 rfl ?_
    refine z_iaddN dX8_digest_97 ?_
    refine z_ialdN dX8_digest_98 ⟨by decide, rfl⟩ (by omega) (by decide) (h.p hk2) ?_
    refine z_i2lN dX8_digest_99 (by omega) ?_
    refine z_ladd dX8_digest_100 ?_
    refine z_lstore_n (lv' := [(1, _), (0, _), (3, _)]) dX8_digest_101 rfl (by decide) rfl ?_
    refine z_ldc2N (n := 31) dX8_digest_102 (tb_at 1262 (by decide +kernel) rfl) rfl ?_
    refine z_lload_n dX8_digest_105 rfl ?_
    refine z_lmul dX8_digest_106 ?_
    refine z_aload_n dX8_digest_107 rfl ?_
    refine z_iload_n dX8_digest_108 rfl ?_
    refine z_iconst (v := nI 0) dX8_digest_109 (by decide) ?_
    refine z_cV2 dX8_digest_110 lk_X8_129 (by decide) ⟨by decide, _, rfl⟩ rfl (Nat.le_of_ble_eq_true rfl) (hb0) ?_
    refine z_i2lN dX8_digest_113 (by omega) ?_
    refine z_ladd dX8_digest_114 ?_
    refine z_lstore_n (lv' := [(1, _), (0, _), (3, _)]) dX8_digest_115 rfl (by decide) rfl ?_
    refine z_ldc2N (n := 31) dX8_digest_116 (tb_at 1262 (by decide +kernel) rfl) rfl ?_
    refine z_lload_n dX8_digest_119 rfl ?_
    refine z_lmul dX8_digest_120 ?_
    refine z_aload_n dX8_digest_121 rfl ?_
    refine z_iload_n dX8_digest_122 rfl ?_
    refine z_iconst (v := nI 1) dX8_digest_123 (by decide) ?_
    refine z_cV2 dX8_digest_124 lk_X8_129 (by decide) ⟨by decide, _, rfl⟩ rfl (Nat.le_of_ble_eq_true rfl) (hb1) ?_
    refine z_i2lN dX8_digest_127 (by omega) ?_
    refine z_ladd dX8_digest_128 ?_
    refine z_lstore_n (lv' := [(1, _), (0, _), (3, _)]) dX8_digest_129 rfl (by decide) rfl ?_
    refine z_iinc (v := nI (k + 1)) (lv' := [(3, _), (1, _), (0, _)]) dX8_digest_130 rfl (nI_inc _ 1) (by decide) rfl ?_
    refine z_goto (tgt := 59) dX8_digest_133 (by decide) ?_
    have q := ih (k + 1) (by omega)
    rw [show mpL a b n E Q h0 (k + 1) = lN 31 * (lN 31 * (lN 31 * (lN 31 * mpL a b n E Q h0 k + lN (E k)) + lN (Q k)) + lN (cntN (fun B => blk a b E B && B.testBit k) (2 ^ n))) + lN (smA (cPl a b E (2 ^ k)) (2 ^ n)) from rfl] at q
    refine z_sub (lv' := [(0, _), (1, _), (3, _)]) rfl ?_
    exact q
set_option maxRecDepth 100000 in
theorem dg3_X8 (G : Gt) {a b n : Nat} {E Q : Nat → Nat} {F : Fn} {μ : Mm} (h : nwOK μ a b n E Q) (hl : lkE μ a b n E) (hs : lkS μ a b E (2 ^ n))  {h0 : Int64} (hk : Zs G 4 Y_X8_digest F 204 [(0, rf G 35), (1, .long (mqL a b n E Q h0 6))] [] μ) : ∀ (f k : Nat), k + f = 6 → Zs G 4 Y_X8_digest F 138 [(0, rf G 35), (1, .long (mqL a b n E Q h0 k)), (3, .int (nI k))] [] μ := by
  intro f
  have hn := h.le
  have hab := h.ab
  have hpw := p1024 hn
  have hpw1 := ppos n
  have htl := fun S : Nat => tot_lt (a := a) (b := b) h.g.1 h.g.2.2.1 E S
  induction f with
  | zero =>
    intro k hf
    refine z_iload_n dX8_digest_138 rfl ?_
    refine z_bipush (v := nI 6) dX8_digest_139 (by decide) ?_
    refine z_icmpN_ge (tgt := 204) dX8_digest_141 (by decide) (by omega) (by omega) (fun c141 => ?_) (fun c141 => absurd c141 (by omega))
    refine z_sub (lv' := [(0, _), (1, _)]) rfl ?_
    rw [show k = 6 by omega]
    exact hk
  | succ f ih =>
    intro k hf
    have hpo := poN_lt Q k n
    have htp := htl (poN Q k n)
    refine z_iload_n dX8_digest_138 rfl ?_
    refine z_bipush (v := nI 6) dX8_digest_139 (by decide) ?_
    refine z_icmpN_ge (tgt := 204) dX8_digest_141 (by decide) (by omega) (by omega) (fun c141 => absurd c141 (by omega)) (fun c141 => ?_)
    refine z_aload_n dX8_digest_144 rfl ?_
    refine z_iload_n dX8_digest_145 rfl ?_
    refine z_cV1 dX8_digest_146 lk_X8_133 (by decide) ⟨by decide, _, rfl⟩ rfl (Nat.le_of_ble_eq_true rfl) (ev_X8_partSet G h (by omega)) ?_
    refine z_istore (lv' := [(4, _), (0, _), (1, _), (3, _)]) dX8_digest_149 (by decide) rfl ?_
    refine z_ldc2N (n := 31) dX8_digest_151 (tb_at 1262 (by decide +kernel) rfl) rfl ?_
    refine z_lload_n dX8_digest_154 rfl ?_
    refine z_lmul dX8_digest_155 ?_
    refine z_iload dX8_digest_156 rfl ?_
    refine z_i2lN dX8_digest_158 (by omega) ?_
    refine z_ladd dX8_digest_159 ?_
    refine z_lstore_n (lv' := [(1, _), (4, _), (0, _), (3, _)]) dX8_digest_160 rfl (by decide) rfl ?_
    refine z_ldc2N (n := 31) dX8_digest_161 (tb_at 1262 (by decide +kernel) rfl) rfl ?_
    refine z_lload_n dX8_digest_164 rfl ?_
    refine z_lmul dX8_digest_165 ?_
    refine z_aload_n dX8_digest_166 rfl ?_
    refine z_getR (j := 41) dX8_digest_167 fl_X8_25 ⟨by decide, _, rfl, rfl⟩ ?_
    refine z_iload dX8_digest_170 rfl ?_
    refine z_ialdN dX8_digest_172 ⟨by decide, rfl⟩ (by omega) (by decide) ((hs _ hpo).1) ?_
    refine z_i2lN dX8_digest_173 (by omega) ?_
    refine z_ladd dX8_digest_174 ?_
    refine z_lstore_n (lv' := [(1, _), (4, _), (0, _), (3, _)]) dX8_digest_175 rfl (by decide) rfl ?_
    refine z_ldc2N (n := 31) dX8_digest_176 (tb_at 1262 (by decide +kernel) rfl) rfl ?_
    refine z_lload_n dX8_digest_179 rfl ?_
    refine z_lmul dX8_digest_180 ?_
    refine z_aload_n dX8_digest_181 rfl ?_
    refine z_iload dX8_digest_182 rfl ?_
    refine z_cV1 dX8_digest_184 lk_X8_91 (by decide) ⟨by decide, _, rfl⟩ rfl (Nat.le_of_ble_eq_true rfl) (ev_X8_isBlock G hab htl hl hs hpo) ?_
    refine z_ifB_eq (tgt := 194) dX8_digest_187 (by decide) (fun c187 => ?_) (fun c187 => ?_)
    · refine z_iconst (v := nI 0) dX8_digest_194 (by decide) ?_
      refine z_i2lN dX8_digest_195 (by omega) ?_
      refine z_ladd dX8_digest_196 ?_
      refine z_lstore_n (lv' := [(1, _), (4, _), (0, _), (3, _)]) dX8_digest_197 rfl (by decide) rfl ?_
      refine z_iinc (v := nI (k + 1)) (lv' := [(3, _), (1, _), (4, _), (0, _)]) dX8_digest_198 rfl (nI_inc _ 1) (by decide) rfl ?_
      refine z_goto (tgt := 138) dX8_digest_201 (by decide) ?_
      have q := ih (k + 1) (by omega)
      rw [show mqL a b n E Q h0 (k + 1) = lN 31 * (lN 31 * (lN 31 * mqL a b n E Q h0 k + lN (poN Q k n)) + lN (tot a b E (poN Q k n))) + lN (if blk a b E (poN Q k n) then 1 else 0) from rfl, c187] at q
      simp only [Bool.false_eq_true, if_true, if_false] at q
      refine z_sub (lv' := [(0, _), (1, _), (3, _)]) rfl ?_
      exact q
    · refine z_iconst (v := nI 1) dX8_digest_190 (by decide) ?_
      refine z_goto (tgt := 195) dX8_digest_191 (by decide) ?_
      refine z_i2lN dX8_digest_195 (by omega) ?_
      refine z_ladd dX8_digest_196 ?_
      refine z_lstore_n (lv' := [(1, _), (4, _), (0, _), (3, _)]) dX8_digest_197 rfl (by decide) rfl ?_
      refine z_iinc (v := nI (k + 1)) (lv' := [(3, _), (1, _), (4, _), (0, _)]) dX8_digest_198 rfl (nI_inc _ 1) (by decide) rfl ?_
      refine z_goto (tgt := 138) dX8_digest_201 (by decide) ?_
      have q := ih (k + 1) (by omega)
      rw [show mqL a b n E Q h0 (k + 1) = lN 31 * (lN 31 * (lN 31 * mqL a b n E Q h0 k + lN (poN Q k n)) + lN (tot a b E (poN Q k n))) + lN (if blk a b E (poN Q k n) then 1 else 0) from rfl, c187] at q
      simp only [Bool.false_eq_true, if_true, if_false] at q
      refine z_sub (lv' := [(0, _), (1, _), (3, _)]) rfl ?_
      exact q
set_option maxRecDepth 100000 in
theorem dg4_X8 (G : Gt) {a b n : Nat} {E Q : Nat → Nat} {F : Fn} {μ : Mm} (h : nwOK μ a b n E Q) (hl : lkE μ a b n E) (hs : lkS μ a b E (2 ^ n)) (hp : lkP μ a b E (2 ^ n)) {h0 : Int64} (hk : Zs G 4 Y_X8_digest F 234 [(0, rf G 35), (1, .long (mdL (stI a b n E) h0 5))] [] μ) : ∀ (f k : Nat), k + f = 5 → Zs G 4 Y_X8_digest F 206 [(0, rf G 35), (1, .long (mdL (stI a b n E) h0 k)), (3, .int (nI (1 + k)))] [] μ := by
  intro f
  have hn := h.le
  have hab := h.ab
  have hpw := p1024 hn
  have hpw1 := ppos n
  have htl := fun S : Nat => tot_lt (a := a) (b := b) h.g.1 h.g.2.2.1 E S
  induction f with
  | zero =>
    intro k hf
    refine z_iload_n dX8_digest_206 rfl ?_
    refine z_iconst (v := nI 5) dX8_digest_207 (by decide) ?_
    refine z_icmpN_gt (tgt := 234) dX8_digest_208 (by decide) (by omega) (by omega) (fun c208 => ?_) (fun c208 => absurd c208 (by omega))
    refine z_sub (lv' := [(0, _), (1, _)]) rfl ?_
    rw [show k = 5 by omega]
    exact hk
  | succ f ih =>
    intro k hf
    refine z_iload_n dX8_digest_206 rfl ?_
    refine z_iconst (v := nI 5) dX8_digest_207 (by decide) ?_
    refine z_icmpN_gt (tgt := 234) dX8_digest_208 (by decide) (by omega) (by omega) (fun c208 => absurd c208 (by omega)) (fun c208 => ?_)
    refine z_ldc2N (n := 31) dX8_digest_211 (tb_at 1262 (by decide +kernel) rfl) rfl ?_
    refine z_lload_n dX8_digest_214 rfl ?_
    refine z_lmul dX8_digest_215 ?_
    refine z_aload_n dX8_digest_216 rfl ?_
    refine z_aload_n dX8_digest_217 rfl ?_
    refine z_cV0 dX8_digest_218 lk_X8_101 (by decide) ⟨by decide, _, rfl⟩ rfl (Nat.le_of_ble_eq_true rfl) (ev_X8_all G h) ?_
    refine z_iload_n dX8_digest_221 rfl ?_
    refine z_cV2 dX8_digest_222 lk_X8_116 (by decide) ⟨by decide, _, rfl⟩ rfl (Nat.le_of_ble_eq_true rfl) (st_ev G h hl hs hp (show k < 5 by omega)) ?_
    refine z_i2l dX8_digest_225 rfl ?_
    refine z_ladd dX8_digest_226 ?_
    refine z_lstore_n (lv' := [(1, _), (0, _), (3, _)]) dX8_digest_227 rfl (by decide) rfl ?_
    refine z_iinc (v := nI ((1 + k) + 1)) (lv' := [(3, _), (1, _), (0, _)]) dX8_digest_228 rfl (nI_inc _ 1) (by decide) rfl ?_
    refine z_goto (tgt := 206) dX8_digest_231 (by decide) ?_
    have q := ih (k + 1) (by omega)
    rw [show mdL (stI a b n E) h0 (k + 1) = lN 31 * mdL (stI a b n E) h0 k + (stI a b n E k).toInt64 from rfl, show 1 + (k + 1) = 1 + k + 1 by omega] at q
    refine z_sub (lv' := [(0, _), (1, _), (3, _)]) rfl ?_
    exact q
set_option maxRecDepth 100000 in
theorem dg5_X8 (G : Gt) {a b n : Nat} {E Q : Nat → Nat} {F : Fn} {μ : Mm} (h : nwOK μ a b n E Q) (hl : lkE μ a b n E) (hs : lkS μ a b E (2 ^ n))  {h0 : Int64} (hk : Zs G 4 Y_X8_digest F 271 [(0, rf G 35), (1, .long (bkL a b E h0 (2 ^ n)))] [] μ) : ∀ (f k : Nat), 1 ≤ k ∧ k + f = 2 ^ n → Zs G 4 Y_X8_digest F 236 [(0, rf G 35), (1, .long (bkL a b E h0 k)), (3, .int (nI k))] [] μ := by
  intro f
  have hn := h.le
  have hab := h.ab
  have hpw := p1024 hn
  have hpw1 := ppos n
  have htl := fun S : Nat => tot_lt (a := a) (b := b) h.g.1 h.g.2.2.1 E S
  induction f with
  | zero =>
    intro k hf
    refine z_iload_n dX8_digest_236 rfl ?_
    refine z_aload_n dX8_digest_237 rfl ?_
    refine z_cV0 dX8_digest_238 lk_X8_101 (by decide) ⟨by decide, _, rfl⟩ rfl (Nat.le_of_ble_eq_true rfl) (ev_X8_all G h) ?_
    refine z_icmpN_gt (tgt := 271) dX8_digest_241 (by decide) (by omega) (by omega) (fun c241 => ?_) (fun c241 => absurd c241 (by omega))
    refine z_sub (lv' := [(0, _), (1, _)]) rfl ?_
    rw [show k = 2 ^ n by omega]
    exact hk
  | succ f ih =>
    intro k hf
    refine z_iload_n dX8_digest_236 rfl ?_
    refine z_aload_n dX8_digest_237 rfl ?_
    refine z_cV0 dX8_digest_238 lk_X8_101 (by decide) ⟨by decide, _, rfl⟩ rfl (Nat.le_of_ble_eq_true rfl) (ev_X8_all G h) ?_
    refine z_icmpN_gt (tgt := 271) dX8_digest_241 (by decide) (by omega) (by omega) (fun c241 => absurd c241 (by omega)) (fun c241 => ?_)
    refine z_aload_n dX8_digest_244 rfl ?_
    refine z_iload_n dX8_digest_245 rfl ?_
    refine z_cV1 dX8_digest_246 lk_X8_91 (by decide) ⟨by decide, _, rfl⟩ rfl (Nat.le_of_ble_eq_true rfl) (ev_X8_isBlock G hab htl hl hs (show k < 2 ^ n by omega)) ?_
    refine z_ifB_eq (tgt := 263) dX8_digest_249 (by decide) (fun c249 => ?_) (fun c249 => ?_)
    · refine z_lload_n dX8_digest_263 rfl ?_
      refine z_lstore_n (lv' := [(1, _), (0, _), (3, _)]) dX8_digest_264 rfl (by decide) rfl ?_
      refine z_iinc (v := nI (k + 1)) (lv' := [(3, _), (1, _), (0, _)]) dX8_digest_265 rfl (nI_inc _ 1) (by decide) rfl ?_
      refine z_goto (tgt := 236) dX8_digest_268 (by decide) ?_
      have q := ih (k + 1) (by omega)
      rw [show bkL a b E h0 (k + 1) = if blk a b E k = true then lN 31 * bkL a b E h0 k + lN k else bkL a b E h0 k from rfl, c249] at q
      simp only [Bool.false_eq_true, if_true, if_false] at q
      refine z_sub (lv' := [(0, _), (1, _), (3, _)]) rfl ?_
      exact q
    · refine z_ldc2N (n := 31) dX8_digest_252 (tb_at 1262 (by decide +kernel) rfl) rfl ?_
      refine z_lload_n dX8_digest_255 rfl ?_
      refine z_lmul dX8_digest_256 ?_
      refine z_iload_n dX8_digest_257 rfl ?_
      refine z_i2lN dX8_digest_258 (by omega) ?_
      refine z_ladd dX8_digest_259 ?_
      refine z_goto (tgt := 264) dX8_digest_260 (by decide) ?_
      refine z_lstore_n (lv' := [(1, _), (0, _), (3, _)]) dX8_digest_264 rfl (by decide) rfl ?_
      refine z_iinc (v := nI (k + 1)) (lv' := [(3, _), (1, _), (0, _)]) dX8_digest_265 rfl (nI_inc _ 1) (by decide) rfl ?_
      refine z_goto (tgt := 236) dX8_digest_268 (by decide) ?_
      have q := ih (k + 1) (by omega)
      rw [show bkL a b E h0 (k + 1) = if blk a b E k = true then lN 31 * bkL a b E h0 k + lN k else bkL a b E h0 k from rfl, c249] at q
      simp only [Bool.false_eq_true, if_true, if_false] at q
      refine z_sub (lv' := [(0, _), (1, _), (3, _)]) rfl ?_
      exact q
theorem bk1 {a b : Nat} {E : Nat → Nat} {h : Int64} : bkL a b E h 1 = h := by
  show (if blk a b E 0 = true then mx (bkL a b E h 0) (lN 0) else bkL a b E h 0) = h
  rw [blk_0]; rfl
theorem tI64 (x : UInt64) : x.toInt64 = Int64.ofNat x.toNat := by
  show (⟨x⟩ : Int64) = ⟨UInt64.ofNat x.toNat⟩
  rw [UInt64.ofNat_toNat]
theorem mq3 {μ u : Mm} (h : mqF μ u) (x : Int32) : mqF (uF μ 35 3 x) (uF u 35 3 x) := by
  refine ⟨fun i k q => ?_, h.2.1, h.2.2⟩
  by_cases e : i = 35 ∧ k = 3
  · obtain ⟨rfl, rfl⟩ := e
    exact (uF_s _ _ _ _).trans (uF_s _ _ _ _).symm
  · have e1 : (uF u 35 3 x).1 i k = u.1 i k := uF_n _ _ (by omega)
    have e2 : (uF μ 35 3 x).1 i k = μ.1 i k := uF_n _ _ (by omega)
    rw [e1, e2]; exact h.1 i k q
theorem mq33 (μ : Mm) (x y : Int32) : mqF (uF μ 35 3 y) (uF (uF μ 35 3 x) 35 3 y) := by
  refine ⟨fun i k _ => ?_, fun _ _ => rfl, rfl⟩
  by_cases e : i = 35 ∧ k = 3
  · obtain ⟨rfl, rfl⟩ := e
    exact (uF_s _ _ _ _).trans (uF_s _ _ _ _).symm
  · have e1 : (uF (uF μ 35 3 x) 35 3 y).1 i k = (uF μ 35 3 x).1 i k := uF_n _ _ (by omega)
    have e2 : (uF μ 35 3 x).1 i k = μ.1 i k := uF_n _ _ (by omega)
    have e3 : (uF μ 35 3 y).1 i k = μ.1 i k := uF_n _ _ (by omega)
    rw [e1, e2, e3]
theorem mq_fin {μ u u3 u4 : Mm} (h : mqF μ u) (h3 : mqF (uF u 35 3 (nI 0)) u3) (h4 : mqF (uF u3 35 3 (nI 0)) u4) : mqF (uF μ 35 3 (nI 0)) (uF (uF u4 35 3 (nI 0)) 35 3 (nI 0)) :=
  (mq3 h _).trans ((mq33 u (nI 0) (nI 0)).trans ((mq3 h3 _).trans ((mq33 u3 (nI 0) (nI 0)).trans ((mq3 h4 _).trans (mq33 u4 (nI 0) (nI 0))))))
set_option maxRecDepth 100000 in
theorem ev_X8_digest (G : Gt) {a b n c tn : Nat} {E Q : Nat → Nat} {μ : Mm} (h : nwOK μ a b n E Q) (hc : μ.1 35 2 = nI c) (hc4 : c ≤ 4) (ht : μ.1 35 6 = nI tn) : EV G 4 Y_X8_digest [rf G 35] μ (fun v u => v = some (.long (mgN a b n c tn E Q)) ∧ mqF (uF μ 35 3 (nI 0)) u) := by
  have hab := h.ab
  have hn := h.le
  have hpw := p1024 hn
  have hpw1 := ppos n
  obtain ⟨ha, ha6, hb, hb6⟩ := h.g
  have hE : okE a b E n := fun k hk => h.el hk
  refine ev_of (by decide) (Nat.le_of_ble_eq_true rfl) ?_
  show Zs G 4 Y_X8_digest (fnN G _) 0 [(0, rf G 35)] [] μ
  refine z_ldc2N (n := 1351662) dX8_digest_0 (tb_at 1261 (by decide +kernel) rfl) rfl ?_
  refine z_aload_n dX8_digest_3 rfl ?_
  refine z_getI dX8_digest_4 fl_X8_49 ⟨by decide, _, rfl, rfl⟩ hc ?_
  refine z_i2lN dX8_digest_7 (by omega) ?_
  refine z_laddN dX8_digest_8 ?_
  refine z_lstore_n (lv' := [(1, _), (0, _)]) dX8_digest_9 rfl (by decide) rfl ?_
  refine z_aload_n dX8_digest_10 rfl ?_
  refine z_iconst (v := -1) dX8_digest_11 (by decide) ?_
  refine z_cV1g dX8_digest_12 lk_X8_94 (by decide) ⟨by decide, _, rfl⟩ rfl (Nat.le_of_ble_eq_true rfl) (ev_X8_looks_0 G h) ?_
  rintro v u ⟨rfl, hq, hl, hs⟩
  have h := h.q hq
  have htl := fun S : Nat => tot_lt (a := a) (b := b) h.g.1 h.g.2.2.1 E S
  refine z_aload_n dX8_digest_15 rfl ?_
  refine z_cV0g dX8_digest_16 lk_X8_98 (by decide) ⟨by decide, _, rfl⟩ rfl (Nat.le_of_ble_eq_true rfl) (ev_X8_splitsAll G hab htl h.le hl hs) ?_
  rintro v u2 ⟨rfl, hq2, hl, hs, hp⟩
  have h := h.q hq2
  have hq := hq.trans hq2
  have ht := (hq.1 35 6 (by omega)).trans ht
  refine z_iconst (v := nI 0) dX8_digest_19 (by decide) ?_
  refine z_istore_n (lv' := [(3, _), (1, _), (0, _)]) dX8_digest_20 rfl (by decide) rfl ?_
  refine z_sub (lv' := [(0, _), (1, _), (3, _)]) rfl ?_
  refine dg1_X8 G h hl hs ht (h0 := lN (1351662 + c)) ?_ 14 0 (by omega)
  refine z_ldc2N (n := 31) dX8_digest_46 (tb_at 1262 (by decide +kernel) rfl) rfl ?_
  refine z_lload_n dX8_digest_49 rfl ?_
  refine z_lmul dX8_digest_50 ?_
  refine z_aload_n dX8_digest_51 rfl ?_
  refine z_cV0 dX8_digest_52 lk_X8_119 (by decide) ⟨by decide, _, rfl⟩ rfl (Nat.le_of_ble_eq_true rfl) (ev_X8_sumSet G h hl hs) ?_
  refine z_ladd dX8_digest_55 ?_
  refine z_lstore_n (lv' := [(1, _), (0, _)]) dX8_digest_56 rfl (by decide) rfl ?_
  refine z_iconst (v := nI 0) dX8_digest_57 (by decide) ?_
  refine z_istore_n (lv' := [(3, _), (1, _), (0, _)]) dX8_digest_58 rfl (by decide) rfl ?_
  refine z_sub (lv' := [(0, _), (1, _), (3, _)]) rfl ?_
  refine dg2_X8 G h hl hs (h0 := mx (mdL (wtI a b n tn E Q) (lN (1351662 + c)) 14) (lN (ssN a b E (2 ^ n)))) ?_ n 0 (by omega)
  refine z_iconst (v := nI 0) dX8_digest_136 (by decide) ?_
  refine z_istore_n (lv' := [(3, _), (0, _), (1, _)]) dX8_digest_137 rfl (by decide) rfl ?_
  refine z_sub (lv' := [(0, _), (1, _), (3, _)]) rfl ?_
  refine dg3_X8 G h hl hs (h0 := (mpL a b n E Q (mx (mdL (wtI a b n tn E Q) (lN (1351662 + c)) 14) (lN (ssN a b E (2 ^ n)))) n)) ?_ 6 0 (by omega)
  show Zs G 4 Y_X8_digest (fnN G _) 204 [(0, rf G 35), (1, .long (mgP a b n c tn E Q))] [] _
  refine z_iconst (v := nI 1) dX8_digest_204 (by decide) ?_
  refine z_istore_n (lv' := [(3, _), (0, _), (1, _)]) dX8_digest_205 rfl (by decide) rfl ?_
  refine z_sub (lv' := [(0, _), (1, _), (3, _)]) rfl ?_
  refine dg4_X8 G h hl hs hp (h0 := (mgP a b n c tn E Q)) ?_ 5 0 (by omega)
  refine z_iconst (v := nI 1) dX8_digest_234 (by decide) ?_
  refine z_istore_n (lv' := [(3, _), (0, _), (1, _)]) dX8_digest_235 rfl (by decide) rfl ?_
  refine z_sub (lv' := [(0, _), (1, _), (3, _)]) rfl ?_
  rw [show (mdL (stI a b n E) (mgP a b n c tn E Q) 5) = bkL a b E (mdL (stI a b n E) (mgP a b n c tn E Q) 5) 1 from bk1.symm]
  refine dg5_X8 G h hl hs (h0 := (mdL (stI a b n E) (mgP a b n c tn E Q) 5)) ?_ (2 ^ n - 1) 1 (by omega)
  refine z_ldc2N (n := 31) dX8_digest_271 (tb_at 1262 (by decide +kernel) rfl) rfl ?_
  refine z_lload_n dX8_digest_274 rfl ?_
  refine z_lmul dX8_digest_275 ?_
  refine z_aload_n dX8_digest_276 rfl ?_
  refine z_cV0g dX8_digest_277 lk_X8_226 (by decide) ⟨by decide, _, rfl⟩ rfl (Nat.le_of_ble_eq_true rfl) (ev_X8_freeElement G h) ?_
  rintro v u3 ⟨rfl, hq3⟩
  have h := (h.u3 (nI 0)).q hq3
  refine z_i2l dX8_digest_280 rfl ?_
  refine z_ladd dX8_digest_281 ?_
  refine z_lstore_n (lv' := [(1, _), (0, _)]) dX8_digest_282 rfl (by decide) rfl ?_
  refine z_ldc2N (n := 31) dX8_digest_283 (tb_at 1262 (by decide +kernel) rfl) rfl ?_
  refine z_lload_n dX8_digest_286 rfl ?_
  refine z_lmul dX8_digest_287 ?_
  refine z_aload_n dX8_digest_288 rfl ?_
  refine z_cV0g dX8_digest_289 lk_X8_229 (by decide) ⟨by decide, _, rfl⟩ rfl (Nat.le_of_ble_eq_true rfl) (ev_X8_unlikeBlocks G h) ?_
  rintro v u4 ⟨rfl, hq4⟩
  have h := (h.u3 (nI 0)).q hq4
  have hcu := cntN_le (uqN a b E n) (2 ^ n)
  refine z_i2lN dX8_digest_292 (by omega) ?_
  refine z_ladd dX8_digest_293 ?_
  refine z_lstore_n (lv' := [(1, _), (0, _)]) dX8_digest_294 rfl (by decide) rfl ?_
  refine z_ldc2N (n := 31) dX8_digest_295 (tb_at 1262 (by decide +kernel) rfl) rfl ?_
  refine z_lload_n dX8_digest_298 rfl ?_
  refine z_lmul dX8_digest_299 ?_
  refine z_aload_n dX8_digest_300 rfl ?_
  refine z_cV0w dX8_digest_301 lk_X8_232 (by decide) ⟨by decide, _, rfl⟩ rfl (Nat.le_of_ble_eq_true rfl) (ev_X8_cross G h) ?_
  refine z_cS1 dX8_digest_304 lk_X8_236 (by decide) (Nat.le_of_ble_eq_true rfl) (ev_Jxe99ae_doubleToLongBits_ccdee G (cr_eq ha ha6 hb hb6 hE hn)) ?_
  refine z_ladd dX8_digest_307 ?_
  refine z_lstore_n (lv' := [(1, _), (0, _)]) dX8_digest_308 rfl (by decide) rfl ?_
  refine z_aload_n dX8_digest_309 rfl ?_
  refine z_iconst (v := nI 0) dX8_digest_310 (by decide) ?_
  refine z_putI dX8_digest_311 fp_X8_41 ⟨by decide, _, rfl, rfl⟩ ?_
  refine z_lload_n dX8_digest_314 rfl ?_
  have hfin := mq_fin hq hq3 hq4
  exact z_lret rfl dX8_digest_315 ⟨by rw [tI64]; rfl, hfin⟩
