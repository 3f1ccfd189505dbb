/-- the letters of the words as numbers -/
def wB (i j : Nat) : Nat := (([[103, 114, 111, 117, 112], [97, 100, 100], [109, 105, 110, 117, 115], [108, 97, 121], [115, 112, 108, 105, 116]] : List (List Nat)).getD i []).getD j 0
def wL (i : Nat) : Nat := wLen.getD i 0
theorem wB_ok : ∀ i, i < 5 → ∀ j, j < wL i → ((wByt.getD i []).getD j 0 = nI (wB i j) ∧ wB i j < 128) := by decide +kernel
theorem wL_ok : ∀ i, i < 5 → wL i ≤ 5 ∧ 3 ≤ wL i := by decide +kernel
section ZC2
variable {G : Gt} {d d' : Nat} {Y Y' : YC} {F : Fn} {pc idx n i j : Nat} {lv : List (Nat × Value)} {st st0 As : List Value} {μ : Mm} {P' : Option Value → Mm → Prop} {r a1 : Value}
theorem z_words (hdg : decode Y.2.1 pc = .ok (.getstatic idx, 3)) (L : Cond.fieldLinkNest Y.1.cls idx "ZeroParts" "WORDS" "[LZeroParts$Word;" "ZeroParts" ∈ nestW) (kk : Zs G d Y F (pc + 3) lv (kf G 0 :: st) μ) : Zs G d Y F pc lv st μ := fun p e s m args below meth c H locs ls E hP hD hS hl =>
  va_getsN E.x E.b E.c.2.2.2.2.1 hS E.o (va_Nw.use rfl (E.c.1.1 _ L)) (fun x hx => hx) hdg (kk p e s m args below meth c H locs ls E hP hD hS hl)
theorem z_wordsLen (hdg : decode Y.2.1 pc = .ok (.arraylength, 1)) (kk : Zs G d Y F (pc + 1) lv (.int (nI 5) :: st) μ) : Zs G d Y F pc lv (kf G 0 :: st) μ := fun p e s m args below meth c H locs ls E hP hD hS hl =>
  va_tlen E.x E.b E.c.2.2.2.2.2.1 hS rfl hdg (kk p e s m args below meth c H locs ls E hP hD hS hl)
theorem z_wordAt (hi : i < 5) (hdg : decode Y.2.1 pc = .ok (.aaload, 1)) (kk : Zs G d Y F (pc + 1) lv (kf G (10 + i) :: st) μ) : Zs G d Y F pc lv (.int (nI i) :: kf G 0 :: st) μ := fun p e s m args below meth c H locs ls E hP hD hS hl =>
  vb_tq E.x E.b E.c.2.2.2.2.2.1 hS (vp_in_nI hi (by decide)) (by rw [nI_clamp (by omega)]) hdg (kk p e s m args below meth c H locs ls E hP hD hS hl)
theorem z_letters (hi : i < 5) (hdg : decode Y.2.1 pc = .ok (.getfield idx, 3)) (L : Cond.fieldLinkNest Y.1.cls idx "ZeroParts$Word" "letters" "Ljava/lang/String;" "ZeroParts" ∈ nestW) (kk : Zs G d Y F (pc + 3) lv (kf G (20 + i) :: st) μ) : Zs G d Y F pc lv (kf G (10 + i) :: st) μ := by
  intro p e s m args below meth c H locs ls E hP hD hS hl
  obtain ⟨cf, k, fi, f, cell, h1, h2, h3, h4, h5, h6⟩ := (E.c.2.2.2.2.2.2.2.2.2.1 i hi).kept hS.2.1
  exact va_Wgetf E.x E.b E.o (va_Nw.use rfl (E.c.1.1 _ L)) h1 h2 h3 h4 h5 rfl rfl hdg (kk p e s m args below meth c H locs ls E hP hD hS hl)
theorem z_wnum (hi : i < 5) (hdg : decode Y.2.1 pc = .ok (.getfield idx, 3)) (L : Cond.fieldLinkNest Y.1.cls idx "ZeroParts$Word" "numbers" "I" "ZeroParts" ∈ nestW) (kk : Zs G d Y F (pc + 3) lv (.int (nI (wNum i)) :: st) μ) : Zs G d Y F pc lv (kf G (10 + i) :: st) μ := by
  intro p e s m args below meth c H locs ls E hP hD hS hl
  obtain ⟨cf, k, fi, f, cell, h1, h2, h3, h4, h5, h6⟩ := (E.c.2.2.2.2.2.2.2.2.2.2.1 i hi).kept hS.2.1
  exact va_Wgetf E.x E.b E.o (va_Nw.use rfl (E.c.1.1 _ L)) h1 h2 h3 h4 h5 rfl rfl hdg (kk p e s m args below meth c H locs ls E hP hD hS hl)
theorem z_ordf (hi : i < 5) (hdg : decode Y.2.1 pc = .ok (.getfield idx, 3)) (L : Cond.fieldLink Y.1.cls idx "java/lang/Enum" "ordinal" "I" ∈ tbG) (kk : Zs G d Y F (pc + 3) lv (.int (nI i) :: st) μ) : Zs G d Y F pc lv (kf G (10 + i) :: st) μ := fun p e s m args below meth c H locs ls E hP hD hS hl =>
  vk_getf E.x E.b (E.c.2.2.2.2.2.2.2.2.1 i hi) hS E.o (E.t _ L) (fun x hx => hx) hdg (kk p e s m args below meth c H locs ls E hP hD hS hl)
theorem z_swmap (hdg : decode Y.2.1 pc = .ok (.getstatic idx, 3)) (L : Cond.fieldLink Y.1.cls idx "ZeroParts$1" "$SwitchMap$ZeroParts$Word" "[I" ∈ tbG) (kk : Zs G d Y F (pc + 3) lv (kf G 1 :: st) μ) : Zs G d Y F pc lv st μ := fun p e s m args below meth c H locs ls E hP hD hS hl =>
  va_gets E.x E.b E.c.2.2.2.2.2.2.1 hS E.o (E.t _ L) (fun x hx => hx) hdg (kk p e s m args below meth c H locs ls E hP hD hS hl)
theorem z_swat (hi : i < 5) (hdg : decode Y.2.1 pc = .ok (.iaload, 1)) (kk : Zs G d Y F (pc + 1) lv (.int (nI (i + 1)) :: st) μ) : Zs G d Y F pc lv (.int (nI i) :: kf G 1 :: st) μ := fun p e s m args below meth c H locs ls E hP hD hS hl =>
  va_ti E.x E.b E.c.2.2.2.2.2.2.2.1 hS (vp_in_nI hi (by decide)) (by rw [nI_clamp (by omega)]) hdg (kk p e s m args below meth c H locs ls E hP hD hS hl)
theorem z_sVal (hi : i < 5) (hdg : decode Y.2.1 pc = .ok (.getfield idx, 3)) (L : Cond.fieldLink Y.1.cls idx "java/lang/String" "value" "[B" ∈ tbG) (kk : Zs G d Y F (pc + 3) lv (kf G (30 + i) :: st) μ) : Zs G d Y F pc lv (kf G (20 + i) :: st) μ := fun p e s m args below meth c H locs ls E hP hD hS hl =>
  vk_getf E.x E.b (E.c.2.2.2.2.2.2.2.2.2.2.2.2.1.1 i hi).2.2.1 hS E.o (E.t _ L) (fun x hx => hx) hdg (kk p e s m args below meth c H locs ls E hP hD hS hl)
theorem z_sCoder (hi : i < 5) (hdg : decode Y.2.1 pc = .ok (.getfield idx, 3)) (L : Cond.fieldLink Y.1.cls idx "java/lang/String" "coder" "B" ∈ tbG) (kk : Zs G d Y F (pc + 3) lv (.int (nI 0) :: st) μ) : Zs G d Y F pc lv (kf G (20 + i) :: st) μ := fun p e s m args below meth c H locs ls E hP hD hS hl =>
  vk_getf E.x E.b (E.c.2.2.2.2.2.2.2.2.2.2.2.2.1.1 i hi).2.1 hS E.o (E.t _ L) (fun x hx => hx) hdg (by rw [show (0 : Int32) = nI 0 by decide]; exact kk p e s m args below meth c H locs ls E hP hD hS hl)
theorem z_sLen (hi : i < 5) (hdg : decode Y.2.1 pc = .ok (.arraylength, 1)) (kk : Zs G d Y F (pc + 1) lv (.int (nI (wL i)) :: st) μ) : Zs G d Y F pc lv (kf G (30 + i) :: st) μ := fun p e s m args below meth c H locs ls E hP hD hS hl =>
  va_tlen E.x E.b (E.c.2.2.2.2.2.2.2.2.2.2.2.2.1.1 i hi).2.2.2 hS rfl hdg (kk p e s m args below meth c H locs ls E hP hD hS hl)
theorem z_sByte (hi : i < 5) (hj : j < wL i) (hdg : decode Y.2.1 pc = .ok (.baload, 1)) (kk : Zs G d Y F (pc + 1) lv (.int (nI (wB i j)) :: st) μ) : Zs G d Y F pc lv (.int (nI j) :: kf G (30 + i) :: st) μ := fun p e s m args below meth c H locs ls E hP hD hS hl =>
  va_tb E.x E.b (E.c.2.2.2.2.2.2.2.2.2.2.2.2.1.1 i hi).2.2.2 hS (vp_in_nI hj (by have := wL_ok i hi; unfold wL at this; omega)) (v := .int (nI (wB i j))) (by rw [nI_clamp (by have := wL_ok i hi; omega), (wB_ok i hi j hj).1]) hdg (kk p e s m args below meth c H locs ls E hP hD hS hl)
theorem z_comp (hdg : decode Y.2.1 pc = .ok (.getstatic idx, 3)) (L : Cond.fieldLink Y.1.cls idx "java/lang/String" "COMPACT_STRINGS" "Z" ∈ tbG) (kk : Zs G d Y F (pc + 3) lv (.int (nI 1) :: st) μ) : Zs G d Y F pc lv st μ := fun p e s m args below meth c H locs ls E hP hD hS hl =>
  va_gets E.x E.b E.c.2.2.2.2.2.2.2.2.2.2.2.2.2.1 hS E.o (E.t _ L) (fun x hx => hx) hdg (by rw [show (1 : Int32) = nI 1 by decide]; exact kk p e s m args below meth c H locs ls E hP hD hS hl)
theorem z_sioobe (hdg : decode Y.2.1 pc = .ok (.getstatic idx, 3)) (L : Cond.fieldLink Y.1.cls idx "jdk/internal/util/Preconditions" "SIOOBE_FORMATTER" "Ljava/util/function/BiFunction;" ∈ tbG) (kn : Zs G d Y F (pc + 3) lv (.null :: st) μ) (kr : ∀ t : Nat, Zs G d Y F (pc + 3) lv (.ref t :: st) μ) : Zs G d Y F pc lv st μ := by
  intro p e s m args below meth c H locs ls E hP hD hS hl
  rcases E.c.2.2.2.2.2.2.2.2.2.2.2.2.2.2 with h | ⟨t, h⟩
  · exact va_gets E.x E.b h hS E.o (E.t _ L) (fun x hx => hx) hdg (kn p e s m args below meth c H locs ls E hP hD hS hl)
  · exact va_gets E.x E.b h hS E.o (E.t _ L) (fun x hx => hx) hdg (kr t p e s m args below meth c H locs ls E hP hD hS hl)
theorem z_ifnullK {q : Nat} {off : Int} (hdg : decode Y.2.1 pc = .ok (.ifnull off, 3)) (kk : Zs G d Y F (pc + 3) lv st μ) : Zs G d Y F pc lv (kf G q :: st) μ := fun p e s m args below meth c H locs ls E hP hD hS hl =>
  lv_ifnull E.x E.b hdg (kk p e s m args below meth c H locs ls E hP hD hS hl)
theorem z_ifnullN {off : Int} {tgt : Nat} (hdg : decode Y.2.1 pc = .ok (.ifnull off, 3)) (ht : (pc : Int) + off = (tgt : Int)) (kk : Zs G d Y F tgt lv st μ) : Zs G d Y F pc lv (.null :: st) μ := fun p e s m args below meth c H locs ls E hP hD hS hl =>
  lv_ifnullN E.x E.b hdg ht (kk p e s m args below meth c H locs ls E hP hD hS hl)
theorem z_ifnonnullK {q : Nat} {off : Int} {tgt : Nat} (hdg : decode Y.2.1 pc = .ok (.ifnonnull off, 3)) (ht : (pc : Int) + off = (tgt : Int)) (kk : Zs G d Y F tgt lv st μ) : Zs G d Y F pc lv (kf G q :: st) μ := fun p e s m args below meth c H locs ls E hP hD hS hl =>
  lv_ifnonnull E.x E.b hdg ht (kk p e s m args below meth c H locs ls E hP hD hS hl)
theorem z_ifnonnullN {off : Int} (hdg : decode Y.2.1 pc = .ok (.ifnonnull off, 3)) (kk : Zs G d Y F (pc + 3) lv st μ) : Zs G d Y F pc lv (.null :: st) μ := fun p e s m args below meth c H locs ls E hP hD hS hl =>
  lv_ifnonnullN E.x E.b hdg (kk p e s m args below meth c H locs ls E hP hD hS hl)
/-- a call on a word's letters -/
theorem z_callK (hdg : decode Y.2.1 pc = .ok (.invokevirtual idx, 3)) (hst : st0 = As.reverse ++ kf G (20 + i) :: st) (L : LkV Y.1.cls idx Y' n) (hn : As.length = n) (hd : d' < d) (hi : i < 5) (hci : Y'.1.cls = "java/lang/String") (hr : (st.map fun v => v.category).sum ≤ 8)
    (h : EV G d' Y' (kf G (20 + i) :: As) μ P') (kk : ∀ (v : Option Value) (μ' : Mm), P' v μ' → Zs G d Y F (pc + 3) lv (v.toList ++ st) μ') : Zs G d Y F pc lv st0 μ := by
  intro p e s m args below meth c H locs ls E hP hD hS hl
  subst hst
  obtain ⟨l1, l2, l3, l4, l5, l6, l7⟩ := L
  refine z_run E hD hS hl (va_runV (C := Y'.1.cls) (As := As) (rest := st) ⟨E.x, E.b, E.ml, E.o, E.t⟩ (h H.size) ⟨callB_of n E.t (wsY_good l5) rfl rfl rfl (E.t _ l4) (E.t _ l1) l7 (rm_ok hd l6), E.t _ l2, E.t _ l3⟩ ⟨pcY_blind _ _ _ _, ?_, pcY_at E hP hD hS (kf G (20 + i) :: As)⟩ rfl hn hl.1 rfl (lv_room hr) hdg ⟨Nat.le_add_right _ _, Nat.le_add_right _ _⟩) kk
  rw [hci]
  exact vk_recv (adK := fun i => G.2.2.2.1 (20 + i)) (i := i) E.c.2.2.2.2.2.2.2.2.2.2.2.2.1 hi hS
theorem z_cK0 (hdg : decode Y.2.1 pc = .ok (.invokevirtual idx, 3)) (L : LkV Y.1.cls idx Y' 0) (hd : d' < d) (hi : i < 5) (hci : Y'.1.cls = "java/lang/String") (hr : (st.map fun v => v.category).sum ≤ 8) (h : EVr G d' Y' [kf G (20 + i)] μ r) (kk : Zs G d Y F (pc + 3) lv (r :: st) μ) : Zs G d Y F pc lv (kf G (20 + i) :: st) μ :=
  z_callK (As := []) hdg rfl L rfl hd hi hci hr h (fun v μ' q => by obtain ⟨rfl, rfl⟩ := q; exact kk)
theorem z_cK1 (hdg : decode Y.2.1 pc = .ok (.invokevirtual idx, 3)) (L : LkV Y.1.cls idx Y' 1) (hd : d' < d) (hi : i < 5) (hci : Y'.1.cls = "java/lang/String") (hr : (st.map fun v => v.category).sum ≤ 8) (h : EVr G d' Y' [kf G (20 + i), a1] μ r) (kk : Zs G d Y F (pc + 3) lv (r :: st) μ) : Zs G d Y F pc lv (a1 :: kf G (20 + i) :: st) μ :=
  z_callK (As := [a1]) hdg rfl L rfl hd hi hci hr h (fun v μ' q => by obtain ⟨rfl, rfl⟩ := q; exact kk)
end ZC2
set_option maxRecDepth 100000 in
theorem ev_J0_coder_7d493 (G : Gt) {i : Nat} {μ : Mm} (hi : i < 5) : EVr G 0 Y_J0_coder_7d493 [kf G (20 + i)] μ (.int (nI 0)) := by
  refine ev_ofF (by decide +kernel) (Nat.le_of_ble_eq_true rfl) ?_
  show Zs G 0 Y_J0_coder_7d493 (fnN G _) 0 [(0, kf G (20 + i))] [] μ
  refine z_comp dJ0_coder_7d493_0 (tb_at 407 (by decide +kernel) rfl) ?_
  refine z_ifN_eq (tgt := 13) dJ0_coder_7d493_3 (by decide) (by omega) (fun c3 => absurd c3 (by decide)) (fun c3 => ?_)
  refine z_kload_n dJ0_coder_7d493_6 rfl ?_
  refine z_sCoder hi dJ0_coder_7d493_7 (tb_at 1280 (by decide +kernel) rfl) ?_
  refine z_goto (tgt := 14) dJ0_coder_7d493_10 (by decide) ?_
  exact z_zret rfl (by decide) dJ0_coder_7d493_14 ⟨rfl, rfl⟩
set_option maxRecDepth 100000 in
theorem ev_J0_isLatin1_aae02 (G : Gt) {i : Nat} {μ : Mm} (hi : i < 5) : EVr G 0 Y_J0_isLatin1_aae02 [kf G (20 + i)] μ (.int (nI 1)) := by
  refine ev_ofF (by decide +kernel) (Nat.le_of_ble_eq_true rfl) ?_
  show Zs G 0 Y_J0_isLatin1_aae02 (fnN G _) 0 [(0, kf G (20 + i))] [] μ
  refine z_comp dJ0_isLatin1_aae02_0 (tb_at 407 (by decide +kernel) rfl) ?_
  refine z_ifN_eq (tgt := 17) dJ0_isLatin1_aae02_3 (by decide) (by omega) (fun c3 => absurd c3 (by decide)) (fun c3 => ?_)
  refine z_kload_n dJ0_isLatin1_aae02_6 rfl ?_
  refine z_sCoder hi dJ0_isLatin1_aae02_7 (tb_at 1280 (by decide +kernel) rfl) ?_
  refine z_ifN_ne (tgt := 17) dJ0_isLatin1_aae02_10 (by decide) (by omega) (fun c10 => absurd rfl c10) (fun c10 => ?_)
  refine z_iconst (v := nI 1) dJ0_isLatin1_aae02_13 (by decide) ?_
  refine z_goto (tgt := 18) dJ0_isLatin1_aae02_14 (by decide) ?_
  exact z_zret rfl (by decide) dJ0_isLatin1_aae02_18 ⟨rfl, rfl⟩
set_option maxRecDepth 100000 in
theorem ev_J0_length_8abf5 (G : Gt) {i : Nat} {μ : Mm} (hi : i < 5) : EVr G 1 Y_J0_length_8abf5 [kf G (20 + i)] μ (.int (nI (wL i))) := by
  refine ev_ofF (by decide +kernel) (Nat.le_of_ble_eq_true rfl) ?_
  show Zs G 1 Y_J0_length_8abf5 (fnN G _) 0 [(0, kf G (20 + i))] [] μ
  refine z_kload_n dJ0_length_8abf5_0 rfl ?_
  refine z_sVal hi dJ0_length_8abf5_1 (tb_at 1279 (by decide +kernel) rfl) ?_
  refine z_sLen hi dJ0_length_8abf5_4 ?_
  refine z_kload_n dJ0_length_8abf5_5 rfl ?_
  refine z_cK0 dJ0_length_8abf5_6 lk_J0_335 (by decide) hi rfl (Nat.le_of_ble_eq_true rfl) (ev_J0_coder_7d493 G hi) ?_
  refine z_ishrN dJ0_length_8abf5_9 (by omega) (by have := wL_ok i hi; omega) ?_
  exact z_ret (ty := none) (v := none) rfl dJ0_length_8abf5_10 ⟨by rw [Nat.pow_zero, Nat.div_one], rfl⟩
set_option maxRecDepth 100000 in
theorem ev_J3_checkIndex_8e157_n (G : Gt) {x y t : Nat} {μ : Mm} (hx : x < y) (hy : y < 2 ^ 31) : EVr G 0 Y_J3_checkIndex_8e157 [.int (nI x), .int (nI y), .null] μ (.int (nI x)) := by
  refine ev_ofF (by decide +kernel) (Nat.le_of_ble_eq_true rfl) ?_
  show Zs G 0 Y_J3_checkIndex_8e157 (fnN G _) 0 [(0, .int (nI x)), (1, .int (nI y)), (2, .null)] [] μ
  refine z_iload_n dJ3_checkIndex_8e157_0 rfl ?_
  refine z_ifN_lt (tgt := 9) dJ3_checkIndex_8e157_1 (by decide) (by omega) ?_
  refine z_iload_n dJ3_checkIndex_8e157_4 rfl ?_
  refine z_iload_n dJ3_checkIndex_8e157_5 rfl ?_
  refine z_icmpN_lt (tgt := 16) dJ3_checkIndex_8e157_6 (by decide) (by omega) (by omega) (fun c6 => ?_) (fun c6 => absurd c6 (by omega))
  refine z_iload_n dJ3_checkIndex_8e157_16 rfl ?_
  exact z_ret (ty := none) (v := none) rfl dJ3_checkIndex_8e157_17 ⟨rfl, rfl⟩
set_option maxRecDepth 100000 in
theorem ev_J3_checkIndex_8e157_r (G : Gt) {x y t : Nat} {μ : Mm} (hx : x < y) (hy : y < 2 ^ 31) : EVr G 0 Y_J3_checkIndex_8e157 [.int (nI x), .int (nI y), (.ref t)] μ (.int (nI x)) := by
  refine ev_ofF (by decide +kernel) (Nat.le_of_ble_eq_true rfl) ?_
  show Zs G 0 Y_J3_checkIndex_8e157 (fnN G _) 0 [(0, .int (nI x)), (1, .int (nI y)), (2, (.ref t))] [] μ
  refine z_iload_n dJ3_checkIndex_8e157_0 rfl ?_
  refine z_ifN_lt (tgt := 9) dJ3_checkIndex_8e157_1 (by decide) (by omega) ?_
  refine z_iload_n dJ3_checkIndex_8e157_4 rfl ?_
  refine z_iload_n dJ3_checkIndex_8e157_5 rfl ?_
  refine z_icmpN_lt (tgt := 16) dJ3_checkIndex_8e157_6 (by decide) (by omega) (by omega) (fun c6 => ?_) (fun c6 => absurd c6 (by omega))
  refine z_iload_n dJ3_checkIndex_8e157_16 rfl ?_
  exact z_ret (ty := none) (v := none) rfl dJ3_checkIndex_8e157_17 ⟨rfl, rfl⟩
set_option maxRecDepth 100000 in
theorem ev_J0_checkIndex_df160 (G : Gt) {x y : Nat} {μ : Mm} (hx : x < y) (hy : y < 2 ^ 31) : EVv G 1 Y_J0_checkIndex_df160 [.int (nI x), .int (nI y)] μ μ := by
  refine ev_ofF (by decide +kernel) (Nat.le_of_ble_eq_true rfl) ?_
  show Zs G 1 Y_J0_checkIndex_df160 (fnN G _) 0 [(0, .int (nI x)), (1, .int (nI y))] [] μ
  refine z_iload_n dJ0_checkIndex_df160_0 rfl ?_
  refine z_iload_n dJ0_checkIndex_df160_1 rfl ?_
  refine z_sioobe dJ0_checkIndex_df160_2 (tb_at 423 (by decide +kernel) rfl) ?_ (fun t => ?_)
  · refine z_cS3 dJ0_checkIndex_df160_5 lk_J0_1059 (by decide) (Nat.le_of_ble_eq_true rfl) (ev_J3_checkIndex_8e157_n G (t := 0) hx hy) ?_
    refine z_pop dJ0_checkIndex_df160_8 rfl ?_
    exact z_vret rfl dJ0_checkIndex_df160_9 ⟨rfl, rfl⟩
  · refine z_cS3 dJ0_checkIndex_df160_5 lk_J0_1059 (by decide) (Nat.le_of_ble_eq_true rfl) (ev_J3_checkIndex_8e157_r G (t := t) hx hy) ?_
    refine z_pop dJ0_checkIndex_df160_8 rfl ?_
    exact z_vret rfl dJ0_checkIndex_df160_9 ⟨rfl, rfl⟩
theorem i2c_wB : ∀ i, i < 5 → ∀ j, j < wL i → (((nI (wB i j &&& 255)).toUInt32 % 65536).toInt32 = nI (wB i j)) := by decide +kernel
set_option maxRecDepth 100000 in
theorem ev_J1_charAt_3b067 (G : Gt) {i j : Nat} {μ : Mm} (hi : i < 5) (hj : j < wL i) : EVr G 2 Y_J1_charAt_3b067 [kf G (30 + i), .int (nI j)] μ (.int (nI (wB i j))) := by
  refine ev_ofF (by decide +kernel) (Nat.le_of_ble_eq_true rfl) ?_
  show Zs G 2 Y_J1_charAt_3b067 (fnN G _) 0 [(0, kf G (30 + i)), (1, .int (nI j))] [] μ
  refine z_iload_n dJ1_charAt_3b067_0 rfl ?_
  refine z_kload_n dJ1_charAt_3b067_1 rfl ?_
  refine z_sLen hi dJ1_charAt_3b067_2 ?_
  refine z_cS2v dJ1_charAt_3b067_3 lk_J1_9 (by decide) (Nat.le_of_ble_eq_true rfl) (ev_J0_checkIndex_df160 G hj (by have := wL_ok i hi; omega)) ?_
  refine z_kload_n dJ1_charAt_3b067_6 rfl ?_
  refine z_iload_n dJ1_charAt_3b067_7 rfl ?_
  refine z_sByte hi hj dJ1_charAt_3b067_8 ?_
  refine z_sipush (v := nI 255) dJ1_charAt_3b067_9 (by decide) ?_
  refine z_iandN dJ1_charAt_3b067_12 ?_
  refine z_i2c dJ1_charAt_3b067_13 (i2c_wB i hi j hj) ?_
  exact z_zret rfl (pk_charN (by have := (wB_ok i hi j hj).2; omega)).1 dJ1_charAt_3b067_14 ⟨rfl, rfl⟩
set_option maxRecDepth 100000 in
theorem ev_J0_charAt_5068e (G : Gt) {i j : Nat} {μ : Mm} (hi : i < 5) (hj : j < wL i) : EVr G 3 Y_J0_charAt_5068e [kf G (20 + i), .int (nI j)] μ (.int (nI (wB i j))) := by
  refine ev_ofF (by decide +kernel) (Nat.le_of_ble_eq_true rfl) ?_
  show Zs G 3 Y_J0_charAt_5068e (fnN G _) 0 [(0, kf G (20 + i)), (1, .int (nI j))] [] μ
  refine z_kload_n dJ0_charAt_5068e_0 rfl ?_
  refine z_cK0 dJ0_charAt_5068e_1 lk_J0_492 (by decide) hi rfl (Nat.le_of_ble_eq_true rfl) (ev_J0_isLatin1_aae02 G hi) ?_
  refine z_ifN_eq (tgt := 16) dJ0_charAt_5068e_4 (by decide) (by omega) (fun c4 => absurd c4 (by decide)) (fun c4 => ?_)
  refine z_kload_n dJ0_charAt_5068e_7 rfl ?_
  refine z_sVal hi dJ0_charAt_5068e_8 (tb_at 1279 (by decide +kernel) rfl) ?_
  refine z_iload_n dJ0_charAt_5068e_11 rfl ?_
  refine z_cS2 dJ0_charAt_5068e_12 lk_J0_495 (by decide) (Nat.le_of_ble_eq_true rfl) (ev_J1_charAt_3b067 G hi hj) ?_
  exact z_zret rfl (pk_charN (by have := (wB_ok i hi j hj).2; omega)).1 dJ0_charAt_5068e_15 ⟨rfl, rfl⟩
set_option maxRecDepth 100000 in
theorem ev_Jx29ce0_ordinal_8abf5 (G : Gt) {i : Nat} {μ : Mm} (hi : i < 5) : EVr G 0 Y_Jx29ce0_ordinal_8abf5 [kf G (10 + i)] μ (.int (nI i)) := by
  refine ev_ofF (by decide +kernel) (Nat.le_of_ble_eq_true rfl) ?_
  show Zs G 0 Y_Jx29ce0_ordinal_8abf5 (fnN G _) 0 [(0, kf G (10 + i))] [] μ
  refine z_kload_n dJx29ce0_ordinal_8abf5_0 rfl ?_
  refine z_ordf hi dJx29ce0_ordinal_8abf5_1 (tb_at 1282 (by decide +kernel) rfl) ?_
  exact z_ret (ty := none) (v := none) rfl dJx29ce0_ordinal_8abf5_4 ⟨rfl, rfl⟩
