/-- a field of a class of ours, by the pool's number: read; written -/
def FLg (own : String) (idx ci k : Nat) : Prop := ∃ (C : String) (T : u_T) (N : Nat), vwCl[ci]? = some (C, T, N) ∧ k < N ∧ (∀ w ∈ u_ws C T N, w ∈ tbG) ∧ (T k).1 = C ∧
  (Cond.fieldLink own idx C (T k).2.1 (T k).2.2.1 ∈ tbG ∨ Cond.fieldLinkNest own idx C (T k).2.1 (T k).2.2.1 "ZeroParts" ∈ nestW)
def FLp (own : String) (idx ci k : Nat) (ty : FieldType) : Prop := ∃ (C : String) (T : u_T) (N : Nat), vwCl[ci]? = some (C, T, N) ∧ k < N ∧ (∀ w ∈ u_ws C T N, w ∈ tbG) ∧ (T k).1 = C ∧
  (Cond.fieldLink own idx C (T k).2.1 (T k).2.2.1 ∈ tbG ∨ Cond.fieldLinkNest own idx C (T k).2.1 (T k).2.2.1 "ZeroParts" ∈ nestW) ∧
  (T k).2.2.2 = false ∧ parseFieldDescriptor (T k).2.2.1 = some ty ∧ (∃ ty0 : Nat → FieldType, ∀ j, j < N → parseFieldDescriptor (T j).2.2.1 = some (ty0 j)) ∧ (∀ a, a < N → ∀ b, b < N → a ≠ b → (T a).2.1 ≠ (T b).2.1)
section ZF
variable {G : Gt} {d : Nat} {Y : YC} {F : Fn} {pc idx ci k i j n : Nat} {lv : List (Nat × Value)} {st : List Value} {μ : Mm} {P : Option Value → Mm → Prop}
theorem z_getV {ks : List Sk} {sk : Sk} {v : Value} (hdg : decode Y.2.1 pc = .ok (.getfield idx, 3)) (L : FLg Y.1.cls idx ci k) (hi : i < NW) (hsh : sh i = .inr (ci, ks)) (hk : ks[k]? = some sk) (hv : slv G μ i k sk = v)
    (kk : Zs G d Y F (pc + 3) lv (v :: st) μ) : Zs G d Y F pc lv (rf G i :: st) μ := by
  intro p e s m args below meth c H locs ls E hP hD hS hl
  obtain ⟨C, T, N, hc, hkN, hin, hC, hlink⟩ := L
  have hg := wl_get G μ hi
  rw [ent_o hsh] at hg
  have hf : (ks.mapIdx (fun k s => slv G μ i k s))[k]? = some v := by rw [ent_slot hk, hv]
  rcases hlink with h | h
  · exact va_get (D := G.2.1) (ci := ci) E.x E.b E.t hin E.o E.k hP i hg hc k hkN (E.t _ h) (fun x hx => by rw [← hC]; exact hx) hf hdg (kk p e s m args below meth c H locs ls E hP hD hS hl)
  · exact va_getN (D := G.2.1) (ci := ci) E.x E.b E.t hin E.o E.k hP i hg hc k hkN (va_Nw.use rfl (E.c.1.1 _ h)) (fun x hx => by rw [← hC]; exact hx) hf hdg (kk p e s m args below meth c H locs ls E hP hD hS hl)
theorem z_getI {x : Int32} (hdg : decode Y.2.1 pc = .ok (.getfield idx, 3)) (L : FLg Y.1.cls idx ci k) (h : Fi i ci k) (hx : μ.1 i k = x) (kk : Zs G d Y F (pc + 3) lv (.int x :: st) μ) : Zs G d Y F pc lv (rf G i :: st) μ := by
  obtain ⟨hi, ks, hsh, hk⟩ := h
  exact z_getV hdg L hi hsh hk (by rw [← hx]; rfl) kk
theorem z_getR (hdg : decode Y.2.1 pc = .ok (.getfield idx, 3)) (L : FLg Y.1.cls idx ci k) (h : Fr i ci k j) (kk : Zs G d Y F (pc + 3) lv (rf G j :: st) μ) : Zs G d Y F pc lv (rf G i :: st) μ := by
  obtain ⟨hi, ks, hsh, hk⟩ := h
  exact z_getV hdg L hi hsh hk rfl kk
theorem z_getW {w : Option Nat} (hdg : decode Y.2.1 pc = .ok (.getfield idx, 3)) (L : FLg Y.1.cls idx ci k) (h : Fw i ci k) (hx : μ.2.2.2.1 = w) (kk : Zs G d Y F (pc + 3) lv (wv G w :: st) μ) : Zs G d Y F pc lv (rf G i :: st) μ := by
  obtain ⟨hi, ks, hsh, hk⟩ := h
  exact z_getV hdg L hi hsh hk (by rw [← hx]; rfl) kk
theorem z_putV {ks : List Sk} {sk : Sk} {v : Value} {ty : FieldType} {μ' : Mm} (hdg : decode Y.2.1 pc = .ok (.putfield idx, 3)) (L : FLp Y.1.cls idx ci k ty) (hi : i < NW) (hsh : sh i = .inr (ci, ks)) (hk : ks[k]? = some sk) (hn : narrow ty v = v) (hf : fits ty v = true)
    (h1 : ent G μ' i = .inr (ci, (ks.mapIdx (fun k s => slv G μ i k s)).set k v)) (h2 : ∀ j, j ≠ i → ent G μ' j = ent G μ j)
    (kk : Zs G d Y F (pc + 3) lv st μ') : Zs G d Y F pc lv (v :: rf G i :: st) μ := by
  intro p e s m args below meth c H locs ls E hP hD hS hl
  obtain ⟨C, T, N, hc, hkN, hin, hC, hlink, hfin, hpd, ⟨ty0, hty⟩, hnm⟩ := L
  have hg := wl_get G μ hi
  rw [ent_o hsh] at hg
  have hlen : k < (ks.mapIdx (fun k s => slv G μ i k s)).length := by rw [List.length_mapIdx]; exact (List.getElem?_eq_some_iff.mp hk).1
  have hset := wl_set (G := G) (μ := μ) hi h1 h2
  rcases hlink with h | h
  · refine va_put (D := G.2.1) (ci := ci) E.x E.b E.t hin ty0 hty hnm E.o E.k hP hD hS i hg hc k hkN (E.t _ h) (fun x hx => by rw [← hC]; exact hx) hfin hpd hn hf hlen hdg (fun H1 locs1 hP1 hD1 hS1 => ?_)
    rw [hset] at hP1 hD1
    exact kk p e s m args below meth c H1 locs1 ls E hP1 hD1 hS1 hl
  · refine va_putN (D := G.2.1) (ci := ci) E.x E.b E.t hin ty0 hty hnm E.o E.k hP hD hS i hg hc k hkN (va_Nw.use rfl (E.c.1.1 _ h)) (fun x hx => by rw [← hC]; exact hx) hfin hpd hn hf hlen hdg (fun H1 locs1 hP1 hD1 hS1 => ?_)
    rw [hset] at hP1 hD1
    exact kk p e s m args below meth c H1 locs1 ls E hP1 hD1 hS1 hl
theorem z_putI {x : Int32} (hdg : decode Y.2.1 pc = .ok (.putfield idx, 3)) (L : FLp Y.1.cls idx ci k .int) (h : Fi i ci k) (kk : Zs G d Y F (pc + 3) lv st (uF μ i k x)) : Zs G d Y F pc lv (.int x :: rf G i :: st) μ := by
  obtain ⟨hi, ks, hsh, hk⟩ := h
  exact z_putV hdg L hi hsh hk (vp_nar_int x) rfl (ent_uF hsh hk) (fun j hj => ent_uFn hj) kk
theorem z_putZ {x : Int32} (hdg : decode Y.2.1 pc = .ok (.putfield idx, 3)) (L : FLp Y.1.cls idx ci k .boolean) (h : Fi i ci k) (hn : narrow .boolean (.int x) = .int x) (hf : fits .boolean (.int x) = true) (kk : Zs G d Y F (pc + 3) lv st (uF μ i k x)) : Zs G d Y F pc lv (.int x :: rf G i :: st) μ := by
  obtain ⟨hi, ks, hsh, hk⟩ := h
  exact z_putV hdg L hi hsh hk hn hf (ent_uF hsh hk) (fun j hj => ent_uFn hj) kk
theorem sh_word : ∀ (j : Nat), j ≠ 33 → ∀ (ci : Nat) (ks : List Sk), sh j = .inr (ci, ks) → ∀ k : Nat, ks[k]? ≠ some (some none) := by
  intro j hj ci ks h k
  by_cases hlt : j < 47
  · have key : ∀ j, j < 47 → j ≠ 33 → (match sh j with | .inl _ => true | .inr a => a.2.all (fun s => decide (s ≠ some none))) = true := by decide +kernel
    have h1 := key j hlt hj
    rw [h] at h1
    intro hk
    have h2 := List.all_eq_true.mp h1 _ (List.mem_of_getElem? hk)
    simp at h2
  · have : sh j = .inl (9, 0) := by
      unfold sh
      split <;> first | omega | rfl
    rw [this] at h
    cases h
theorem z_putW {w : Option Nat} (hdg : decode Y.2.1 pc = .ok (.putfield idx, 3)) (L : FLp Y.1.cls idx 0 4 (.object "ZeroParts$Word")) (kk : Zs G d Y F (pc + 3) lv st (uW μ w)) : Zs G d Y F pc lv (wv G w :: rf G 33 :: st) μ := by
  refine z_putV hdg L (by decide) (hsh := rfl) (hk := rfl) ?_ ?_ (ent_uW rfl rfl ?_) (fun j hj => ent_uWn (sh_word j hj)) kk
  · cases w <;> rfl
  · cases w <;> rfl
  · intro j hj
    match j, hj with
    | 0, _ => simp
    | 1, _ => simp
    | 2, _ => simp
    | 3, _ => simp
    | 4, h => exact absurd rfl h
    | 5, _ => simp
    | 6, _ => simp
    | j + 7, _ => simp
/-- arrays -/
theorem arC_i {t : Nat} (h : t < 2) : arC G μ i t n = (n, .inl (μ.2.1 i)) := by unfold arC; rw [if_neg (by omega), if_neg (by omega)]
theorem z_iald {a : Int32} {x : Int32} (hdg : decode Y.2.1 pc = .ok (.iaload, 1)) (h : Fa i 0 n) (hin : vp_in a n) (hx : μ.2.1 i a.toNatClampNeg = x) (kk : Zs G d Y F (pc + 1) lv (.int x :: st) μ) : Zs G d Y F pc lv (.int a :: rf G i :: st) μ := by
  intro p e s m args below meth c H locs ls E hP hD hS hl
  obtain ⟨hi, hsh⟩ := h
  have hg := wl_get G μ hi
  rw [ent_a hsh, arC_i (by decide)] at hg
  refine va_iald (D := G.2.1) E.x E.b E.k hP i 0 hg rfl hin hdg ?_
  rw [hx]
  exact kk p e s m args below meth c H locs ls E hP hD hS hl
theorem z_ialdN {a : Nat} {x : Int32} (hdg : decode Y.2.1 pc = .ok (.iaload, 1)) (h : Fa i 0 n) (ha : a < n) (hn : n < 2 ^ 31) (hx : μ.2.1 i a = x) (kk : Zs G d Y F (pc + 1) lv (.int x :: st) μ) : Zs G d Y F pc lv (.int (nI a) :: rf G i :: st) μ :=
  z_iald hdg h (vp_in_nI ha hn) (by rw [nI_clamp (by omega)]; exact hx) kk
theorem z_zaldN {a : Nat} {x : Int32} (hdg : decode Y.2.1 pc = .ok (.baload, 1)) (h : Fa i 1 n) (ha : a < n) (hn : n < 2 ^ 31) (hx : μ.2.1 i a = x) (kk : Zs G d Y F (pc + 1) lv (.int x :: st) μ) : Zs G d Y F pc lv (.int (nI a) :: rf G i :: st) μ := by
  intro p e s m args below meth c H locs ls E hP hD hS hl
  obtain ⟨hi, hsh⟩ := h
  have hg := wl_get G μ hi
  rw [ent_a hsh, arC_i (by decide)] at hg
  refine va_zald (D := G.2.1) E.x E.b E.k hP i 1 hg rfl (vp_in_nI ha hn) hdg ?_
  rw [nI_clamp (by omega), hx]
  exact kk p e s m args below meth c H locs ls E hP hD hS hl
theorem z_aaldN {a : Nat} (hdg : decode Y.2.1 pc = .ok (.aaload, 1)) (h : Fa i 2 n) (ha : a < n) (hn : n < 2 ^ 31) (hx : μ.2.2.1 a = j) (kk : Zs G d Y F (pc + 1) lv (rf G j :: st) μ) : Zs G d Y F pc lv (.int (nI a) :: rf G i :: st) μ := by
  intro p e s m args below meth c H locs ls E hP hD hS hl
  obtain ⟨hi, hsh⟩ := h
  have hg := wl_get G μ hi
  rw [ent_a hsh] at hg
  unfold arC at hg
  rw [if_pos rfl] at hg
  refine va_aldq (D := G.2.1) E.x E.b E.k hP i 2 hg rfl (vp_in_nI ha hn) hdg ?_
  rw [nI_clamp (by omega), hx]
  exact kk p e s m args below meth c H locs ls E hP hD hS hl
theorem z_laldN (hdg : decode Y.2.1 pc = .ok (.laload, 1)) (h : Fa i 3 n) (hn : 0 < n) (hn2 : n < 2 ^ 31) (kk : Zs G d Y F (pc + 1) lv (.long μ.2.2.2.2 :: st) μ) : Zs G d Y F pc lv (.int (nI 0) :: rf G i :: st) μ := by
  intro p e s m args below meth c H locs ls E hP hD hS hl
  obtain ⟨hi, hsh⟩ := h
  have hg := wl_get G μ hi
  rw [ent_a hsh] at hg
  unfold arC at hg
  rw [if_neg (by decide), if_pos rfl] at hg
  refine va_lald (D := G.2.1) E.x E.b E.k hP i 3 hg rfl (vp_in_nI hn hn2) hdg ?_
  exact kk p e s m args below meth c H locs ls E hP hD hS hl
theorem z_iast {a x : Int32} (hdg : decode Y.2.1 pc = .ok (.iastore, 1)) (h : Fa i 0 n) (hin : vp_in a n) (kk : Zs G d Y F (pc + 1) lv st (uR μ i a.toNatClampNeg x)) : Zs G d Y F pc lv (.int x :: .int a :: rf G i :: st) μ := by
  intro p e s m args below meth c H locs ls E hP hD hS hl
  obtain ⟨hi, hsh⟩ := h
  have hg := wl_get G μ hi
  rw [ent_a hsh, arC_i (by decide)] at hg
  refine va_iast (D := G.2.1) E.x E.b E.k hP hD hS i 0 hg rfl hin hdg (fun H1 locs1 hP1 hD1 hS1 => ?_)
  rw [wl_set (μ' := uR μ i a.toNatClampNeg x) hi (ent_uR hsh (by decide)) (fun j hj => ent_uRn hj)] at hP1 hD1
  exact kk p e s m args below meth c H1 locs1 ls E hP1 hD1 hS1 hl
theorem z_iastN {a : Nat} {x : Int32} (hdg : decode Y.2.1 pc = .ok (.iastore, 1)) (h : Fa i 0 n) (ha : a < n) (hn : n < 2 ^ 31) (kk : Zs G d Y F (pc + 1) lv st (uR μ i a x)) : Zs G d Y F pc lv (.int x :: .int (nI a) :: rf G i :: st) μ :=
  z_iast hdg h (vp_in_nI ha hn) (by rw [nI_clamp (by omega)]; exact kk)
theorem z_zastN {a : Nat} {x : Int32} (hdg : decode Y.2.1 pc = .ok (.bastore, 1)) (h : Fa i 1 n) (ha : a < n) (hn : n < 2 ^ 31) (hz : vp_nar .boolean x = x) (kk : Zs G d Y F (pc + 1) lv st (uR μ i a x)) : Zs G d Y F pc lv (.int x :: .int (nI a) :: rf G i :: st) μ := by
  intro p e s m args below meth c H locs ls E hP hD hS hl
  obtain ⟨hi, hsh⟩ := h
  have hg := wl_get G μ hi
  rw [ent_a hsh, arC_i (by decide)] at hg
  refine va_zast (D := G.2.1) E.x E.b E.k hP hD hS i 1 hg rfl (vp_in_nI ha hn) hdg (fun H1 locs1 hP1 hD1 hS1 => ?_)
  rw [nI_clamp (by omega), hz, wl_set (μ' := uR μ i a x) hi (ent_uR hsh (by decide)) (fun j hj => ent_uRn hj)] at hP1 hD1
  exact kk p e s m args below meth c H1 locs1 ls E hP1 hD1 hS1 hl
theorem sh_kept : ∀ (j : Nat), j ≠ 6 → ∀ n, sh j ≠ .inl (2, n) := by
  intro j hj n h
  by_cases hlt : j < 47
  · have key : ∀ j, j < 47 → j ≠ 6 → (match sh j with | .inl a => decide (a.1 ≠ 2) | .inr _ => true) = true := by decide +kernel
    have h1 := key j hlt hj
    rw [h] at h1
    simp at h1
  · have : sh j = .inl (9, 0) := by
      unfold sh
      split <;> first | omega | rfl
    rw [this] at h
    cases h
theorem sh_out : ∀ (j : Nat), j ≠ 46 → ∀ n, sh j ≠ .inl (3, n) := by
  intro j hj n h
  by_cases hlt : j < 47
  · have key : ∀ j, j < 47 → j ≠ 46 → (match sh j with | .inl a => decide (a.1 ≠ 3) | .inr _ => true) = true := by decide +kernel
    have h1 := key j hlt hj
    rw [h] at h1
    simp at h1
  · have : sh j = .inl (9, 0) := by
      unfold sh
      split <;> first | omega | rfl
    rw [this] at h
    cases h
theorem z_aastN {a v : Nat} (hdg : decode Y.2.1 pc = .ok (.aastore, 1)) (ha : a < 4) (hv : Fo v 3) (kk : Zs G d Y F (pc + 1) lv st (uK μ a v)) : Zs G d Y F pc lv (rf G v :: .int (nI a) :: rf G 6 :: st) μ := by
  intro p e s m args below meth c H locs ls E hP hD hS hl
  obtain ⟨hvi, ks, hvs⟩ := hv
  have hg := wl_get G μ (i := 6) (by decide)
  rw [ent_a (i := 6) (t := 2) (n := 4) rfl] at hg
  unfold arC at hg
  rw [if_pos rfl] at hg
  have hgv := wl_get G μ hvi
  rw [ent_o hvs] at hgv
  refine va_astq (D := G.2.1) (cl := vwCl) (r := (RX4, TX4, 4)) E.x E.b E.k hP hD hS 6 2 v 3 hg rfl hgv rfl (vp_in_nI ha (by decide)) hdg (fun H1 locs1 hP1 hD1 hS1 => ?_)
  rw [nI_clamp (by omega), wl_set (μ' := uK μ a v) (by decide) (ent_uK rfl) (fun j hj => ent_uKn (sh_kept j hj))] at hP1 hD1
  exact kk p e s m args below meth c H1 locs1 ls E hP1 hD1 hS1 hl
theorem z_lastN {x : Int64} (hdg : decode Y.2.1 pc = .ok (.lastore, 1)) (kk : Zs G d Y F (pc + 1) lv st (uO μ x)) : Zs G d Y F pc lv (.long x :: .int (nI 0) :: rf G 46 :: st) μ := by
  intro p e s m args below meth c H locs ls E hP hD hS hl
  have hg := wl_get G μ (i := 46) (by decide)
  rw [ent_a (i := 46) (t := 3) (n := 1) rfl] at hg
  unfold arC at hg
  rw [if_neg (by decide), if_pos rfl] at hg
  have hin : vp_in (nI 0) 1 := vp_in_nI (by decide) (by decide)
  refine va_last (D := G.2.1) E.x E.b E.k hP hD hS 46 3 hg rfl hin hdg (fun H1 locs1 hP1 hD1 hS1 => ?_)
  have e1 : (vp_updL (fun j => if j = 0 then μ.2.2.2.2 else 0) (nI 0).toNatClampNeg x) = (fun j => if j = 0 then x else 0) := by
    funext j
    rw [show (nI 0).toNatClampNeg = 0 from rfl]
    unfold vp_updL
    by_cases hj : j = 0
    · rw [if_pos hj, if_pos hj]
    · simp [hj]
  rw [e1, wl_set (μ' := uO μ x) (by decide) (ent_uO rfl) (fun j hj => ent_uOn (sh_out j hj))] at hP1 hD1
  exact kk p e s m args below meth c H1 locs1 ls E hP1 hD1 hS1 hl
/-- ends -/
theorem z_ret {v : Option Value} {ty : Option FieldType} {x : Int32} (hr : Y.2.2.2 = some .int) (hdg : decode Y.2.1 pc = .ok (.ireturn, 1)) (h : P (some (.int x)) μ) : Zs G d Y (fnN G P) pc lv [.int x] μ :=
  fun p e s m args below meth c H locs ls E hP hD hS hl => W.iret E.x E.b (E.r.trans hr) (fun t ht hW => ⟨⟨_, μ, rfl, h, by rw [ht]; exact hP⟩, hS.F ht⟩) hS.2.2 hdg E.lk
theorem z_zret {ty : FieldType} {x : Int32} (hr : Y.2.2.2 = some ty) (hn : narrow ty (.int x) = .int x) (hdg : decode Y.2.1 pc = .ok (.ireturn, 1)) (h : P (some (.int x)) μ) : Zs G d Y (fnN G P) pc lv [.int x] μ :=
  fun p e s m args below meth c H locs ls E hP hD hS hl => W.zret E.x E.b (E.r.trans hr) hn (fun t ht hW => ⟨⟨_, μ, rfl, h, by rw [ht]; exact hP⟩, hS.F ht⟩) hS.2.2 hdg E.lk
theorem z_lret {x : Int64} (hr : Y.2.2.2 = some .long) (hdg : decode Y.2.1 pc = .ok (.lreturn, 1)) (h : P (some (.long x)) μ) : Zs G d Y (fnN G P) pc lv [.long x] μ :=
  fun p e s m args below meth c H locs ls E hP hD hS hl => W.lret E.x E.b (E.r.trans hr) (fun t ht hW => ⟨⟨_, μ, rfl, h, by rw [ht]; exact hP⟩, hS.F ht⟩) hS.2.2 hdg E.lk
theorem z_dret {x : UInt64} (hr : Y.2.2.2 = some .double) (hdg : decode Y.2.1 pc = .ok (.dreturn, 1)) (h : P (some (.double x)) μ) : Zs G d Y (fnN G P) pc lv [.double x] μ :=
  fun p e s m args below meth c H locs ls E hP hD hS hl => W.dret E.x E.b (E.r.trans hr) (fun t ht hW => ⟨⟨_, μ, rfl, h, by rw [ht]; exact hP⟩, hS.F ht⟩) hS.2.2 hdg E.lk
theorem z_aret {C : String} {v : Value} (hr : Y.2.2.2 = some (.object C)) (hv : v = .null ∨ ∃ a, v = .ref a) (hdg : decode Y.2.1 pc = .ok (.areturn, 1)) (h : P (some v) μ) : Zs G d Y (fnN G P) pc lv [v] μ :=
  fun p e s m args below meth c H locs ls E hP hD hS hl => W.aret E.x E.b (E.r.trans hr) (Or.inl ⟨C, rfl⟩) hv (fun t ht hW => ⟨⟨_, μ, rfl, h, by rw [ht]; exact hP⟩, hS.F ht⟩) hS.2.2 hdg E.lk
theorem z_vret (hr : Y.2.2.2 = none) (hdg : decode Y.2.1 pc = .ok (.return_, 1)) (h : P none μ) : Zs G d Y (fnN G P) pc lv [] μ :=
  fun p e s m args below meth c H locs ls E hP hD hS hl => W.vret E.x E.b (E.r.trans hr) (fun t ht hW => ⟨⟨_, μ, rfl, h, by rw [ht]; exact hP⟩, hS.F ht⟩) hS.2.2 hdg E.lk
/-- fewer locals -/
theorem z_sub {lv' : List (Nat × Value)} (h : lv'.map (fun q => lv.lookup q.1) = lv'.map (fun q => some q.2)) (k : Zs G d Y F pc lv' st μ) : Zs G d Y F pc lv st μ := by
  intro p e s m args below meth c H locs ls E hP hD hS hl
  refine k p e s m args below meth c H locs ls E hP hD hS ⟨hl.1, hl.2.1, fun q hq => ?_⟩
  obtain ⟨i, hi⟩ := List.getElem?_of_mem hq
  have h1 : (lv'.map (fun q => lv.lookup q.1))[i]? = (lv'.map (fun q => some q.2))[i]? := by rw [h]
  rw [List.getElem?_map, List.getElem?_map, hi] at h1
  exact lk_at hl (Option.some.inj h1)
theorem z_tsw {dflt lo hi off : Int} {offs : Array Int} {len tgt a : Nat} (hdg : decode Y.2.1 pc = .ok (.tableswitch dflt lo hi offs, len)) (ha : a < 2 ^ 31) (h1 : ¬ (a : Int) < lo) (h2 : ¬ hi < (a : Int)) (ho : offs[((a : Int) - lo).toNat]? = some off) (ht : (pc : Int) + off = (tgt : Int)) (k : Zs G d Y F tgt lv st μ) : Zs G d Y F pc lv (.int (nI a) :: st) μ := by
  intro p e s m args below meth c H locs ls E hP hD hS hl
  have e1 := nI_toInt ha
  exact lv_tableIn E.x E.b hdg (by rw [e1]; exact h1) (by rw [e1]; exact h2) (by rw [e1]; exact ho) ht (k p e s m args below meth c H locs ls E hP hD hS hl)
theorem z_tswD {dflt lo hi : Int} {offs : Array Int} {len tgt : Nat} {x : Int32} (hdg : decode Y.2.1 pc = .ok (.tableswitch dflt lo hi offs, len)) (h : x.toInt < lo ∨ hi < x.toInt) (ht : (pc : Int) + dflt = (tgt : Int)) (k : Zs G d Y F tgt lv st μ) : Zs G d Y F pc lv (.int x :: st) μ :=
  fun p e s m args below meth c H locs ls E hP hD hS hl => lv_tableOut E.x E.b hdg h ht (k p e s m args below meth c H locs ls E hP hD hS hl)
end ZF
