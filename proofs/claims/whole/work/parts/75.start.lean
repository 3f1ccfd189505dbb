/-- what the law knows of its start -/
def HY0 (b L : Nat) (xs : Nat → Int32) (args : Array Value) (s : State) : Prop := args = #[Value.ref b] ∧ va_X b L xs s s.heap ∧ b < s.heap.size ∧ (∀ w ∈ lw_tbl, w.before args s = true) ∧ (Jvm.Cond.and given_1 narrow_1).before args s = true
def UnL (b L : Nat) (xs : Nat → Int32) : Un := (fun s q => s.heap.size ≤ q, fun _ below args s t => HY0 b L xs args s → lw_Z below #[Value.ref b] s t)
/-- what the new cells hold -/
def mu0 : Mm := (fun i k => if i = 2 ∨ i = 8 ∨ i = 12 ∨ i = 16 ∨ i = 20 ∨ i = 25 then (if k = 0 then nI 6 else nI 1) else if i = 23 ∧ k = 7 then nI 1 else if i = 33 ∧ k = 3 then -1 else nI 0,
  fun i => if i = 30 ∨ i = 31 then upd (fun _ => 0) (nI 0).toNatClampNeg (nI 1) else if i = 36 then upd (upd (fun _ => 0) (nI 0).toNatClampNeg (nI 6)) (nI 1).toNatClampNeg (nI 1) else fun _ => 0, fun j => 7 + 4 * j, none, 0)
theorem inv0 : Inv mu0 := by
  refine ⟨(6, 1, 0, fun _ => 0, fun _ => 0), 0, fun _ => (6, 1, 0, fun _ => 0, fun _ => 0), 0, fun _ => 0, ⟨?_, ?_, ?_, ?_⟩, ?_, ?_, ?_, ?_⟩
  · exact ⟨rfl, by decide, ⟨rfl, rfl, by decide, by decide, by decide, by decide⟩, fun k hk => absurd hk (Nat.not_lt_zero k), fun k hk => absurd hk (Nat.not_lt_zero k)⟩
  · refine ⟨6, 1, 0, fun _ => 0, 1, ⟨fun _ => 0, rfl, by decide, ⟨rfl, rfl, by decide, by decide, by decide, by decide⟩, fun k hk => absurd hk (Nat.not_lt_zero k), fun k hk => absurd hk (Nat.not_lt_zero k)⟩, ?_, ?_, ?_, ?_, rfl, by decide, by decide, ?_⟩
    · intro S hS
      rw [show S = 0 by omega]; decide +kernel
    · intro S hS
      rw [show S = 0 by omega]; decide +kernel
    · decide +kernel
    · intro S hS hb
      rw [show S = 0 by omega, blk_0] at hb; cases hb
    · intro S hS
      rw [show S = 0 by omega]; decide +kernel
  · refine ⟨rfl, by decide, fun j hj => ?_, fun i j hi hj h => ?_, fun j hj => absurd hj (Nat.not_lt_zero j)⟩
    · rcases (show j = 0 ∨ j = 1 ∨ j = 2 ∨ j = 3 by omega) with rfl | rfl | rfl | rfl
      · exact Or.inl rfl
      · exact Or.inr (Or.inl rfl)
      · exact Or.inr (Or.inr (Or.inl rfl))
      · exact Or.inr (Or.inr (Or.inr rfl))
    · have h' : 7 + 4 * i = 7 + 4 * j := h
      omega
  · exact ⟨rfl, by decide, fun k hk => absurd hk (Nat.not_lt_zero k)⟩
  · exact ⟨by decide +kernel, by decide +kernel, by decide +kernel, by decide, ⟨by decide, by decide, by decide, by decide⟩, fun k hk => absurd hk (Nat.not_lt_zero k), fun k hk => absurd hk (Nat.not_lt_zero k)⟩
  · exact ⟨rfl, by decide, fun j hj => absurd hj (Nat.not_lt_zero j)⟩
  · exact ⟨rfl, by decide, fun k hk => absurd hk (Nat.not_lt_zero k)⟩
  · rfl
def adrN (h : Nat) (q : Nat → Nat) (h8 : Nat) (q8 : Nat → Nat) (hl i : Nat) : Nat := if i = 0 then h else if i < 35 then q (i - 1) else if i = 35 then h8 else if i < 46 then q8 (i - 36) else hl
def wsL (ct : Nat → ClassId) (a1 : Nat) (qa2 : Nat → Nat) (a3 : Nat) (qa4 : Nat → Nat) (a5 : Nat) : va_W := [(a1, .inr (5, [.ref (qa2 0), .ref (qa2 4), .ref (qa2 22), .ref (qa2 32)])), ((qa2 0), .inr (3, [.ref (qa2 1), .ref (qa2 2), .ref (qa2 3), .int (nI 0)])), ((qa2 1), .inr (1, [.int (nI 6), .int (nI 1)])), ((qa2 2), .inl (ct 0, (10, .inl (fun _ => 0)))), ((qa2 3), .inl (ct 0, (10, .inl (fun _ => 0)))), ((qa2 4), .inr (2, [.ref (qa2 5), .int (nI 0)])), ((qa2 5), .inl (ct 2, (4, .inr (.inr (.inr (.inr (va_up (va_up (va_up (va_up (fun _ => none) (nI 0).toNatClampNeg (some (qa2 6))) (nI 1).toNatClampNeg (some (qa2 10))) (nI 2).toNatClampNeg (some (qa2 14))) (nI 3).toNatClampNeg (some (qa2 18))))))))), ((qa2 6), .inr (3, [.ref (qa2 7), .ref (qa2 8), .ref (qa2 9), .int (nI 0)])), ((qa2 7), .inr (1, [.int (nI 6), .int (nI 1)])), ((qa2 8), .inl (ct 0, (10, .inl (fun _ => 0)))), ((qa2 9), .inl (ct 0, (10, .inl (fun _ => 0)))), ((qa2 10), .inr (3, [.ref (qa2 11), .ref (qa2 12), .ref (qa2 13), .int (nI 0)])), ((qa2 11), .inr (1, [.int (nI 6), .int (nI 1)])), ((qa2 12), .inl (ct 0, (10, .inl (fun _ => 0)))), ((qa2 13), .inl (ct 0, (10, .inl (fun _ => 0)))), ((qa2 14), .inr (3, [.ref (qa2 15), .ref (qa2 16), .ref (qa2 17), .int (nI 0)])), ((qa2 15), .inr (1, [.int (nI 6), .int (nI 1)])), ((qa2 16), .inl (ct 0, (10, .inl (fun _ => 0)))), ((qa2 17), .inl (ct 0, (10, .inl (fun _ => 0)))), ((qa2 18), .inr (3, [.ref (qa2 19), .ref (qa2 20), .ref (qa2 21), .int (nI 0)])), ((qa2 19), .inr (1, [.int (nI 6), .int (nI 1)])), ((qa2 20), .inl (ct 0, (10, .inl (fun _ => 0)))), ((qa2 21), .inl (ct 0, (10, .inl (fun _ => 0)))), ((qa2 22), .inr (4, [.ref (qa2 23), .ref (qa2 27), .ref (qa2 28), .ref (qa2 29), .ref (qa2 30), .ref (qa2 31), .int (nI 0), .int (nI 1)])), ((qa2 23), .inr (3, [.ref (qa2 24), .ref (qa2 25), .ref (qa2 26), .int (nI 0)])), ((qa2 24), .inr (1, [.int (nI 6), .int (nI 1)])), ((qa2 25), .inl (ct 0, (10, .inl (fun _ => 0)))), ((qa2 26), .inl (ct 0, (10, .inl (fun _ => 0)))), ((qa2 27), .inl (ct 0, (1024, .inl (fun _ => 0)))), ((qa2 28), .inl (ct 0, (1024, .inl (fun _ => 0)))), ((qa2 29), .inl (ct 0, (1024, .inl (upd (fun _ => 0) (nI 0).toNatClampNeg (nI 1))))), ((qa2 30), .inl (ct 0, (1024, .inl (upd (fun _ => 0) (nI 0).toNatClampNeg (nI 1))))), ((qa2 31), .inl (ct 0, (1024, .inl (fun _ => 0)))), ((qa2 32), .inr (0, [.ref (qa2 33), .int (nI 0), .int (nI 0), .int (-1), .null, .int (nI 0), .int (nI 0)])), ((qa2 33), .inl (ct 0, (150, .inl (fun _ => 0)))), (a3, .inr (6, [.ref (qa4 0), .ref (qa4 1), .int 0, .int 0, .int 0, .ref (qa4 2), .int 0, .ref (qa4 3), .int 0, .int 0, .int 0, .ref (qa4 4), .int 0, .ref (qa4 5), .ref (qa4 6), .ref (qa4 7), .ref (qa4 8), .ref (qa4 9)])), ((qa4 0), .inl (ct 0, (23, .inl (upd (upd (fun _ => 0) (nI 0).toNatClampNeg (nI 6)) (nI 1).toNatClampNeg (nI 1))))), ((qa4 1), .inl (ct 0, (92, .inl (fun _ => 0)))), ((qa4 2), .inl (ct 0, (150, .inl (fun _ => 0)))), ((qa4 3), .inl (ct 0, (2, .inl (fun _ => 0)))), ((qa4 4), .inl (ct 0, (11, .inl (fun _ => 0)))), ((qa4 5), .inl (ct 0, (2048, .inl (fun _ => 0)))), ((qa4 6), .inl (ct 1, (2048, .inl (fun _ => 0)))), ((qa4 7), .inl (ct 0, (1024, .inl (fun _ => 0)))), ((qa4 8), .inl (ct 0, (1024, .inl (fun _ => 0)))), ((qa4 9), .inl (ct 0, (72, .inl (fun _ => 0)))), (a5, .inl (ct 3, (1, .inr (.inl (fun _ => 0)))))]
set_option maxRecDepth 100000 in
theorem wsL_adr {ct : Nat → ClassId} {a1 : Nat} {qa2 : Nat → Nat} {a3 : Nat} {qa4 : Nat → Nat} {a5 : Nat} {i : Nat} (hi : i < 47) : ∃ e, (wsL ct a1 qa2 a3 qa4 a5)[i]? = some (adrN a1 qa2 a3 qa4 a5 i, e) := by
  rcases (show i = 0 ∨ i = 1 ∨ i = 2 ∨ i = 3 ∨ i = 4 ∨ i = 5 ∨ i = 6 ∨ i = 7 ∨ i = 8 ∨ i = 9 ∨ i = 10 ∨ i = 11 ∨ i = 12 ∨ i = 13 ∨ i = 14 ∨ i = 15 ∨ i = 16 ∨ i = 17 ∨ i = 18 ∨ i = 19 ∨ i = 20 ∨ i = 21 ∨ i = 22 ∨ i = 23 ∨ i = 24 ∨ i = 25 ∨ i = 26 ∨ i = 27 ∨ i = 28 ∨ i = 29 ∨ i = 30 ∨ i = 31 ∨ i = 32 ∨ i = 33 ∨ i = 34 ∨ i = 35 ∨ i = 36 ∨ i = 37 ∨ i = 38 ∨ i = 39 ∨ i = 40 ∨ i = 41 ∨ i = 42 ∨ i = 43 ∨ i = 44 ∨ i = 45 ∨ i = 46 by omega) with rfl | rfl | rfl | rfl | rfl | rfl | rfl | rfl | rfl | rfl | rfl | rfl | rfl | rfl | rfl | rfl | rfl | rfl | rfl | rfl | rfl | rfl | rfl | rfl | rfl | rfl | rfl | rfl | rfl | rfl | rfl | rfl | rfl | rfl | rfl | rfl | rfl | rfl | rfl | rfl | rfl | rfl | rfl | rfl | rfl | rfl | rfl <;> exact ⟨_, rfl⟩
set_option maxRecDepth 100000 in
theorem wsL_P {l : Launch} {D : va_G} {kk : Nat → Nat} {ct : Nat → ClassId} {a1 : Nat} {qa2 : Nat → Nat} {a3 : Nat} {qa4 : Nat → Nat} {a5 : Nat} {H : Heap} (hP : va_P D vwCl (wsL ct a1 qa2 a3 qa4 a5) H) : va_P D vwCl (wl (l, D, adrN a1 qa2 a3 qa4 a5, kk, ct) mu0) H := by
  intro i w hw
  have hi : i < 47 := wl_lt hw
  rw [wl_get _ _ hi] at hw
  cases hw
  rcases (show i = 0 ∨ i = 1 ∨ i = 2 ∨ i = 3 ∨ i = 4 ∨ i = 5 ∨ i = 6 ∨ i = 7 ∨ i = 8 ∨ i = 9 ∨ i = 10 ∨ i = 11 ∨ i = 12 ∨ i = 13 ∨ i = 14 ∨ i = 15 ∨ i = 16 ∨ i = 17 ∨ i = 18 ∨ i = 19 ∨ i = 20 ∨ i = 21 ∨ i = 22 ∨ i = 23 ∨ i = 24 ∨ i = 25 ∨ i = 26 ∨ i = 27 ∨ i = 28 ∨ i = 29 ∨ i = 30 ∨ i = 31 ∨ i = 32 ∨ i = 33 ∨ i = 34 ∨ i = 35 ∨ i = 36 ∨ i = 37 ∨ i = 38 ∨ i = 39 ∨ i = 40 ∨ i = 41 ∨ i = 42 ∨ i = 43 ∨ i = 44 ∨ i = 45 ∨ i = 46 by omega) with rfl | rfl | rfl | rfl | rfl | rfl | rfl | rfl | rfl | rfl | rfl | rfl | rfl | rfl | rfl | rfl | rfl | rfl | rfl | rfl | rfl | rfl | rfl | rfl | rfl | rfl | rfl | rfl | rfl | rfl | rfl | rfl | rfl | rfl | rfl | rfl | rfl | rfl | rfl | rfl | rfl | rfl | rfl | rfl | rfl | rfl | rfl
  · exact hP 0 _ rfl
  · exact hP 1 _ rfl
  · exact hP 2 _ rfl
  · exact hP 3 _ rfl
  · exact hP 4 _ rfl
  · exact hP 5 _ rfl
  · have q : H[(qa2 5)]? = some (vp_cell (ct 2) (4, .inr (.inr (.inr (.inr (va_up (va_up (va_up (va_up (fun _ => none) (nI 0).toNatClampNeg (some (qa2 6))) (nI 1).toNatClampNeg (some (qa2 10))) (nI 2).toNatClampNeg (some (qa2 14))) (nI 3).toNatClampNeg (some (qa2 18)))))))) := hP 6 _ rfl
    show H[(qa2 5)]? = some (vp_cell (ct 2) (4, .inr (.inr (.inr (.inr (fun j => some (adrN a1 qa2 a3 qa4 a5 (7 + 4 * j))))))))
    rw [q, vp_cell_q, vp_cell_q]
    have e : ∀ f g : Nat → Value, (∀ j, j < 4 → f j = g j) → arrV (ct 2) 4 f = arrV (ct 2) 4 g := fun f g h => by
      unfold arrV
      congr 1
      exact congrArg Array.ofFn (funext fun j => h j.1 j.2)
    refine congrArg some (e _ _ (fun j hj => ?_))
    rcases (show j = 0 ∨ j = 1 ∨ j = 2 ∨ j = 3 by omega) with rfl | rfl | rfl | rfl <;> rfl
  · exact hP 7 _ rfl
  · exact hP 8 _ rfl
  · exact hP 9 _ rfl
  · exact hP 10 _ rfl
  · exact hP 11 _ rfl
  · exact hP 12 _ rfl
  · exact hP 13 _ rfl
  · exact hP 14 _ rfl
  · exact hP 15 _ rfl
  · exact hP 16 _ rfl
  · exact hP 17 _ rfl
  · exact hP 18 _ rfl
  · exact hP 19 _ rfl
  · exact hP 20 _ rfl
  · exact hP 21 _ rfl
  · exact hP 22 _ rfl
  · exact hP 23 _ rfl
  · exact hP 24 _ rfl
  · exact hP 25 _ rfl
  · exact hP 26 _ rfl
  · exact hP 27 _ rfl
  · exact hP 28 _ rfl
  · exact hP 29 _ rfl
  · exact hP 30 _ rfl
  · exact hP 31 _ rfl
  · exact hP 32 _ rfl
  · exact hP 33 _ rfl
  · exact hP 34 _ rfl
  · exact hP 35 _ rfl
  · exact hP 36 _ rfl
  · exact hP 37 _ rfl
  · exact hP 38 _ rfl
  · exact hP 39 _ rfl
  · exact hP 40 _ rfl
  · exact hP 41 _ rfl
  · exact hP 42 _ rfl
  · exact hP 43 _ rfl
  · exact hP 44 _ rfl
  · exact hP 45 _ rfl
  · have q : H[a5]? = some (vp_cell (ct 3) (1, .inr (.inl (fun _ => 0)))) := hP 46 _ rfl
    have e : (fun j : Nat => if j = 0 then (0 : Int64) else 0) = fun _ => 0 := funext fun j => by split <;> rfl
    show H[a5]? = some (vp_cell (ct 3) (1, .inr (.inl (fun j => if j = 0 then (0 : Int64) else 0))))
    rw [e]; exact q
theorem wsL_D {l : Launch} {D : va_G} {kk : Nat → Nat} {ct : Nat → ClassId} {a1 : Nat} {qa2 : Nat → Nat} {a3 : Nat} {qa4 : Nat → Nat} {a5 : Nat} {A : Nat → Prop} (hD : va_D A (wsL ct a1 qa2 a3 qa4 a5)) : va_D A (wl (l, D, adrN a1 qa2 a3 qa4 a5, kk, ct) mu0) := by
  refine ⟨fun i j x y hx hy hxy => ?_, fun i x hx => ?_⟩
  · have hi := wl_lt hx
    have hj := wl_lt hy
    rw [wl_get _ _ hi] at hx
    rw [wl_get _ _ hj] at hy
    cases hx; cases hy
    obtain ⟨e1, h1⟩ := wsL_adr (ct := ct) (i := i) hi
    obtain ⟨e2, h2⟩ := wsL_adr (ct := ct) (i := j) hj
    exact hD.1 i j _ _ h1 h2 hxy
  · have hi := wl_lt hx
    rw [wl_get _ _ hi] at hx
    cases hx
    obtain ⟨e1, h1⟩ := wsL_adr (ct := ct) (i := i) hi
    have q := hD.2 i _ h1
    exact q
theorem u_num {D : va_G} {ct : Nat → ClassId} {l : Launch} {R : Room} {Y : YC} {F : Un} {pc k n k' n' : Nat} {lv : List (Nat × Value)} {st : List Value} {ws : va_W} (hk : k = k') (hn : n = n') (kk : Us D ct l R Y F pc k' n' lv st ws) : Us D ct l R Y F pc k n lv st ws := by rw [hk, hn]; exact kk
theorem law_end {D : va_G} {ct : Nat → ClassId} {l : Launch} {b L : Nat} {xs : Nat → Int32} {a1 : Nat} {qa2 : Nat → Nat} {a3 : Nat} {qa4 : Nat → Nat} {a5 : Nat} (hG : l.stackTraces = false) (hL : L ≤ 1536) : Us D ct l (rmD 13 601024 7293034) Y_L_law (UnL b L xs) 23 47 11964 [(4, .int (nI 0)), (3, .ref a5), (2, .ref a3), (1, .ref a1), (0, .ref b)] [] (wsL ct a1 qa2 a3 qa4 a5) := by
  intro p e s m args below meth c H locs ls C hP hD hS hl T hT X
  by_cases hy : HY0 b L xs args s
  · obtain ⟨y1, y2, y3, y4, y5⟩ := hy
    obtain ⟨kk, hCn⟩ := cn_start (A := fun q => s.heap.size ≤ q) y4 y5 (fun a h => Nat.not_le.mpr h)
    have hP2 := wsL_P (l := l) (kk := kk) hP
    have hD2 := wsL_D (D := D) (l := l) (kk := kk) hD
    have hge : ∀ i : Nat, i < NW → s.heap.size ≤ adrN a1 qa2 a3 qa4 a5 i := fun i hi => by
      obtain ⟨e1, h1⟩ := wsL_adr (ct := ct) (a1 := a1) (qa2 := qa2) (a3 := a3) (qa4 := qa4) (a5 := a5) (i := i) hi
      exact hD.2 i _ h1
    have hAB : ∀ q, aA (l, D, adrN a1 qa2 a3 qa4 a5, kk, ct) s.heap.size q → s.heap.size ≤ q := fun q hq => hq.elim (fun ⟨i, hi, e⟩ => by rw [e]; exact hge i hi) id
    have hC2 : Cn (l, D, adrN a1 qa2 a3 qa4 a5, kk, ct) (aA (l, D, adrN a1 qa2 a3 qa4 a5, kk, ct) s.heap.size) s s.heap := Cn.warm (State.WarmedH.refl s) (fun _ _ _ => rfl) hAB (hCn (l, D, adrN a1 qa2 a3 qa4 a5, kk, ct) rfl)
    have hS2 : va_S (aA (l, D, adrN a1 qa2 a3 qa4 a5, kk, ct) s.heap.size) s.heap H locs := ⟨hS.1, fun q h1 _ => hS.2.1 q h1 (Nat.not_le.mpr h1), fun z hz => Or.inr (hS.2.2 z hz)⟩
    have hrun : ∀ (a0 b0 k0 n0 : Nat), 47 + (a0 + 512) = k0 → 11964 + (b0 + 6 * 512) = n0 → k0 ≤ 601024 → n0 ≤ 7293034 → Zs (l, D, adrN a1 qa2 a3 qa4 a5, kk, ct) 13 Y_L_law (a0 + 512, b0 + 6 * 512, 47, 11964, enL (l, D, adrN a1 qa2 a3 qa4 a5, kk, ct) b L xs) 23 [(0, .ref b), (1, rf (l, D, adrN a1 qa2 a3 qa4 a5, kk, ct) 0), (2, rf (l, D, adrN a1 qa2 a3 qa4 a5, kk, ct) 35), (3, rf (l, D, adrN a1 qa2 a3 qa4 a5, kk, ct) 46), (4, .int (nI 0))] [] mu0 := fun a0 b0 k0 n0 h1 h2 h3 h4 => law_loop (l, D, adrN a1 qa2 a3 qa4 a5, kk, ct) hG (b := b) (L := L) (xs := xs) hL 512 0 a0 b0 47 11964 mu0 (by omega) (by omega) (by omega) (by omega) inv0
    have hl2 : lv_has ls 9 [(0, .ref b), (1, .ref a1), (2, .ref a3), (3, .ref a5), (4, .int (nI 0))] := ⟨hl.1, hl.2.1, fun q hq => hl.2.2 q (by
      simp only [List.mem_cons, List.not_mem_nil, or_false] at hq ⊢
      rcases hq with rfl | rfl | rfl | rfl | rfl <;> simp)⟩
    have key : ∀ (a0 b0 k0 n0 : Nat), 47 + (a0 + 512) = k0 → 11964 + (b0 + 6 * 512) = n0 → k0 ≤ 601024 → n0 ≤ 7293034 → Stand p l e (rmD 13 k0 n0) s m args below meth c T locs 47 11964 → ∃ t, Steps p.tables e below (T.setTop (F0 m 23 ls [])) t ∧ (HY0 b L xs args s → lw_Z below #[Value.ref b] s t) := by
      intro a0 b0 k0 n0 h1 h2 h3 h4 X
      have hr := hrun a0 b0 k0 n0 h1 h2 h3 h4
      subst h1; subst h2
      obtain ⟨t, a1, b1⟩ := hr p e s m args below meth c H locs ls ⟨C.1, C.2.1, C.2.2.1, C.2.2.2.1, C.2.2.2.2.1, C.2.2.2.2.2.1, C.2.2.2.2.2.2.1, C.2.2.2.2.2.2.2.1.1, hC2⟩ hP2 (wl_DA hD2) hS2 hl2 T hT X
      exact ⟨t, a1, fun _ => b1 ⟨y1, y2, y3, hge⟩⟩
    exact key 600465 7277998 601024 7293034 (by omega) (by omega) (by omega) (by omega) X
  · exact ⟨_, Steps.refl _, fun q => absurd q hy⟩
set_option maxRecDepth 100000 in
/-- the law, from its entry -/
theorem law_us {D : va_G} {ct : Nat → ClassId} {l : Launch} {b L : Nat} {xs : Nat → Int32} (hG : l.stackTraces = false) (hL : L ≤ 1536) : Us D ct l (rmD 13 601024 7293034) Y_L_law (UnL b L xs) 0 0 0 [(0, .ref b)] [] [] := by
  refine u_new (ci := 5) (fs := [.null, .null, .null, .null]) (T := TX7) (N := 4) dL_law_0 (tb_at 90 (by decide +kernel) rfl) (tb_at 91 (by decide +kernel) rfl) (tb_at 68 (by decide +kernel) rfl) uw_X7 tyX7 tyX7_ok rfl (fun j hj => by rcases (show j = 0 ∨ j = 1 ∨ j = 2 ∨ j = 3 by omega) with rfl | rfl | rfl | rfl <;> rfl) (Nat.le_of_ble_eq_true rfl) (Nat.le_of_ble_eq_true rfl) (fun a1 => ?_)
  refine u_eq (ws' := [(a1, .inr (5, [.null, .null, .null, .null]))]) rfl ?_
  refine u_dup dL_law_3 rfl ?_
  refine u_call (ic := 0) (wr := []) [] dL_law_4 ci_X7 (tb_at 92 (by decide +kernel) rfl) (tb_at 93 (by decide +kernel) rfl) (tb_at 68 (by decide +kernel) rfl) (tb_at 94 (by decide +kernel) rfl) rfl rfl (by decide) ⟨by decide, by decide, by decide +kernel⟩ (by decide) (Nat.le_of_ble_eq_true rfl) rfl rfl rfl (by decide) (Nat.le_of_ble_eq_true rfl) (Nat.le_of_ble_eq_true rfl) (fun qa2 => ?_)
  refine u_eq (ws' := [(a1, .inr (5, [.ref (qa2 0), .ref (qa2 4), .ref (qa2 22), .ref (qa2 32)])), ((qa2 0), .inr (3, [.ref (qa2 1), .ref (qa2 2), .ref (qa2 3), .int (nI 0)])), ((qa2 1), .inr (1, [.int (nI 6), .int (nI 1)])), ((qa2 2), .inl (ct 0, (10, .inl (fun _ => 0)))), ((qa2 3), .inl (ct 0, (10, .inl (fun _ => 0)))), ((qa2 4), .inr (2, [.ref (qa2 5), .int (nI 0)])), ((qa2 5), .inl (ct 2, (4, .inr (.inr (.inr (.inr (va_up (va_up (va_up (va_up (fun _ => none) (nI 0).toNatClampNeg (some (qa2 6))) (nI 1).toNatClampNeg (some (qa2 10))) (nI 2).toNatClampNeg (some (qa2 14))) (nI 3).toNatClampNeg (some (qa2 18))))))))), ((qa2 6), .inr (3, [.ref (qa2 7), .ref (qa2 8), .ref (qa2 9), .int (nI 0)])), ((qa2 7), .inr (1, [.int (nI 6), .int (nI 1)])), ((qa2 8), .inl (ct 0, (10, .inl (fun _ => 0)))), ((qa2 9), .inl (ct 0, (10, .inl (fun _ => 0)))), ((qa2 10), .inr (3, [.ref (qa2 11), .ref (qa2 12), .ref (qa2 13), .int (nI 0)])), ((qa2 11), .inr (1, [.int (nI 6), .int (nI 1)])), ((qa2 12), .inl (ct 0, (10, .inl (fun _ => 0)))), ((qa2 13), .inl (ct 0, (10, .inl (fun _ => 0)))), ((qa2 14), .inr (3, [.ref (qa2 15), .ref (qa2 16), .ref (qa2 17), .int (nI 0)])), ((qa2 15), .inr (1, [.int (nI 6), .int (nI 1)])), ((qa2 16), .inl (ct 0, (10, .inl (fun _ => 0)))), ((qa2 17), .inl (ct 0, (10, .inl (fun _ => 0)))), ((qa2 18), .inr (3, [.ref (qa2 19), .ref (qa2 20), .ref (qa2 21), .int (nI 0)])), ((qa2 19), .inr (1, [.int (nI 6), .int (nI 1)])), ((qa2 20), .inl (ct 0, (10, .inl (fun _ => 0)))), ((qa2 21), .inl (ct 0, (10, .inl (fun _ => 0)))), ((qa2 22), .inr (4, [.ref (qa2 23), .ref (qa2 27), .ref (qa2 28), .ref (qa2 29), .ref (qa2 30), .ref (qa2 31), .int (nI 0), .int (nI 1)])), ((qa2 23), .inr (3, [.ref (qa2 24), .ref (qa2 25), .ref (qa2 26), .int (nI 0)])), ((qa2 24), .inr (1, [.int (nI 6), .int (nI 1)])), ((qa2 25), .inl (ct 0, (10, .inl (fun _ => 0)))), ((qa2 26), .inl (ct 0, (10, .inl (fun _ => 0)))), ((qa2 27), .inl (ct 0, (1024, .inl (fun _ => 0)))), ((qa2 28), .inl (ct 0, (1024, .inl (fun _ => 0)))), ((qa2 29), .inl (ct 0, (1024, .inl (upd (fun _ => 0) (nI 0).toNatClampNeg (nI 1))))), ((qa2 30), .inl (ct 0, (1024, .inl (upd (fun _ => 0) (nI 0).toNatClampNeg (nI 1))))), ((qa2 31), .inl (ct 0, (1024, .inl (fun _ => 0)))), ((qa2 32), .inr (0, [.ref (qa2 33), .int (nI 0), .int (nI 0), .int (-1), .null, .int (nI 0), .int (nI 0)])), ((qa2 33), .inl (ct 0, (150, .inl (fun _ => 0))))]) rfl ?_
  refine u_astore (lv' := [(1, .ref a1), (0, .ref b)]) dL_law_7 rfl (by decide) rfl ?_
  refine u_new (ci := 6) (fs := [.null, .null, .int 0, .int 0, .int 0, .null, .int 0, .null, .int 0, .int 0, .int 0, .null, .int 0, .null, .null, .null, .null, .null]) (T := TX8) (N := 18) dL_law_8 (tb_at 922 (by decide +kernel) rfl) (tb_at 923 (by decide +kernel) rfl) (tb_at 74 (by decide +kernel) rfl) uw_X8 tyX8 tyX8_ok rfl (fun j hj => by rcases (show j = 0 ∨ j = 1 ∨ j = 2 ∨ j = 3 ∨ j = 4 ∨ j = 5 ∨ j = 6 ∨ j = 7 ∨ j = 8 ∨ j = 9 ∨ j = 10 ∨ j = 11 ∨ j = 12 ∨ j = 13 ∨ j = 14 ∨ j = 15 ∨ j = 16 ∨ j = 17 by omega) with rfl | rfl | rfl | rfl | rfl | rfl | rfl | rfl | rfl | rfl | rfl | rfl | rfl | rfl | rfl | rfl | rfl | rfl <;> rfl) (Nat.le_of_ble_eq_true rfl) (Nat.le_of_ble_eq_true rfl) (fun a3 => ?_)
  refine u_eq (ws' := [(a1, .inr (5, [.ref (qa2 0), .ref (qa2 4), .ref (qa2 22), .ref (qa2 32)])), ((qa2 0), .inr (3, [.ref (qa2 1), .ref (qa2 2), .ref (qa2 3), .int (nI 0)])), ((qa2 1), .inr (1, [.int (nI 6), .int (nI 1)])), ((qa2 2), .inl (ct 0, (10, .inl (fun _ => 0)))), ((qa2 3), .inl (ct 0, (10, .inl (fun _ => 0)))), ((qa2 4), .inr (2, [.ref (qa2 5), .int (nI 0)])), ((qa2 5), .inl (ct 2, (4, .inr (.inr (.inr (.inr (va_up (va_up (va_up (va_up (fun _ => none) (nI 0).toNatClampNeg (some (qa2 6))) (nI 1).toNatClampNeg (some (qa2 10))) (nI 2).toNatClampNeg (some (qa2 14))) (nI 3).toNatClampNeg (some (qa2 18))))))))), ((qa2 6), .inr (3, [.ref (qa2 7), .ref (qa2 8), .ref (qa2 9), .int (nI 0)])), ((qa2 7), .inr (1, [.int (nI 6), .int (nI 1)])), ((qa2 8), .inl (ct 0, (10, .inl (fun _ => 0)))), ((qa2 9), .inl (ct 0, (10, .inl (fun _ => 0)))), ((qa2 10), .inr (3, [.ref (qa2 11), .ref (qa2 12), .ref (qa2 13), .int (nI 0)])), ((qa2 11), .inr (1, [.int (nI 6), .int (nI 1)])), ((qa2 12), .inl (ct 0, (10, .inl (fun _ => 0)))), ((qa2 13), .inl (ct 0, (10, .inl (fun _ => 0)))), ((qa2 14), .inr (3, [.ref (qa2 15), .ref (qa2 16), .ref (qa2 17), .int (nI 0)])), ((qa2 15), .inr (1, [.int (nI 6), .int (nI 1)])), ((qa2 16), .inl (ct 0, (10, .inl (fun _ => 0)))), ((qa2 17), .inl (ct 0, (10, .inl (fun _ => 0)))), ((qa2 18), .inr (3, [.ref (qa2 19), .ref (qa2 20), .ref (qa2 21), .int (nI 0)])), ((qa2 19), .inr (1, [.int (nI 6), .int (nI 1)])), ((qa2 20), .inl (ct 0, (10, .inl (fun _ => 0)))), ((qa2 21), .inl (ct 0, (10, .inl (fun _ => 0)))), ((qa2 22), .inr (4, [.ref (qa2 23), .ref (qa2 27), .ref (qa2 28), .ref (qa2 29), .ref (qa2 30), .ref (qa2 31), .int (nI 0), .int (nI 1)])), ((qa2 23), .inr (3, [.ref (qa2 24), .ref (qa2 25), .ref (qa2 26), .int (nI 0)])), ((qa2 24), .inr (1, [.int (nI 6), .int (nI 1)])), ((qa2 25), .inl (ct 0, (10, .inl (fun _ => 0)))), ((qa2 26), .inl (ct 0, (10, .inl (fun _ => 0)))), ((qa2 27), .inl (ct 0, (1024, .inl (fun _ => 0)))), ((qa2 28), .inl (ct 0, (1024, .inl (fun _ => 0)))), ((qa2 29), .inl (ct 0, (1024, .inl (upd (fun _ => 0) (nI 0).toNatClampNeg (nI 1))))), ((qa2 30), .inl (ct 0, (1024, .inl (upd (fun _ => 0) (nI 0).toNatClampNeg (nI 1))))), ((qa2 31), .inl (ct 0, (1024, .inl (fun _ => 0)))), ((qa2 32), .inr (0, [.ref (qa2 33), .int (nI 0), .int (nI 0), .int (-1), .null, .int (nI 0), .int (nI 0)])), ((qa2 33), .inl (ct 0, (150, .inl (fun _ => 0)))), (a3, .inr (6, [.null, .null, .int 0, .int 0, .int 0, .null, .int 0, .null, .int 0, .int 0, .int 0, .null, .int 0, .null, .null, .null, .null, .null]))]) rfl ?_
  refine u_dup dL_law_11 rfl ?_
  refine u_call (ic := 35) (wr := [(a1, .inr (5, [.ref (qa2 0), .ref (qa2 4), .ref (qa2 22), .ref (qa2 32)])), ((qa2 0), .inr (3, [.ref (qa2 1), .ref (qa2 2), .ref (qa2 3), .int (nI 0)])), ((qa2 1), .inr (1, [.int (nI 6), .int (nI 1)])), ((qa2 2), .inl (ct 0, (10, .inl (fun _ => 0)))), ((qa2 3), .inl (ct 0, (10, .inl (fun _ => 0)))), ((qa2 4), .inr (2, [.ref (qa2 5), .int (nI 0)])), ((qa2 5), .inl (ct 2, (4, .inr (.inr (.inr (.inr (va_up (va_up (va_up (va_up (fun _ => none) (nI 0).toNatClampNeg (some (qa2 6))) (nI 1).toNatClampNeg (some (qa2 10))) (nI 2).toNatClampNeg (some (qa2 14))) (nI 3).toNatClampNeg (some (qa2 18))))))))), ((qa2 6), .inr (3, [.ref (qa2 7), .ref (qa2 8), .ref (qa2 9), .int (nI 0)])), ((qa2 7), .inr (1, [.int (nI 6), .int (nI 1)])), ((qa2 8), .inl (ct 0, (10, .inl (fun _ => 0)))), ((qa2 9), .inl (ct 0, (10, .inl (fun _ => 0)))), ((qa2 10), .inr (3, [.ref (qa2 11), .ref (qa2 12), .ref (qa2 13), .int (nI 0)])), ((qa2 11), .inr (1, [.int (nI 6), .int (nI 1)])), ((qa2 12), .inl (ct 0, (10, .inl (fun _ => 0)))), ((qa2 13), .inl (ct 0, (10, .inl (fun _ => 0)))), ((qa2 14), .inr (3, [.ref (qa2 15), .ref (qa2 16), .ref (qa2 17), .int (nI 0)])), ((qa2 15), .inr (1, [.int (nI 6), .int (nI 1)])), ((qa2 16), .inl (ct 0, (10, .inl (fun _ => 0)))), ((qa2 17), .inl (ct 0, (10, .inl (fun _ => 0)))), ((qa2 18), .inr (3, [.ref (qa2 19), .ref (qa2 20), .ref (qa2 21), .int (nI 0)])), ((qa2 19), .inr (1, [.int (nI 6), .int (nI 1)])), ((qa2 20), .inl (ct 0, (10, .inl (fun _ => 0)))), ((qa2 21), .inl (ct 0, (10, .inl (fun _ => 0)))), ((qa2 22), .inr (4, [.ref (qa2 23), .ref (qa2 27), .ref (qa2 28), .ref (qa2 29), .ref (qa2 30), .ref (qa2 31), .int (nI 0), .int (nI 1)])), ((qa2 23), .inr (3, [.ref (qa2 24), .ref (qa2 25), .ref (qa2 26), .int (nI 0)])), ((qa2 24), .inr (1, [.int (nI 6), .int (nI 1)])), ((qa2 25), .inl (ct 0, (10, .inl (fun _ => 0)))), ((qa2 26), .inl (ct 0, (10, .inl (fun _ => 0)))), ((qa2 27), .inl (ct 0, (1024, .inl (fun _ => 0)))), ((qa2 28), .inl (ct 0, (1024, .inl (fun _ => 0)))), ((qa2 29), .inl (ct 0, (1024, .inl (upd (fun _ => 0) (nI 0).toNatClampNeg (nI 1))))), ((qa2 30), .inl (ct 0, (1024, .inl (upd (fun _ => 0) (nI 0).toNatClampNeg (nI 1))))), ((qa2 31), .inl (ct 0, (1024, .inl (fun _ => 0)))), ((qa2 32), .inr (0, [.ref (qa2 33), .int (nI 0), .int (nI 0), .int (-1), .null, .int (nI 0), .int (nI 0)])), ((qa2 33), .inl (ct 0, (150, .inl (fun _ => 0))))]) [0, 1, 2, 3, 4, 5, 6, 7, 8, 9, 10, 11, 12, 13, 14, 15, 16, 17, 18, 19, 20, 21, 22, 23, 24, 25, 26, 27, 28, 29, 30, 31, 32, 33, 34] dL_law_12 ci_X8 (tb_at 924 (by decide +kernel) rfl) (tb_at 925 (by decide +kernel) rfl) (tb_at 74 (by decide +kernel) rfl) (tb_at 926 (by decide +kernel) rfl) rfl rfl (by decide) ⟨by decide, by decide, by decide +kernel⟩ (by decide) (Nat.le_of_ble_eq_true rfl) rfl rfl rfl (by decide) (Nat.le_of_ble_eq_true rfl) (Nat.le_of_ble_eq_true rfl) (fun qa4 => ?_)
  refine u_eq (ws' := [(a1, .inr (5, [.ref (qa2 0), .ref (qa2 4), .ref (qa2 22), .ref (qa2 32)])), ((qa2 0), .inr (3, [.ref (qa2 1), .ref (qa2 2), .ref (qa2 3), .int (nI 0)])), ((qa2 1), .inr (1, [.int (nI 6), .int (nI 1)])), ((qa2 2), .inl (ct 0, (10, .inl (fun _ => 0)))), ((qa2 3), .inl (ct 0, (10, .inl (fun _ => 0)))), ((qa2 4), .inr (2, [.ref (qa2 5), .int (nI 0)])), ((qa2 5), .inl (ct 2, (4, .inr (.inr (.inr (.inr (va_up (va_up (va_up (va_up (fun _ => none) (nI 0).toNatClampNeg (some (qa2 6))) (nI 1).toNatClampNeg (some (qa2 10))) (nI 2).toNatClampNeg (some (qa2 14))) (nI 3).toNatClampNeg (some (qa2 18))))))))), ((qa2 6), .inr (3, [.ref (qa2 7), .ref (qa2 8), .ref (qa2 9), .int (nI 0)])), ((qa2 7), .inr (1, [.int (nI 6), .int (nI 1)])), ((qa2 8), .inl (ct 0, (10, .inl (fun _ => 0)))), ((qa2 9), .inl (ct 0, (10, .inl (fun _ => 0)))), ((qa2 10), .inr (3, [.ref (qa2 11), .ref (qa2 12), .ref (qa2 13), .int (nI 0)])), ((qa2 11), .inr (1, [.int (nI 6), .int (nI 1)])), ((qa2 12), .inl (ct 0, (10, .inl (fun _ => 0)))), ((qa2 13), .inl (ct 0, (10, .inl (fun _ => 0)))), ((qa2 14), .inr (3, [.ref (qa2 15), .ref (qa2 16), .ref (qa2 17), .int (nI 0)])), ((qa2 15), .inr (1, [.int (nI 6), .int (nI 1)])), ((qa2 16), .inl (ct 0, (10, .inl (fun _ => 0)))), ((qa2 17), .inl (ct 0, (10, .inl (fun _ => 0)))), ((qa2 18), .inr (3, [.ref (qa2 19), .ref (qa2 20), .ref (qa2 21), .int (nI 0)])), ((qa2 19), .inr (1, [.int (nI 6), .int (nI 1)])), ((qa2 20), .inl (ct 0, (10, .inl (fun _ => 0)))), ((qa2 21), .inl (ct 0, (10, .inl (fun _ => 0)))), ((qa2 22), .inr (4, [.ref (qa2 23), .ref (qa2 27), .ref (qa2 28), .ref (qa2 29), .ref (qa2 30), .ref (qa2 31), .int (nI 0), .int (nI 1)])), ((qa2 23), .inr (3, [.ref (qa2 24), .ref (qa2 25), .ref (qa2 26), .int (nI 0)])), ((qa2 24), .inr (1, [.int (nI 6), .int (nI 1)])), ((qa2 25), .inl (ct 0, (10, .inl (fun _ => 0)))), ((qa2 26), .inl (ct 0, (10, .inl (fun _ => 0)))), ((qa2 27), .inl (ct 0, (1024, .inl (fun _ => 0)))), ((qa2 28), .inl (ct 0, (1024, .inl (fun _ => 0)))), ((qa2 29), .inl (ct 0, (1024, .inl (upd (fun _ => 0) (nI 0).toNatClampNeg (nI 1))))), ((qa2 30), .inl (ct 0, (1024, .inl (upd (fun _ => 0) (nI 0).toNatClampNeg (nI 1))))), ((qa2 31), .inl (ct 0, (1024, .inl (fun _ => 0)))), ((qa2 32), .inr (0, [.ref (qa2 33), .int (nI 0), .int (nI 0), .int (-1), .null, .int (nI 0), .int (nI 0)])), ((qa2 33), .inl (ct 0, (150, .inl (fun _ => 0)))), (a3, .inr (6, [.ref (qa4 0), .ref (qa4 1), .int 0, .int 0, .int 0, .ref (qa4 2), .int 0, .ref (qa4 3), .int 0, .int 0, .int 0, .ref (qa4 4), .int 0, .ref (qa4 5), .ref (qa4 6), .ref (qa4 7), .ref (qa4 8), .ref (qa4 9)])), ((qa4 0), .inl (ct 0, (23, .inl (upd (upd (fun _ => 0) (nI 0).toNatClampNeg (nI 6)) (nI 1).toNatClampNeg (nI 1))))), ((qa4 1), .inl (ct 0, (92, .inl (fun _ => 0)))), ((qa4 2), .inl (ct 0, (150, .inl (fun _ => 0)))), ((qa4 3), .inl (ct 0, (2, .inl (fun _ => 0)))), ((qa4 4), .inl (ct 0, (11, .inl (fun _ => 0)))), ((qa4 5), .inl (ct 0, (2048, .inl (fun _ => 0)))), ((qa4 6), .inl (ct 1, (2048, .inl (fun _ => 0)))), ((qa4 7), .inl (ct 0, (1024, .inl (fun _ => 0)))), ((qa4 8), .inl (ct 0, (1024, .inl (fun _ => 0)))), ((qa4 9), .inl (ct 0, (72, .inl (fun _ => 0))))]) rfl ?_
  refine u_astore (lv' := [(2, .ref a3), (1, .ref a1), (0, .ref b)]) dL_law_15 rfl (by decide) rfl ?_
  refine u_iconst (v := nI 1) dL_law_16 (by decide) ?_
  refine u_newa (t := 3) (N := 1) (ty := .long) (a0 := (1, .inr (.inl (fun _ => 0)))) dL_law_17 (tb_at 1276 (by decide +kernel) rfl) rfl rfl (fun cA => rfl) (by decide) (by decide) (by decide) (Nat.le_of_ble_eq_true rfl) (Nat.le_of_ble_eq_true rfl) (fun a5 => ?_)
  refine u_eq (ws' := [(a1, .inr (5, [.ref (qa2 0), .ref (qa2 4), .ref (qa2 22), .ref (qa2 32)])), ((qa2 0), .inr (3, [.ref (qa2 1), .ref (qa2 2), .ref (qa2 3), .int (nI 0)])), ((qa2 1), .inr (1, [.int (nI 6), .int (nI 1)])), ((qa2 2), .inl (ct 0, (10, .inl (fun _ => 0)))), ((qa2 3), .inl (ct 0, (10, .inl (fun _ => 0)))), ((qa2 4), .inr (2, [.ref (qa2 5), .int (nI 0)])), ((qa2 5), .inl (ct 2, (4, .inr (.inr (.inr (.inr (va_up (va_up (va_up (va_up (fun _ => none) (nI 0).toNatClampNeg (some (qa2 6))) (nI 1).toNatClampNeg (some (qa2 10))) (nI 2).toNatClampNeg (some (qa2 14))) (nI 3).toNatClampNeg (some (qa2 18))))))))), ((qa2 6), .inr (3, [.ref (qa2 7), .ref (qa2 8), .ref (qa2 9), .int (nI 0)])), ((qa2 7), .inr (1, [.int (nI 6), .int (nI 1)])), ((qa2 8), .inl (ct 0, (10, .inl (fun _ => 0)))), ((qa2 9), .inl (ct 0, (10, .inl (fun _ => 0)))), ((qa2 10), .inr (3, [.ref (qa2 11), .ref (qa2 12), .ref (qa2 13), .int (nI 0)])), ((qa2 11), .inr (1, [.int (nI 6), .int (nI 1)])), ((qa2 12), .inl (ct 0, (10, .inl (fun _ => 0)))), ((qa2 13), .inl (ct 0, (10, .inl (fun _ => 0)))), ((qa2 14), .inr (3, [.ref (qa2 15), .ref (qa2 16), .ref (qa2 17), .int (nI 0)])), ((qa2 15), .inr (1, [.int (nI 6), .int (nI 1)])), ((qa2 16), .inl (ct 0, (10, .inl (fun _ => 0)))), ((qa2 17), .inl (ct 0, (10, .inl (fun _ => 0)))), ((qa2 18), .inr (3, [.ref (qa2 19), .ref (qa2 20), .ref (qa2 21), .int (nI 0)])), ((qa2 19), .inr (1, [.int (nI 6), .int (nI 1)])), ((qa2 20), .inl (ct 0, (10, .inl (fun _ => 0)))), ((qa2 21), .inl (ct 0, (10, .inl (fun _ => 0)))), ((qa2 22), .inr (4, [.ref (qa2 23), .ref (qa2 27), .ref (qa2 28), .ref (qa2 29), .ref (qa2 30), .ref (qa2 31), .int (nI 0), .int (nI 1)])), ((qa2 23), .inr (3, [.ref (qa2 24), .ref (qa2 25), .ref (qa2 26), .int (nI 0)])), ((qa2 24), .inr (1, [.int (nI 6), .int (nI 1)])), ((qa2 25), .inl (ct 0, (10, .inl (fun _ => 0)))), ((qa2 26), .inl (ct 0, (10, .inl (fun _ => 0)))), ((qa2 27), .inl (ct 0, (1024, .inl (fun _ => 0)))), ((qa2 28), .inl (ct 0, (1024, .inl (fun _ => 0)))), ((qa2 29), .inl (ct 0, (1024, .inl (upd (fun _ => 0) (nI 0).toNatClampNeg (nI 1))))), ((qa2 30), .inl (ct 0, (1024, .inl (upd (fun _ => 0) (nI 0).toNatClampNeg (nI 1))))), ((qa2 31), .inl (ct 0, (1024, .inl (fun _ => 0)))), ((qa2 32), .inr (0, [.ref (qa2 33), .int (nI 0), .int (nI 0), .int (-1), .null, .int (nI 0), .int (nI 0)])), ((qa2 33), .inl (ct 0, (150, .inl (fun _ => 0)))), (a3, .inr (6, [.ref (qa4 0), .ref (qa4 1), .int 0, .int 0, .int 0, .ref (qa4 2), .int 0, .ref (qa4 3), .int 0, .int 0, .int 0, .ref (qa4 4), .int 0, .ref (qa4 5), .ref (qa4 6), .ref (qa4 7), .ref (qa4 8), .ref (qa4 9)])), ((qa4 0), .inl (ct 0, (23, .inl (upd (upd (fun _ => 0) (nI 0).toNatClampNeg (nI 6)) (nI 1).toNatClampNeg (nI 1))))), ((qa4 1), .inl (ct 0, (92, .inl (fun _ => 0)))), ((qa4 2), .inl (ct 0, (150, .inl (fun _ => 0)))), ((qa4 3), .inl (ct 0, (2, .inl (fun _ => 0)))), ((qa4 4), .inl (ct 0, (11, .inl (fun _ => 0)))), ((qa4 5), .inl (ct 0, (2048, .inl (fun _ => 0)))), ((qa4 6), .inl (ct 1, (2048, .inl (fun _ => 0)))), ((qa4 7), .inl (ct 0, (1024, .inl (fun _ => 0)))), ((qa4 8), .inl (ct 0, (1024, .inl (fun _ => 0)))), ((qa4 9), .inl (ct 0, (72, .inl (fun _ => 0)))), (a5, .inl (ct 3, (1, .inr (.inl (fun _ => 0)))))]) rfl ?_
  refine u_astore (lv' := [(3, .ref a5), (2, .ref a3), (1, .ref a1), (0, .ref b)]) dL_law_19 rfl (by decide) rfl ?_
  refine u_iconst (v := nI 0) dL_law_20 (by decide) ?_
  refine u_istorw (lv' := [(4, .int (nI 0)), (3, .ref a5), (2, .ref a3), (1, .ref a1), (0, .ref b)]) dL_law_21 (by decide) rfl ?_
  refine u_num (k' := 47) (n' := 11964) (by omega) (by omega) ?_
  exact law_end hG hL
