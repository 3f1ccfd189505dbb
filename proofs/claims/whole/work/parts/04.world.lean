abbrev Mm : Type := (Nat → Nat → Int32) × (Nat → Nat → Int32) × (Nat → Nat) × Option Nat × Int64
abbrev Sk : Type := Option (Option Nat)
abbrev Se : Type := (Nat × Nat) ⊕ (Nat × List Sk)
abbrev Gt : Type := Launch × va_G × (Nat → Nat) × (Nat → Nat) × (Nat → ClassId)
abbrev YC : Type := MethodName × ByteArray × Nat × Option FieldType
abbrev NW : Nat := 47
abbrev rr (k : Nat) : Sk := some (some k)
abbrev ii : Sk := none
abbrev ww : Sk := some none
/-- the shape of the world: which cell is what, and whom it names -/
def sh (i : Nat) : Se := match i with
  | 0 => .inr (5, [rr 1, rr 5, rr 23, rr 33])
  | 1 => .inr (3, [rr 2, rr 3, rr 4, ii])
  | 2 => .inr (1, [ii, ii])
  | 3 => .inl (0, 10)
  | 4 => .inl (0, 10)
  | 5 => .inr (2, [rr 6, ii])
  | 6 => .inl (2, 4)
  | 7 => .inr (3, [rr 8, rr 9, rr 10, ii])
  | 8 => .inr (1, [ii, ii])
  | 9 => .inl (0, 10)
  | 10 => .inl (0, 10)
  | 11 => .inr (3, [rr 12, rr 13, rr 14, ii])
  | 12 => .inr (1, [ii, ii])
  | 13 => .inl (0, 10)
  | 14 => .inl (0, 10)
  | 15 => .inr (3, [rr 16, rr 17, rr 18, ii])
  | 16 => .inr (1, [ii, ii])
  | 17 => .inl (0, 10)
  | 18 => .inl (0, 10)
  | 19 => .inr (3, [rr 20, rr 21, rr 22, ii])
  | 20 => .inr (1, [ii, ii])
  | 21 => .inl (0, 10)
  | 22 => .inl (0, 10)
  | 23 => .inr (4, [rr 24, rr 28, rr 29, rr 30, rr 31, rr 32, ii, ii])
  | 24 => .inr (3, [rr 25, rr 26, rr 27, ii])
  | 25 => .inr (1, [ii, ii])
  | 26 => .inl (0, 10)
  | 27 => .inl (0, 10)
  | 28 => .inl (0, 1024)
  | 29 => .inl (0, 1024)
  | 30 => .inl (0, 1024)
  | 31 => .inl (0, 1024)
  | 32 => .inl (0, 1024)
  | 33 => .inr (0, [rr 34, ii, ii, ii, ww, ii, ii])
  | 34 => .inl (0, 150)
  | 35 => .inr (6, [rr 36, rr 37, ii, ii, ii, rr 38, ii, rr 39, ii, ii, ii, rr 40, ii, rr 41, rr 42, rr 43, rr 44, rr 45])
  | 36 => .inl (0, 23)
  | 37 => .inl (0, 92)
  | 38 => .inl (0, 150)
  | 39 => .inl (0, 2)
  | 40 => .inl (0, 11)
  | 41 => .inl (0, 2048)
  | 42 => .inl (1, 2048)
  | 43 => .inl (0, 1024)
  | 44 => .inl (0, 1024)
  | 45 => .inl (0, 72)
  | 46 => .inl (3, 1)
  | _ => .inl (9, 0)
/-- a reference to a cell of the world; to a constant -/
def rf (G : Gt) (i : Nat) : Value := .ref (G.2.2.1 i)
def kf (G : Gt) (k : Nat) : Value := .ref (G.2.2.2.1 k)
def wv (G : Gt) (o : Option Nat) : Value := match o with
  | none => .null
  | some w => kf G w
def slv (G : Gt) (μ : Mm) (i k : Nat) (s : Sk) : Value := match s with
  | none => .int (μ.1 i k)
  | some none => wv G μ.2.2.2.1
  | some (some j) => rf G j
def arC (G : Gt) (μ : Mm) (i t n : Nat) : vp_A :=
  if t = 2 then (n, .inr (.inr (.inr (.inr (fun j => some (G.2.2.1 (μ.2.2.1 j)))))))
  else if t = 3 then (n, .inr (.inl (fun j => if j = 0 then μ.2.2.2.2 else 0)))
  else (n, .inl (μ.2.1 i))
def ent (G : Gt) (μ : Mm) (i : Nat) : va_E := match sh i with
  | .inl (t, n) => .inl (G.2.2.2.2 t, arC G μ i t n)
  | .inr (ci, ks) => .inr (ci, ks.mapIdx (fun k s => slv G μ i k s))
def wl (G : Gt) (μ : Mm) : va_W := (List.range NW).map (fun i => (G.2.2.1 i, ent G μ i))
abbrev tysG (G : Gt) : List (ClassId × FieldType) := [(G.2.2.2.2 0, .int), (G.2.2.2.2 1, .boolean), (G.2.2.2.2 2, .object "ZeroParts$Sequence"), (G.2.2.2.2 3, .long)]
theorem wl_get (G : Gt) (μ : Mm) {i : Nat} (h : i < NW) : (wl G μ)[i]? = some (G.2.2.1 i, ent G μ i) := by
  unfold wl
  rw [List.getElem?_map, List.getElem?_range h]
  rfl
theorem wl_len (G : Gt) (μ : Mm) : (wl G μ).length = NW := by unfold wl; rw [List.length_map, List.length_range]
theorem wl_lt {G : Gt} {μ : Mm} {i : Nat} {q : Nat × va_E} (h : (wl G μ)[i]? = some q) : i < NW := by
  have := (List.getElem?_eq_some_iff.mp h).1
  rwa [wl_len] at this
theorem wl_set {G : Gt} {μ μ' : Mm} {i : Nat} {e : va_E} (hi : i < NW) (h1 : ent G μ' i = e) (h2 : ∀ j, j ≠ i → ent G μ' j = ent G μ j) : (wl G μ).set i (G.2.2.1 i, e) = wl G μ' := by
  apply List.ext_getElem?
  intro j
  rw [List.getElem?_set]
  by_cases hji : i = j
  · subst hji
    rw [if_pos rfl, wl_len, if_pos hi, wl_get G μ' hi, h1]
  · rw [if_neg hji]
    by_cases hj : j < NW
    · rw [wl_get G μ hj, wl_get G μ' hj, h2 j (fun q => hji q.symm)]
    · rw [List.getElem?_eq_none (by rw [wl_len]; omega), List.getElem?_eq_none (by rw [wl_len]; omega)]
/-- the addresses don't depend on what the cells hold -/
theorem wl_D {G : Gt} {μ μ' : Mm} {A : Nat → Prop} (h : va_D A (wl G μ)) : va_D A (wl G μ') := by
  have key : ∀ (i : Nat) (q : Nat × va_E), (wl G μ')[i]? = some q → ∃ q0, (wl G μ)[i]? = some q0 ∧ q0.1 = q.1 := by
    intro i q hq
    have hi := wl_lt hq
    rw [wl_get G μ' hi] at hq
    cases hq
    exact ⟨_, wl_get G μ hi, rfl⟩
  refine ⟨fun i j p q hi hj hpq => ?_, fun k q hk => ?_⟩
  · obtain ⟨p0, a1, a2⟩ := key i p hi
    obtain ⟨q0, b1, b2⟩ := key j q hj
    exact h.1 i j p0 q0 a1 b1 (by rw [a2, b2]; exact hpq)
  · obtain ⟨q0, a1, a2⟩ := key k q hk
    rw [← a2]
    exact h.2 k q0 a1
/-- which cells a method may write: the world's, and new ones -/
def aA (G : Gt) (sz : Nat) : Nat → Prop := fun q => (∃ i, i < NW ∧ q = G.2.2.1 i) ∨ sz ≤ q
theorem wl_DA {G : Gt} {μ : Mm} {A : Nat → Prop} {sz : Nat} (h : va_D A (wl G μ)) : va_D (aA G sz) (wl G μ) := by
  refine ⟨h.1, fun k q hk => ?_⟩
  have hi := wl_lt hk
  rw [wl_get G μ hi] at hk
  cases hk
  exact Or.inl ⟨k, hi, rfl⟩
def uF (μ : Mm) (i k : Nat) (x : Int32) : Mm := (fun i' k' => if i' = i ∧ k' = k then x else μ.1 i' k', μ.2)
def uR (μ : Mm) (i j : Nat) (x : Int32) : Mm := (μ.1, fun i' => if i' = i then upd (μ.2.1 i) j x else μ.2.1 i', μ.2.2)
def uK (μ : Mm) (j v : Nat) : Mm := (μ.1, μ.2.1, (fun j' => if j' = j then v else μ.2.2.1 j'), μ.2.2.2)
def uW (μ : Mm) (w : Option Nat) : Mm := (μ.1, μ.2.1, μ.2.2.1, w, μ.2.2.2.2)
def uO (μ : Mm) (x : Int64) : Mm := (μ.1, μ.2.1, μ.2.2.1, μ.2.2.2.1, x)
theorem uF_s (μ : Mm) (i k : Nat) (x : Int32) : (uF μ i k x).1 i k = x := by simp [uF]
theorem uF_n (μ : Mm) {i k i' k' : Nat} (x : Int32) (h : ¬ (i' = i ∧ k' = k)) : (uF μ i k x).1 i' k' = μ.1 i' k' := by simp [uF, h]
theorem uR_s (μ : Mm) (i j : Nat) (x : Int32) : (uR μ i j x).2.1 i = upd (μ.2.1 i) j x := by simp [uR]
theorem uR_n (μ : Mm) {i i' : Nat} (j : Nat) (x : Int32) (h : ¬ i' = i) : (uR μ i j x).2.1 i' = μ.2.1 i' := by simp [uR, h]
/-- a slot that holds an int; a reference; the word. An array of a kind and a length -/
def Fi (i ci k : Nat) : Prop := i < NW ∧ ∃ ks : List Sk, sh i = .inr (ci, ks) ∧ ks[k]? = some none
def Fr (i ci k j : Nat) : Prop := i < NW ∧ ∃ ks : List Sk, sh i = .inr (ci, ks) ∧ ks[k]? = some (some (some j))
def Fw (i ci k : Nat) : Prop := i < NW ∧ ∃ ks : List Sk, sh i = .inr (ci, ks) ∧ ks[k]? = some (some none)
def Fo (i ci : Nat) : Prop := i < NW ∧ ∃ ks : List Sk, sh i = .inr (ci, ks)
def Fa (i t n : Nat) : Prop := i < NW ∧ sh i = .inl (t, n)
theorem ent_o {G : Gt} {μ : Mm} {i ci : Nat} {ks : List Sk} (h : sh i = .inr (ci, ks)) : ent G μ i = .inr (ci, ks.mapIdx (fun k s => slv G μ i k s)) := by unfold ent; rw [h]
theorem ent_a {G : Gt} {μ : Mm} {i t n : Nat} (h : sh i = .inl (t, n)) : ent G μ i = .inl (G.2.2.2.2 t, arC G μ i t n) := by unfold ent; rw [h]
theorem ent_slot {G : Gt} {μ : Mm} {i k : Nat} {ks : List Sk} {s : Sk} (hk : ks[k]? = some s) : (ks.mapIdx (fun k s => slv G μ i k s))[k]? = some (slv G μ i k s) := by
  rw [List.getElem?_mapIdx, hk]; rfl
theorem ent_uF {G : Gt} {μ : Mm} {i ci k : Nat} {ks : List Sk} {x : Int32} (h : sh i = .inr (ci, ks)) (hk : ks[k]? = some none) : ent G (uF μ i k x) i = .inr (ci, (ks.mapIdx (fun k s => slv G μ i k s)).set k (.int x)) := by
  rw [ent_o h]
  congr 2
  apply List.ext_getElem?
  intro j
  rw [List.getElem?_mapIdx, List.getElem?_set]
  by_cases hj : k = j
  · subst hj
    have hl := (List.getElem?_eq_some_iff.mp hk).1
    rw [if_pos rfl, List.length_mapIdx, if_pos hl, hk]
    simp [slv, uF]
  · rw [if_neg hj, List.getElem?_mapIdx]
    congr 1
    funext s
    match s with
    | none => simp [slv, uF, Ne.symm hj]
    | some none => rfl
    | some (some _) => rfl
theorem ent_uFn {G : Gt} {μ : Mm} {i k j : Nat} {x : Int32} (h : j ≠ i) : ent G (uF μ i k x) j = ent G μ j := by
  have e : ∀ k' s, slv G (uF μ i k x) j k' s = slv G μ j k' s := by
    intro k' s
    match s with
    | none => simp [slv, uF, h]
    | some none => rfl
    | some (some _) => rfl
  unfold ent
  cases sh j with
  | inl a => rfl
  | inr a => simp only [e]
theorem ent_uW {G : Gt} {μ : Mm} {i ci k : Nat} {ks : List Sk} {w : Option Nat} (h : sh i = .inr (ci, ks)) (hk : ks[k]? = some (some none)) (hu : ∀ j, j ≠ k → ks[j]? ≠ some (some none)) : ent G (uW μ w) i = .inr (ci, (ks.mapIdx (fun k s => slv G μ i k s)).set k (wv G w)) := by
  rw [ent_o h]
  congr 2
  apply List.ext_getElem?
  intro j
  rw [List.getElem?_mapIdx, List.getElem?_set]
  by_cases hj : k = j
  · subst hj
    have hl := (List.getElem?_eq_some_iff.mp hk).1
    rw [if_pos rfl, List.length_mapIdx, if_pos hl, hk]
    rfl
  · rw [if_neg hj, List.getElem?_mapIdx]
    have hu' := hu j (fun q => hj q.symm)
    cases hs : ks[j]? with
    | none => rfl
    | some s =>
      match s, hs with
      | none, _ => rfl
      | some none, hs => exact absurd hs hu'
      | some (some _), _ => rfl
theorem ent_uWn {G : Gt} {μ : Mm} {w : Option Nat} {j : Nat} (h : ∀ (ci : Nat) (ks : List Sk), sh j = .inr (ci, ks) → ∀ k : Nat, ks[k]? ≠ some (some none)) : ent G (uW μ w) j = ent G μ j := by
  unfold ent
  cases hs : sh j with
  | inl a => rfl
  | inr a =>
    obtain ⟨ci, ks⟩ := a
    have h2 := h ci ks hs
    show Sum.inr (ci, _) = Sum.inr (ci, _)
    congr 2
    apply List.ext_getElem?
    intro k
    rw [List.getElem?_mapIdx, List.getElem?_mapIdx]
    cases hk : ks[k]? with
    | none => rfl
    | some s =>
      match s, hk with
      | none, _ => rfl
      | some none, hk => exact absurd hk (h2 k)
      | some (some _), _ => rfl
theorem ent_uR {G : Gt} {μ : Mm} {i t n j : Nat} {x : Int32} (h : sh i = .inl (t, n)) (ht : t < 2) : ent G (uR μ i j x) i = .inl (G.2.2.2.2 t, (n, .inl (upd (μ.2.1 i) j x))) := by
  rw [ent_a h]
  unfold arC
  rw [if_neg (by omega), if_neg (by omega), uR_s]
theorem ent_uRn {G : Gt} {μ : Mm} {i j k : Nat} {x : Int32} (h : k ≠ i) : ent G (uR μ i j x) k = ent G μ k := by
  unfold ent
  cases sh k with
  | inl a =>
    show Sum.inl (_, arC G (uR μ i j x) k a.1 a.2) = Sum.inl (_, arC G μ k a.1 a.2)
    unfold arC
    rw [uR_n μ j x h]
    rfl
  | inr a => rfl
theorem ent_uK {G : Gt} {μ : Mm} {i n j v : Nat} (h : sh i = .inl (2, n)) : ent G (uK μ j v) i = .inl (G.2.2.2.2 2, (n, .inr (.inr (.inr (.inr (va_up (fun j => some (G.2.2.1 (μ.2.2.1 j))) j (some (G.2.2.1 v)))))))) := by
  rw [ent_a h]
  unfold arC
  rw [if_pos rfl]
  congr 7
  funext k
  unfold va_up uK
  by_cases hk : k = j
  · simp [hk]
  · simp [hk]
theorem ent_uKn {G : Gt} {μ : Mm} {k j v : Nat} (h : ∀ n, sh k ≠ .inl (2, n)) : ent G (uK μ j v) k = ent G μ k := by
  unfold ent
  cases hs : sh k with
  | inl a =>
    show Sum.inl (_, arC G (uK μ j v) k a.1 a.2) = Sum.inl (_, arC G μ k a.1 a.2)
    unfold arC
    have h2 : ¬ a.1 = 2 := fun q => h a.2 (by rw [hs]; congr 1; exact Prod.ext q rfl)
    rw [if_neg h2, if_neg h2]
    rfl
  | inr a => rfl
theorem ent_uO {G : Gt} {μ : Mm} {i n : Nat} {x : Int64} (h : sh i = .inl (3, n)) : ent G (uO μ x) i = .inl (G.2.2.2.2 3, (n, .inr (.inl (fun j => if j = 0 then x else 0)))) := by
  rw [ent_a h]
  unfold arC
  rw [if_neg (by decide), if_pos rfl]
  rfl
theorem ent_uOn {G : Gt} {μ : Mm} {k : Nat} {x : Int64} (h : ∀ n, sh k ≠ .inl (3, n)) : ent G (uO μ x) k = ent G μ k := by
  unfold ent
  cases hs : sh k with
  | inl a =>
    show Sum.inl (_, arC G (uO μ x) k a.1 a.2) = Sum.inl (_, arC G μ k a.1 a.2)
    unfold arC
    have h2 : ¬ a.1 = 3 := fun q => h a.2 (by rw [hs]; congr 1; exact Prod.ext q rfl)
    rw [if_neg h2, if_neg h2]
    rfl
  | inr a => rfl
