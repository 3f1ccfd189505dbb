theorem lk_mem {lv : List (Nat × Value)} {i : Nat} {v : Value} (h : lv.lookup i = some v) : (i, v) ∈ lv := by
  induction lv with
  | nil => cases h
  | cons q l ih =>
    rw [List.lookup_cons] at h
    by_cases e : i == q.1
    · rw [e] at h
      cases h
      have : i = q.1 := by simpa using e
      subst this
      exact List.mem_cons_self
    · simp only [Bool.not_eq_true] at e
      rw [e] at h
      exact List.mem_cons_of_mem _ (ih h)
theorem lk_at {ls : Array Slot} {n : Nat} {lv : List (Nat × Value)} {i : Nat} {v : Value} (hl : lv_has ls n lv) (h : lv.lookup i = some v) : ls[i]? = some (.val v) := hl.2.2 _ (lk_mem h)
def bI (b : Bool) : Int32 := if b then nI 1 else nI 0
theorem bI_t {b : Bool} (h : b = true) : bI b = nI 1 := by rw [h]; rfl
theorem bI_f {b : Bool} (h : b = false) : bI b = nI 0 := by rw [h]; rfl
theorem nI_eq0 {a : Nat} (h : a < 2 ^ 31) : nI a = 0 ↔ a = 0 := by rw [show (0 : Int32) = nI 0 from rfl]; exact nI_eq h (by omega)
section ZR
variable {G : Gt} {d : Nat} {Y : YC} {F : Fn} {pc : Nat} {lv lv' : List (Nat × Value)} {st : List Value} {μ : Mm}
theorem z_iload_n {k0 : Fin 4} {x : Int32} (hdg : decode Y.2.1 pc = .ok (.iload_n k0, 1)) (h : lv.lookup (k0 : Nat) = some (.int x)) (k : Zs G d Y F (pc + 1) lv (.int x :: st) μ) : Zs G d Y F pc lv (st) μ := fun p e s m args below meth c H locs ls E hP hD hS hl => lv_iload_n E.x E.b hdg rfl (lk_at hl h) (k p e s m args below meth c H locs ls E hP hD hS hl)
theorem z_iload {i : Nat} {x : Int32} (hdg : decode Y.2.1 pc = .ok (.iload i, 2)) (h : lv.lookup i = some (.int x)) (k : Zs G d Y F (pc + 2) lv (.int x :: st) μ) : Zs G d Y F pc lv (st) μ := fun p e s m args below meth c H locs ls E hP hD hS hl => lv_iload E.x E.b hdg (lk_at hl h) (k p e s m args below meth c H locs ls E hP hD hS hl)
theorem z_lload_n {k0 : Fin 4} {x : Int64} (hdg : decode Y.2.1 pc = .ok (.lload_n k0, 1)) (h : lv.lookup (k0 : Nat) = some (.long x)) (k : Zs G d Y F (pc + 1) lv (.long x :: st) μ) : Zs G d Y F pc lv (st) μ := fun p e s m args below meth c H locs ls E hP hD hS hl => lv_lload_n E.x E.b hdg rfl (lk_at hl h) (k p e s m args below meth c H locs ls E hP hD hS hl)
theorem z_lload {i : Nat} {x : Int64} (hdg : decode Y.2.1 pc = .ok (.lload i, 2)) (h : lv.lookup i = some (.long x)) (k : Zs G d Y F (pc + 2) lv (.long x :: st) μ) : Zs G d Y F pc lv (st) μ := fun p e s m args below meth c H locs ls E hP hD hS hl => lv_lload E.x E.b hdg (lk_at hl h) (k p e s m args below meth c H locs ls E hP hD hS hl)
theorem z_dload_n {k0 : Fin 4} {x : UInt64} (hdg : decode Y.2.1 pc = .ok (.dload_n k0, 1)) (h : lv.lookup (k0 : Nat) = some (.double x)) (k : Zs G d Y F (pc + 1) lv (.double x :: st) μ) : Zs G d Y F pc lv (st) μ := fun p e s m args below meth c H locs ls E hP hD hS hl => lv_dload_n E.x E.b hdg rfl (lk_at hl h) (k p e s m args below meth c H locs ls E hP hD hS hl)
theorem z_dload {i : Nat} {x : UInt64} (hdg : decode Y.2.1 pc = .ok (.dload i, 2)) (h : lv.lookup i = some (.double x)) (k : Zs G d Y F (pc + 2) lv (.double x :: st) μ) : Zs G d Y F pc lv (st) μ := fun p e s m args below meth c H locs ls E hP hD hS hl => lv_dload E.x E.b hdg (lk_at hl h) (k p e s m args below meth c H locs ls E hP hD hS hl)
theorem z_aload_n {k0 : Fin 4} {i : Nat} (hdg : decode Y.2.1 pc = .ok (.aload_n k0, 1)) (h : lv.lookup (k0 : Nat) = some (rf G i)) (k : Zs G d Y F (pc + 1) lv (rf G i :: st) μ) : Zs G d Y F pc lv (st) μ := fun p e s m args below meth c H locs ls E hP hD hS hl => lv_aload_n E.x E.b hdg rfl (lk_at hl h) (k p e s m args below meth c H locs ls E hP hD hS hl)
theorem z_aload {j i : Nat} (hdg : decode Y.2.1 pc = .ok (.aload j, 2)) (h : lv.lookup j = some (rf G i)) (k : Zs G d Y F (pc + 2) lv (rf G i :: st) μ) : Zs G d Y F pc lv (st) μ := fun p e s m args below meth c H locs ls E hP hD hS hl => lv_aload E.x E.b hdg (lk_at hl h) (k p e s m args below meth c H locs ls E hP hD hS hl)
theorem z_kload_n {k0 : Fin 4} {i : Nat} (hdg : decode Y.2.1 pc = .ok (.aload_n k0, 1)) (h : lv.lookup (k0 : Nat) = some (kf G i)) (k : Zs G d Y F (pc + 1) lv (kf G i :: st) μ) : Zs G d Y F pc lv (st) μ := fun p e s m args below meth c H locs ls E hP hD hS hl => lv_aload_n E.x E.b hdg rfl (lk_at hl h) (k p e s m args below meth c H locs ls E hP hD hS hl)
theorem z_kload {j i : Nat} (hdg : decode Y.2.1 pc = .ok (.aload j, 2)) (h : lv.lookup j = some (kf G i)) (k : Zs G d Y F (pc + 2) lv (kf G i :: st) μ) : Zs G d Y F pc lv (st) μ := fun p e s m args below meth c H locs ls E hP hD hS hl => lv_aload E.x E.b hdg (lk_at hl h) (k p e s m args below meth c H locs ls E hP hD hS hl)
theorem z_nload_n {k0 : Fin 4} (hdg : decode Y.2.1 pc = .ok (.aload_n k0, 1)) (h : lv.lookup (k0 : Nat) = some .null) (k : Zs G d Y F (pc + 1) lv (.null :: st) μ) : Zs G d Y F pc lv (st) μ := fun p e s m args below meth c H locs ls E hP hD hS hl => lv_aload_nN E.x E.b hdg rfl (lk_at hl h) (k p e s m args below meth c H locs ls E hP hD hS hl)
theorem z_istore_n {k0 : Fin 4} {i : Nat} {x : Int32} (hdg : decode Y.2.1 pc = .ok (.istore_n k0, 1)) (hi : (k0 : Nat) = i) (hn : i < Y.2.2.1) (h : (i, Value.int x) :: lv.filter (fun q => !(q.1 == i) && !(q.1 + 1 == i && q.2.category == 2)) = lv') (k : Zs G d Y F (pc + 1) lv' (st) μ) : Zs G d Y F pc lv (Value.int x :: st) μ := fun p e s m args below meth c H locs ls E hP hD hS hl => lv_istore_n E.x E.b hdg hi hl hn h (fun ls1 hl1 => k p e s m args below meth c H locs ls1 E hP hD hS hl1)
theorem z_istore {i : Nat} {x : Int32} (hdg : decode Y.2.1 pc = .ok (.istore i, 2)) (hn : i < Y.2.2.1) (h : (i, Value.int x) :: lv.filter (fun q => !(q.1 == i) && !(q.1 + 1 == i && q.2.category == 2)) = lv') (k : Zs G d Y F (pc + 2) lv' (st) μ) : Zs G d Y F pc lv (Value.int x :: st) μ := fun p e s m args below meth c H locs ls E hP hD hS hl => lv_istore E.x E.b hdg hl hn h (fun ls1 hl1 => k p e s m args below meth c H locs ls1 E hP hD hS hl1)
theorem z_lstore_n {k0 : Fin 4} {i : Nat} {x : Int64} (hdg : decode Y.2.1 pc = .ok (.lstore_n k0, 1)) (hi : (k0 : Nat) = i) (hn : i + 1 < Y.2.2.1) (h : (i, Value.long x) :: lv.filter (fun q => !(q.1 == i) && (!(q.1 == i + 1) && !(q.1 + 1 == i && q.2.category == 2))) = lv') (k : Zs G d Y F (pc + 1) lv' (st) μ) : Zs G d Y F pc lv (Value.long x :: st) μ := fun p e s m args below meth c H locs ls E hP hD hS hl => lv_lstore_n E.x E.b hdg hi hl hn h (fun ls1 hl1 => k p e s m args below meth c H locs ls1 E hP hD hS hl1)
theorem z_lstore {i : Nat} {x : Int64} (hdg : decode Y.2.1 pc = .ok (.lstore i, 2)) (hn : i + 1 < Y.2.2.1) (h : (i, Value.long x) :: lv.filter (fun q => !(q.1 == i) && (!(q.1 == i + 1) && !(q.1 + 1 == i && q.2.category == 2))) = lv') (k : Zs G d Y F (pc + 2) lv' (st) μ) : Zs G d Y F pc lv (Value.long x :: st) μ := fun p e s m args below meth c H locs ls E hP hD hS hl => lv_lstore E.x E.b hdg hl hn h (fun ls1 hl1 => k p e s m args below meth c H locs ls1 E hP hD hS hl1)
theorem z_dstore_n {k0 : Fin 4} {i : Nat} {x : UInt64} (hdg : decode Y.2.1 pc = .ok (.dstore_n k0, 1)) (hi : (k0 : Nat) = i) (hn : i + 1 < Y.2.2.1) (h : (i, Value.double x) :: lv.filter (fun q => !(q.1 == i) && (!(q.1 == i + 1) && !(q.1 + 1 == i && q.2.category == 2))) = lv') (k : Zs G d Y F (pc + 1) lv' (st) μ) : Zs G d Y F pc lv (Value.double x :: st) μ := fun p e s m args below meth c H locs ls E hP hD hS hl => lv_dstore_n E.x E.b hdg hi hl hn h (fun ls1 hl1 => k p e s m args below meth c H locs ls1 E hP hD hS hl1)
theorem z_dstore {i : Nat} {x : UInt64} (hdg : decode Y.2.1 pc = .ok (.dstore i, 2)) (hn : i + 1 < Y.2.2.1) (h : (i, Value.double x) :: lv.filter (fun q => !(q.1 == i) && (!(q.1 == i + 1) && !(q.1 + 1 == i && q.2.category == 2))) = lv') (k : Zs G d Y F (pc + 2) lv' (st) μ) : Zs G d Y F pc lv (Value.double x :: st) μ := fun p e s m args below meth c H locs ls E hP hD hS hl => lv_dstore E.x E.b hdg hl hn h (fun ls1 hl1 => k p e s m args below meth c H locs ls1 E hP hD hS hl1)
theorem z_astore_n {k0 : Fin 4} {i j : Nat} (hdg : decode Y.2.1 pc = .ok (.astore_n k0, 1)) (hi : (k0 : Nat) = i) (hn : i < Y.2.2.1) (h : (i, rf G j) :: lv.filter (fun q => !(q.1 == i) && !(q.1 + 1 == i && q.2.category == 2)) = lv') (k : Zs G d Y F (pc + 1) lv' (st) μ) : Zs G d Y F pc lv (rf G j :: st) μ := fun p e s m args below meth c H locs ls E hP hD hS hl => lv_astore_n E.x E.b hdg hi hl hn h (fun ls1 hl1 => k p e s m args below meth c H locs ls1 E hP hD hS hl1)
theorem z_astore {i j : Nat} (hdg : decode Y.2.1 pc = .ok (.astore i, 2)) (hn : i < Y.2.2.1) (h : (i, rf G j) :: lv.filter (fun q => !(q.1 == i) && !(q.1 + 1 == i && q.2.category == 2)) = lv') (k : Zs G d Y F (pc + 2) lv' (st) μ) : Zs G d Y F pc lv (rf G j :: st) μ := fun p e s m args below meth c H locs ls E hP hD hS hl => lv_astore E.x E.b hdg hl hn h (fun ls1 hl1 => k p e s m args below meth c H locs ls1 E hP hD hS hl1)
theorem z_kstore_n {k0 : Fin 4} {i j : Nat} (hdg : decode Y.2.1 pc = .ok (.astore_n k0, 1)) (hi : (k0 : Nat) = i) (hn : i < Y.2.2.1) (h : (i, kf G j) :: lv.filter (fun q => !(q.1 == i) && !(q.1 + 1 == i && q.2.category == 2)) = lv') (k : Zs G d Y F (pc + 1) lv' (st) μ) : Zs G d Y F pc lv (kf G j :: st) μ := fun p e s m args below meth c H locs ls E hP hD hS hl => lv_astore_n E.x E.b hdg hi hl hn h (fun ls1 hl1 => k p e s m args below meth c H locs ls1 E hP hD hS hl1)
theorem z_kstore {i j : Nat} (hdg : decode Y.2.1 pc = .ok (.astore i, 2)) (hn : i < Y.2.2.1) (h : (i, kf G j) :: lv.filter (fun q => !(q.1 == i) && !(q.1 + 1 == i && q.2.category == 2)) = lv') (k : Zs G d Y F (pc + 2) lv' (st) μ) : Zs G d Y F pc lv (kf G j :: st) μ := fun p e s m args below meth c H locs ls E hP hD hS hl => lv_astore E.x E.b hdg hl hn h (fun ls1 hl1 => k p e s m args below meth c H locs ls1 E hP hD hS hl1)
theorem z_nstore_n {k0 : Fin 4} {i : Nat} (hdg : decode Y.2.1 pc = .ok (.astore_n k0, 1)) (hi : (k0 : Nat) = i) (hn : i < Y.2.2.1) (h : (i, Value.null) :: lv.filter (fun q => !(q.1 == i) && !(q.1 + 1 == i && q.2.category == 2)) = lv') (k : Zs G d Y F (pc + 1) lv' (st) μ) : Zs G d Y F pc lv (.null :: st) μ := fun p e s m args below meth c H locs ls E hP hD hS hl => lv_astore_nN E.x E.b hdg hi hl hn h (fun ls1 hl1 => k p e s m args below meth c H locs ls1 E hP hD hS hl1)
theorem lk_ix {lv : List (Nat × Value)} {i : Nat} {v : Value} (h : lv.lookup i = some v) : ∃ k : Nat, lv[k]? = some (i, v) := by
  obtain ⟨k, hk⟩ := List.getElem?_of_mem (lk_mem h)
  exact ⟨k, hk⟩
theorem z_iinc {i : Nat} {n : Int} {x v : Int32} (hdg : decode Y.2.1 pc = .ok (.iinc i n, 3)) (hx : lv.lookup i = some (.int x)) (hv : x + Int32.ofInt n = v) (hn : i < Y.2.2.1) (h : (i, Value.int v) :: lv.filter (fun q => !(q.1 == i) && !(q.1 + 1 == i && q.2.category == 2)) = lv') (k : Zs G d Y F (pc + 3) lv' st μ) : Zs G d Y F pc lv st μ := by
  intro p e s m args below meth c H locs ls E hP hD hS hl
  obtain ⟨k9, hk9⟩ := lk_ix hx
  exact lv_iinc E.x E.b hdg hl hk9 hv hn h (fun ls1 hl1 => k p e s m args below meth c H locs ls1 E hP hD hS hl1)
theorem z_iconst {n : Int} {v : Int32} (hdg : decode Y.2.1 pc = .ok (.iconst n, 1)) (hv : Int32.ofInt n = v) (k : Zs G d Y F (pc + 1) lv (.int v :: st) μ) : Zs G d Y F pc lv (st) μ := fun p e s m args below meth c H locs ls E hP hD hS hl => lv_iconst E.x E.b hdg hv (k p e s m args below meth c H locs ls E hP hD hS hl)
theorem z_bipush {n : Int} {v : Int32} (hdg : decode Y.2.1 pc = .ok (.bipush n, 2)) (hv : (Int8.ofInt n).toInt32 = v) (k : Zs G d Y F (pc + 2) lv (.int v :: st) μ) : Zs G d Y F pc lv (st) μ := fun p e s m args below meth c H locs ls E hP hD hS hl => lv_bipush E.x E.b hdg hv (k p e s m args below meth c H locs ls E hP hD hS hl)
theorem z_sipush {n : Int} {v : Int32} (hdg : decode Y.2.1 pc = .ok (.sipush n, 3)) (hv : (Int16.ofInt n).toInt32 = v) (k : Zs G d Y F (pc + 3) lv (.int v :: st) μ) : Zs G d Y F pc lv (st) μ := fun p e s m args below meth c H locs ls E hP hD hS hl => lv_sipush E.x E.b hdg hv (k p e s m args below meth c H locs ls E hP hD hS hl)
theorem z_lconst {n : Fin 2} {v : Int64} (hdg : decode Y.2.1 pc = .ok (.lconst n, 1)) (hv : Int64.ofNat (n : Nat) = v) (k : Zs G d Y F (pc + 1) lv (.long v :: st) μ) : Zs G d Y F pc lv (st) μ := fun p e s m args below meth c H locs ls E hP hD hS hl => lv_lconst E.x E.b hdg hv (k p e s m args below meth c H locs ls E hP hD hS hl)
theorem z_dconst0  (hdg : decode Y.2.1 pc = .ok (.dconst 0, 1)) (k : Zs G d Y F (pc + 1) lv (.double 0 :: st) μ) : Zs G d Y F pc lv (st) μ := fun p e s m args below meth c H locs ls E hP hD hS hl => lv_dconst0 E.x E.b hdg  (k p e s m args below meth c H locs ls E hP hD hS hl)
theorem z_dconst1  (hdg : decode Y.2.1 pc = .ok (.dconst 1, 1)) (k : Zs G d Y F (pc + 1) lv (.double 4607182418800017408 :: st) μ) : Zs G d Y F pc lv (st) μ := fun p e s m args below meth c H locs ls E hP hD hS hl => lv_dconst1 E.x E.b hdg  (k p e s m args below meth c H locs ls E hP hD hS hl)
theorem z_ldc {idx : Nat} {v : Int32} (hdg : decode Y.2.1 pc = .ok (.ldc idx, 2)) (hc : Cond.constant Y.1.cls idx v ∈ tbG) (k : Zs G d Y F (pc + 2) lv (.int v :: st) μ) : Zs G d Y F pc lv (st) μ := fun p e s m args below meth c H locs ls E hP hD hS hl => lv_ldc E.x E.b E.o (E.t _ hc) hdg (k p e s m args below meth c H locs ls E hP hD hS hl)
theorem z_ldc2 {idx : Nat} {v : Int64} (hdg : decode Y.2.1 pc = .ok (.ldc2_w idx, 3)) (hc : Cond.constantLong Y.1.cls idx v ∈ tbG) (k : Zs G d Y F (pc + 3) lv (.long v :: st) μ) : Zs G d Y F pc lv (st) μ := fun p e s m args below meth c H locs ls E hP hD hS hl => lv_ldc2 E.x E.b E.o (E.t _ hc) hdg (k p e s m args below meth c H locs ls E hP hD hS hl)
theorem z_ldc2d {idx : Nat} {v : UInt64} (hdg : decode Y.2.1 pc = .ok (.ldc2_w idx, 3)) (hc : Cond.constantDouble Y.1.cls idx v ∈ tbG) (k : Zs G d Y F (pc + 3) lv (.double v :: st) μ) : Zs G d Y F pc lv (st) μ := fun p e s m args below meth c H locs ls E hP hD hS hl => lv_ldc2d E.x E.b E.o (E.t _ hc) hdg (k p e s m args below meth c H locs ls E hP hD hS hl)
theorem z_null  (hdg : decode Y.2.1 pc = .ok (.aconst_null, 1)) (k : Zs G d Y F (pc + 1) lv (.null :: st) μ) : Zs G d Y F pc lv (st) μ := fun p e s m args below meth c H locs ls E hP hD hS hl => lv_null E.x E.b hdg  (k p e s m args below meth c H locs ls E hP hD hS hl)
theorem z_iadd {x y : Int32} (hdg : decode Y.2.1 pc = .ok (.iadd, 1)) (k : Zs G d Y F (pc + 1) lv (.int (x + y) :: st) μ) : Zs G d Y F pc lv (.int y :: .int x :: st) μ := fun p e s m args below meth c H locs ls E hP hD hS hl => lv_iadd E.x E.b hdg  (k p e s m args below meth c H locs ls E hP hD hS hl)
theorem z_isub {x y : Int32} (hdg : decode Y.2.1 pc = .ok (.isub, 1)) (k : Zs G d Y F (pc + 1) lv (.int (x - y) :: st) μ) : Zs G d Y F pc lv (.int y :: .int x :: st) μ := fun p e s m args below meth c H locs ls E hP hD hS hl => lv_isub E.x E.b hdg  (k p e s m args below meth c H locs ls E hP hD hS hl)
theorem z_imul {x y : Int32} (hdg : decode Y.2.1 pc = .ok (.imul, 1)) (k : Zs G d Y F (pc + 1) lv (.int (x * y) :: st) μ) : Zs G d Y F pc lv (.int y :: .int x :: st) μ := fun p e s m args below meth c H locs ls E hP hD hS hl => lv_imul E.x E.b hdg  (k p e s m args below meth c H locs ls E hP hD hS hl)
theorem z_iand {x y : Int32} (hdg : decode Y.2.1 pc = .ok (.iand, 1)) (k : Zs G d Y F (pc + 1) lv (.int (x &&& y) :: st) μ) : Zs G d Y F pc lv (.int y :: .int x :: st) μ := fun p e s m args below meth c H locs ls E hP hD hS hl => lv_iand E.x E.b hdg  (k p e s m args below meth c H locs ls E hP hD hS hl)
theorem z_ior {x y : Int32} (hdg : decode Y.2.1 pc = .ok (.ior, 1)) (k : Zs G d Y F (pc + 1) lv (.int (x ||| y) :: st) μ) : Zs G d Y F pc lv (.int y :: .int x :: st) μ := fun p e s m args below meth c H locs ls E hP hD hS hl => lv_ior E.x E.b hdg  (k p e s m args below meth c H locs ls E hP hD hS hl)
theorem z_ixor {x y : Int32} (hdg : decode Y.2.1 pc = .ok (.ixor, 1)) (k : Zs G d Y F (pc + 1) lv (.int (x ^^^ y) :: st) μ) : Zs G d Y F pc lv (.int y :: .int x :: st) μ := fun p e s m args below meth c H locs ls E hP hD hS hl => lv_ixor E.x E.b hdg  (k p e s m args below meth c H locs ls E hP hD hS hl)
theorem z_ishl {x y : Int32} (hdg : decode Y.2.1 pc = .ok (.ishl, 1)) (k : Zs G d Y F (pc + 1) lv (.int (x <<< (y &&& 31)) :: st) μ) : Zs G d Y F pc lv (.int y :: .int x :: st) μ := fun p e s m args below meth c H locs ls E hP hD hS hl => lv_ishl E.x E.b hdg  (k p e s m args below meth c H locs ls E hP hD hS hl)
theorem z_ishr {x y : Int32} (hdg : decode Y.2.1 pc = .ok (.ishr, 1)) (k : Zs G d Y F (pc + 1) lv (.int (x >>> (y &&& 31)) :: st) μ) : Zs G d Y F pc lv (.int y :: .int x :: st) μ := fun p e s m args below meth c H locs ls E hP hD hS hl => lv_ishr E.x E.b hdg  (k p e s m args below meth c H locs ls E hP hD hS hl)
theorem z_idiv {x y : Int32} (hdg : decode Y.2.1 pc = .ok (.idiv, 1)) (hne : ¬ y = 0) (k : Zs G d Y F (pc + 1) lv (.int (x / y) :: st) μ) : Zs G d Y F pc lv (.int y :: .int x :: st) μ := fun p e s m args below meth c H locs ls E hP hD hS hl => lv_idiv E.x E.b hdg hne (k p e s m args below meth c H locs ls E hP hD hS hl)
theorem z_irem {x y : Int32} (hdg : decode Y.2.1 pc = .ok (.irem, 1)) (hne : ¬ y = 0) (k : Zs G d Y F (pc + 1) lv (.int (x - x / y * y) :: st) μ) : Zs G d Y F pc lv (.int y :: .int x :: st) μ := fun p e s m args below meth c H locs ls E hP hD hS hl => lv_irem E.x E.b hdg hne (k p e s m args below meth c H locs ls E hP hD hS hl)
theorem z_ineg {x : Int32} (hdg : decode Y.2.1 pc = .ok (.ineg, 1)) (k : Zs G d Y F (pc + 1) lv (.int (-x) :: st) μ) : Zs G d Y F pc lv (.int x :: st) μ := fun p e s m args below meth c H locs ls E hP hD hS hl => lv_ineg E.x E.b hdg  (k p e s m args below meth c H locs ls E hP hD hS hl)
theorem z_ladd {x y : Int64} (hdg : decode Y.2.1 pc = .ok (.ladd, 1)) (k : Zs G d Y F (pc + 1) lv (.long (x + y) :: st) μ) : Zs G d Y F pc lv (.long y :: .long x :: st) μ := fun p e s m args below meth c H locs ls E hP hD hS hl => lv_ladd E.x E.b hdg  (k p e s m args below meth c H locs ls E hP hD hS hl)
theorem z_lsub {x y : Int64} (hdg : decode Y.2.1 pc = .ok (.lsub, 1)) (k : Zs G d Y F (pc + 1) lv (.long (x - y) :: st) μ) : Zs G d Y F pc lv (.long y :: .long x :: st) μ := fun p e s m args below meth c H locs ls E hP hD hS hl => lv_lsub E.x E.b hdg  (k p e s m args below meth c H locs ls E hP hD hS hl)
theorem z_lmul {x y : Int64} (hdg : decode Y.2.1 pc = .ok (.lmul, 1)) (k : Zs G d Y F (pc + 1) lv (.long (x * y) :: st) μ) : Zs G d Y F pc lv (.long y :: .long x :: st) μ := fun p e s m args below meth c H locs ls E hP hD hS hl => lv_lmul E.x E.b hdg  (k p e s m args below meth c H locs ls E hP hD hS hl)
theorem z_land {x y : Int64} (hdg : decode Y.2.1 pc = .ok (.land, 1)) (k : Zs G d Y F (pc + 1) lv (.long (x &&& y) :: st) μ) : Zs G d Y F pc lv (.long y :: .long x :: st) μ := fun p e s m args below meth c H locs ls E hP hD hS hl => lv_land E.x E.b hdg  (k p e s m args below meth c H locs ls E hP hD hS hl)
theorem z_lor {x y : Int64} (hdg : decode Y.2.1 pc = .ok (.lor, 1)) (k : Zs G d Y F (pc + 1) lv (.long (x ||| y) :: st) μ) : Zs G d Y F pc lv (.long y :: .long x :: st) μ := fun p e s m args below meth c H locs ls E hP hD hS hl => lv_lor E.x E.b hdg  (k p e s m args below meth c H locs ls E hP hD hS hl)
theorem z_lshl {x v : Int64} {y : Int32} (hdg : decode Y.2.1 pc = .ok (.lshl, 1)) (hv : x <<< (y.toInt64 &&& 63) = v) (k : Zs G d Y F (pc + 1) lv (.long v :: st) μ) : Zs G d Y F pc lv (.int y :: .long x :: st) μ := fun p e s m args below meth c H locs ls E hP hD hS hl => lv_lshl E.x E.b hdg hv (k p e s m args below meth c H locs ls E hP hD hS hl)
theorem z_lshr {x v : Int64} {y : Int32} (hdg : decode Y.2.1 pc = .ok (.lshr, 1)) (hv : x >>> (y.toInt64 &&& 63) = v) (k : Zs G d Y F (pc + 1) lv (.long v :: st) μ) : Zs G d Y F pc lv (.int y :: .long x :: st) μ := fun p e s m args below meth c H locs ls E hP hD hS hl => lv_lshr E.x E.b hdg hv (k p e s m args below meth c H locs ls E hP hD hS hl)
theorem z_iushr {x y v : Int32} (hdg : decode Y.2.1 pc = .ok (.iushr, 1)) (hv : (x.toUInt32 >>> (y.toUInt32 &&& Int32.toUInt32 31)).toInt32 = v) (k : Zs G d Y F (pc + 1) lv (.int v :: st) μ) : Zs G d Y F pc lv (.int y :: .int x :: st) μ := fun p e s m args below meth c H locs ls E hP hD hS hl => lv_iushr E.x E.b hdg hv (k p e s m args below meth c H locs ls E hP hD hS hl)
theorem z_lushr {x v : Int64} {y : Int32} (hdg : decode Y.2.1 pc = .ok (.lushr, 1)) (hv : (x.toUInt64 >>> (y.toInt64.toUInt64 &&& Int64.toUInt64 63)).toInt64 = v) (k : Zs G d Y F (pc + 1) lv (.long v :: st) μ) : Zs G d Y F pc lv (.int y :: .long x :: st) μ := fun p e s m args below meth c H locs ls E hP hD hS hl => lv_lushr E.x E.b hdg hv (k p e s m args below meth c H locs ls E hP hD hS hl)
theorem z_i2l {x : Int32} {v : Int64} (hdg : decode Y.2.1 pc = .ok (.i2l, 1)) (hv : x.toInt64 = v) (k : Zs G d Y F (pc + 1) lv (.long v :: st) μ) : Zs G d Y F pc lv (.int x :: st) μ := fun p e s m args below meth c H locs ls E hP hD hS hl => lv_i2l E.x E.b hdg hv (k p e s m args below meth c H locs ls E hP hD hS hl)
theorem z_l2i {x : Int64} {v : Int32} (hdg : decode Y.2.1 pc = .ok (.l2i, 1)) (hv : x.toInt32 = v) (k : Zs G d Y F (pc + 1) lv (.int v :: st) μ) : Zs G d Y F pc lv (.long x :: st) μ := fun p e s m args below meth c H locs ls E hP hD hS hl => lv_l2i E.x E.b hdg hv (k p e s m args below meth c H locs ls E hP hD hS hl)
theorem z_i2b {x v : Int32} (hdg : decode Y.2.1 pc = .ok (.i2b, 1)) (hv : x.toInt8.toInt32 = v) (k : Zs G d Y F (pc + 1) lv (.int v :: st) μ) : Zs G d Y F pc lv (.int x :: st) μ := fun p e s m args below meth c H locs ls E hP hD hS hl => lv_i2b E.x E.b hdg hv (k p e s m args below meth c H locs ls E hP hD hS hl)
theorem z_i2c {x v : Int32} (hdg : decode Y.2.1 pc = .ok (.i2c, 1)) (hv : (x.toUInt32 % 65536).toInt32 = v) (k : Zs G d Y F (pc + 1) lv (.int v :: st) μ) : Zs G d Y F pc lv (.int x :: st) μ := fun p e s m args below meth c H locs ls E hP hD hS hl => lv_i2c E.x E.b hdg hv (k p e s m args below meth c H locs ls E hP hD hS hl)
theorem z_i2d {x : Int32} (hdg : decode Y.2.1 pc = .ok (.i2d, 1)) (k : Zs G d Y F (pc + 1) lv (.double (FP.i2d x) :: st) μ) : Zs G d Y F pc lv (.int x :: st) μ := fun p e s m args below meth c H locs ls E hP hD hS hl => lv_i2d E.x E.b hdg  (k p e s m args below meth c H locs ls E hP hD hS hl)
theorem z_l2d {x : Int64} (hdg : decode Y.2.1 pc = .ok (.l2d, 1)) (k : Zs G d Y F (pc + 1) lv (.double (FP.l2d x) :: st) μ) : Zs G d Y F pc lv (.long x :: st) μ := fun p e s m args below meth c H locs ls E hP hD hS hl => lv_l2d E.x E.b hdg  (k p e s m args below meth c H locs ls E hP hD hS hl)
theorem z_d2l {x : UInt64} (hdg : decode Y.2.1 pc = .ok (.d2l, 1)) (k : Zs G d Y F (pc + 1) lv (.long (FP.d2l x) :: st) μ) : Zs G d Y F pc lv (.double x :: st) μ := fun p e s m args below meth c H locs ls E hP hD hS hl => lv_d2l E.x E.b hdg  (k p e s m args below meth c H locs ls E hP hD hS hl)
theorem z_dadd {x y : UInt64} (hdg : decode Y.2.1 pc = .ok (.dadd, 1)) (hne : vf_n64 (FP.dadd x y)) (k : Zs G d Y F (pc + 1) lv (.double (FP.dadd x y) :: st) μ) : Zs G d Y F pc lv (.double y :: .double x :: st) μ := fun p e s m args below meth c H locs ls E hP hD hS hl => lv_dadd E.x E.b hdg hne (k p e s m args below meth c H locs ls E hP hD hS hl)
theorem z_dsub {x y : UInt64} (hdg : decode Y.2.1 pc = .ok (.dsub, 1)) (hne : vf_n64 (FP.dsub x y)) (k : Zs G d Y F (pc + 1) lv (.double (FP.dsub x y) :: st) μ) : Zs G d Y F pc lv (.double y :: .double x :: st) μ := fun p e s m args below meth c H locs ls E hP hD hS hl => lv_dsub E.x E.b hdg hne (k p e s m args below meth c H locs ls E hP hD hS hl)
theorem z_dmul {x y : UInt64} (hdg : decode Y.2.1 pc = .ok (.dmul, 1)) (hne : vf_n64 (FP.dmul x y)) (k : Zs G d Y F (pc + 1) lv (.double (FP.dmul x y) :: st) μ) : Zs G d Y F pc lv (.double y :: .double x :: st) μ := fun p e s m args below meth c H locs ls E hP hD hS hl => lv_dmul E.x E.b hdg hne (k p e s m args below meth c H locs ls E hP hD hS hl)
theorem z_ddiv {x y : UInt64} (hdg : decode Y.2.1 pc = .ok (.ddiv, 1)) (hne : vf_n64 (FP.ddiv x y)) (k : Zs G d Y F (pc + 1) lv (.double (FP.ddiv x y) :: st) μ) : Zs G d Y F pc lv (.double y :: .double x :: st) μ := fun p e s m args below meth c H locs ls E hP hD hS hl => lv_ddiv E.x E.b hdg hne (k p e s m args below meth c H locs ls E hP hD hS hl)
theorem z_dcmp {x y : UInt64} {op : CmpOp} (hdg : decode Y.2.1 pc = .ok (.dcmp op, 1)) (k : Zs G d Y F (pc + 1) lv (.int (Op.cmpValue (FP.dcmp x y) op) :: st) μ) : Zs G d Y F pc lv (.double y :: .double x :: st) μ := fun p e s m args below meth c H locs ls E hP hD hS hl => lv_dcmp E.x E.b hdg  (k p e s m args below meth c H locs ls E hP hD hS hl)
theorem z_lcmp {x y : Int64} (hdg : decode Y.2.1 pc = .ok (.lcmp, 1)) (k : Zs G d Y F (pc + 1) lv (.int (lg_cmp x y) :: st) μ) : Zs G d Y F pc lv (.long y :: .long x :: st) μ := fun p e s m args below meth c H locs ls E hP hD hS hl => W.lcmp E.x E.b hdg (k p e s m args below meth c H locs ls E hP hD hS hl)
theorem z_dup {v : Value} (hdg : decode Y.2.1 pc = .ok (.dup, 1)) (hv : v.category = 1) (k : Zs G d Y F (pc + 1) lv (v :: v :: st) μ) : Zs G d Y F pc lv (v :: st) μ := fun p e s m args below meth c H locs ls E hP hD hS hl => lv_dup E.x E.b hdg hv (k p e s m args below meth c H locs ls E hP hD hS hl)
theorem z_pop {v : Value} (hdg : decode Y.2.1 pc = .ok (.pop, 1)) (hv : v.category = 1) (k : Zs G d Y F (pc + 1) lv (st) μ) : Zs G d Y F pc lv (v :: st) μ := fun p e s m args below meth c H locs ls E hP hD hS hl => lv_pop E.x E.b hdg hv (k p e s m args below meth c H locs ls E hP hD hS hl)
theorem z_dup2 {va vb : Value} (hdg : decode Y.2.1 pc = .ok (.dup2, 1)) (hva : va.category = 1) (hvb : vb.category = 1) (k : Zs G d Y F (pc + 1) lv (va :: vb :: va :: vb :: st) μ) : Zs G d Y F pc lv (va :: vb :: st) μ := fun p e s m args below meth c H locs ls E hP hD hS hl => lv_dup2_11 E.x E.b hdg hva hvb (k p e s m args below meth c H locs ls E hP hD hS hl)
theorem z_if_eq {x : Int32} {off : Int} {tgt : Nat} (hdg : decode Y.2.1 pc = .ok (.ifCond .eq off, 3)) (ht : (pc : Int) + off = (tgt : Int)) (kt : x = 0 → Zs G d Y F tgt lv st μ) (kf : ¬ x = 0 → Zs G d Y F (pc + 3) lv st μ) : Zs G d Y F pc lv (.int x :: st) μ := fun p e s m args below meth c H locs ls E hP hD hS hl => lv_if_eq E.x E.b hdg ht (fun h => kt h p e s m args below meth c H locs ls E hP hD hS hl) (fun h => kf h p e s m args below meth c H locs ls E hP hD hS hl)
theorem z_icmp_eq {x y : Int32} {off : Int} {tgt : Nat} (hdg : decode Y.2.1 pc = .ok (.if_icmp .eq off, 3)) (ht : (pc : Int) + off = (tgt : Int)) (kt : x = y → Zs G d Y F tgt lv st μ) (kf : ¬ x = y → Zs G d Y F (pc + 3) lv st μ) : Zs G d Y F pc lv (.int y :: .int x :: st) μ := fun p e s m args below meth c H locs ls E hP hD hS hl => lv_icmp_eq E.x E.b hdg ht (fun h => kt h p e s m args below meth c H locs ls E hP hD hS hl) (fun h => kf h p e s m args below meth c H locs ls E hP hD hS hl)
theorem z_if_ne {x : Int32} {off : Int} {tgt : Nat} (hdg : decode Y.2.1 pc = .ok (.ifCond .ne off, 3)) (ht : (pc : Int) + off = (tgt : Int)) (kt : ¬ x = 0 → Zs G d Y F tgt lv st μ) (kf : x = 0 → Zs G d Y F (pc + 3) lv st μ) : Zs G d Y F pc lv (.int x :: st) μ := fun p e s m args below meth c H locs ls E hP hD hS hl => lv_if_ne E.x E.b hdg ht (fun h => kt h p e s m args below meth c H locs ls E hP hD hS hl) (fun h => kf h p e s m args below meth c H locs ls E hP hD hS hl)
theorem z_icmp_ne {x y : Int32} {off : Int} {tgt : Nat} (hdg : decode Y.2.1 pc = .ok (.if_icmp .ne off, 3)) (ht : (pc : Int) + off = (tgt : Int)) (kt : ¬ x = y → Zs G d Y F tgt lv st μ) (kf : x = y → Zs G d Y F (pc + 3) lv st μ) : Zs G d Y F pc lv (.int y :: .int x :: st) μ := fun p e s m args below meth c H locs ls E hP hD hS hl => lv_icmp_ne E.x E.b hdg ht (fun h => kt h p e s m args below meth c H locs ls E hP hD hS hl) (fun h => kf h p e s m args below meth c H locs ls E hP hD hS hl)
theorem z_if_lt {x : Int32} {off : Int} {tgt : Nat} (hdg : decode Y.2.1 pc = .ok (.ifCond .lt off, 3)) (ht : (pc : Int) + off = (tgt : Int)) (kt : x < 0 → Zs G d Y F tgt lv st μ) (kf : ¬ x < 0 → Zs G d Y F (pc + 3) lv st μ) : Zs G d Y F pc lv (.int x :: st) μ := fun p e s m args below meth c H locs ls E hP hD hS hl => lv_if_lt E.x E.b hdg ht (fun h => kt h p e s m args below meth c H locs ls E hP hD hS hl) (fun h => kf h p e s m args below meth c H locs ls E hP hD hS hl)
theorem z_icmp_lt {x y : Int32} {off : Int} {tgt : Nat} (hdg : decode Y.2.1 pc = .ok (.if_icmp .lt off, 3)) (ht : (pc : Int) + off = (tgt : Int)) (kt : x < y → Zs G d Y F tgt lv st μ) (kf : ¬ x < y → Zs G d Y F (pc + 3) lv st μ) : Zs G d Y F pc lv (.int y :: .int x :: st) μ := fun p e s m args below meth c H locs ls E hP hD hS hl => lv_icmp_lt E.x E.b hdg ht (fun h => kt h p e s m args below meth c H locs ls E hP hD hS hl) (fun h => kf h p e s m args below meth c H locs ls E hP hD hS hl)
theorem z_if_ge {x : Int32} {off : Int} {tgt : Nat} (hdg : decode Y.2.1 pc = .ok (.ifCond .ge off, 3)) (ht : (pc : Int) + off = (tgt : Int)) (kt : 0 ≤ x → Zs G d Y F tgt lv st μ) (kf : ¬ 0 ≤ x → Zs G d Y F (pc + 3) lv st μ) : Zs G d Y F pc lv (.int x :: st) μ := fun p e s m args below meth c H locs ls E hP hD hS hl => lv_if_ge E.x E.b hdg ht (fun h => kt h p e s m args below meth c H locs ls E hP hD hS hl) (fun h => kf h p e s m args below meth c H locs ls E hP hD hS hl)
theorem z_icmp_ge {x y : Int32} {off : Int} {tgt : Nat} (hdg : decode Y.2.1 pc = .ok (.if_icmp .ge off, 3)) (ht : (pc : Int) + off = (tgt : Int)) (kt : y ≤ x → Zs G d Y F tgt lv st μ) (kf : ¬ y ≤ x → Zs G d Y F (pc + 3) lv st μ) : Zs G d Y F pc lv (.int y :: .int x :: st) μ := fun p e s m args below meth c H locs ls E hP hD hS hl => lv_icmp_ge E.x E.b hdg ht (fun h => kt h p e s m args below meth c H locs ls E hP hD hS hl) (fun h => kf h p e s m args below meth c H locs ls E hP hD hS hl)
theorem z_if_gt {x : Int32} {off : Int} {tgt : Nat} (hdg : decode Y.2.1 pc = .ok (.ifCond .gt off, 3)) (ht : (pc : Int) + off = (tgt : Int)) (kt : 0 < x → Zs G d Y F tgt lv st μ) (kf : ¬ 0 < x → Zs G d Y F (pc + 3) lv st μ) : Zs G d Y F pc lv (.int x :: st) μ := fun p e s m args below meth c H locs ls E hP hD hS hl => lv_if_gt E.x E.b hdg ht (fun h => kt h p e s m args below meth c H locs ls E hP hD hS hl) (fun h => kf h p e s m args below meth c H locs ls E hP hD hS hl)
theorem z_icmp_gt {x y : Int32} {off : Int} {tgt : Nat} (hdg : decode Y.2.1 pc = .ok (.if_icmp .gt off, 3)) (ht : (pc : Int) + off = (tgt : Int)) (kt : y < x → Zs G d Y F tgt lv st μ) (kf : ¬ y < x → Zs G d Y F (pc + 3) lv st μ) : Zs G d Y F pc lv (.int y :: .int x :: st) μ := fun p e s m args below meth c H locs ls E hP hD hS hl => lv_icmp_gt E.x E.b hdg ht (fun h => kt h p e s m args below meth c H locs ls E hP hD hS hl) (fun h => kf h p e s m args below meth c H locs ls E hP hD hS hl)
theorem z_if_le {x : Int32} {off : Int} {tgt : Nat} (hdg : decode Y.2.1 pc = .ok (.ifCond .le off, 3)) (ht : (pc : Int) + off = (tgt : Int)) (kt : x ≤ 0 → Zs G d Y F tgt lv st μ) (kf : ¬ x ≤ 0 → Zs G d Y F (pc + 3) lv st μ) : Zs G d Y F pc lv (.int x :: st) μ := fun p e s m args below meth c H locs ls E hP hD hS hl => lv_if_le E.x E.b hdg ht (fun h => kt h p e s m args below meth c H locs ls E hP hD hS hl) (fun h => kf h p e s m args below meth c H locs ls E hP hD hS hl)
theorem z_icmp_le {x y : Int32} {off : Int} {tgt : Nat} (hdg : decode Y.2.1 pc = .ok (.if_icmp .le off, 3)) (ht : (pc : Int) + off = (tgt : Int)) (kt : x ≤ y → Zs G d Y F tgt lv st μ) (kf : ¬ x ≤ y → Zs G d Y F (pc + 3) lv st μ) : Zs G d Y F pc lv (.int y :: .int x :: st) μ := fun p e s m args below meth c H locs ls E hP hD hS hl => lv_icmp_le E.x E.b hdg ht (fun h => kt h p e s m args below meth c H locs ls E hP hD hS hl) (fun h => kf h p e s m args below meth c H locs ls E hP hD hS hl)
theorem z_goto {off : Int} {tgt : Nat} (hdg : decode Y.2.1 pc = .ok (.goto off, 3)) (ht : (pc : Int) + off = (tgt : Int)) (k : Zs G d Y F tgt lv st μ) : Zs G d Y F pc lv st μ := fun p e s m args below meth c H locs ls E hP hD hS hl => lv_goto E.x E.b hdg ht (k p e s m args below meth c H locs ls E hP hD hS hl)
theorem z_icmpN_eq {a b : Nat} {off : Int} {tgt : Nat} (hdg : decode Y.2.1 pc = .ok (.if_icmp .eq off, 3)) (ht : (pc : Int) + off = (tgt : Int)) (ha : a < 2 ^ 31) (hb : b < 2 ^ 31) (kt : a = b → Zs G d Y F tgt lv st μ) (kf : a ≠ b → Zs G d Y F (pc + 3) lv st μ) : Zs G d Y F pc lv (.int (nI b) :: .int (nI a) :: st) μ := by
  have e1 := nI_eq ha hb
  have e2 := nI_ltI ha hb
  have e3 := nI_leI ha hb
  have e4 := nI_ltI hb ha
  have e5 := nI_leI hb ha
  refine z_icmp_eq hdg ht (fun h => kt ?_) (fun h => kf ?_)
  · by_cases q1 : a < b <;> by_cases q2 : a = b <;> simp_all <;> omega
  · by_cases q1 : a < b <;> by_cases q2 : a = b <;> simp_all <;> omega
theorem z_ifN_eq {a : Nat} {off : Int} {tgt : Nat} (hdg : decode Y.2.1 pc = .ok (.ifCond .eq off, 3)) (ht : (pc : Int) + off = (tgt : Int)) (ha : a < 2 ^ 31) (kt : a = 0 → Zs G d Y F tgt lv st μ) (kf : a ≠ 0 → Zs G d Y F (pc + 3) lv st μ) : Zs G d Y F pc lv (.int (nI a) :: st) μ := by
  have hb : 0 < 2 ^ 31 := by decide
  have e0 : (0 : Int32) = nI 0 := rfl
  have e1 := nI_eq ha hb
  have e2 := nI_ltI ha hb
  have e3 := nI_leI ha hb
  have e4 := nI_ltI hb ha
  have e5 := nI_leI hb ha
  rw [← e0] at e1 e2 e3 e4 e5
  refine z_if_eq hdg ht (fun h => kt ?_) (fun h => kf ?_)
  · by_cases q1 : a = 0 <;> first | (simp_all; done) | (simp_all; omega) | (have e6 := e5.mp; have e7 := e3.mp; have e8 := e2.mp; have e9 := e4.mp; omega)
  · by_cases q1 : a = 0 <;> first | (simp_all; done) | (simp_all; omega) | (have e6 := e5.mp; have e7 := e3.mp; have e8 := e2.mp; have e9 := e4.mp; omega)
theorem z_icmpN_ne {a b : Nat} {off : Int} {tgt : Nat} (hdg : decode Y.2.1 pc = .ok (.if_icmp .ne off, 3)) (ht : (pc : Int) + off = (tgt : Int)) (ha : a < 2 ^ 31) (hb : b < 2 ^ 31) (kt : a ≠ b → Zs G d Y F tgt lv st μ) (kf : a = b → Zs G d Y F (pc + 3) lv st μ) : Zs G d Y F pc lv (.int (nI b) :: .int (nI a) :: st) μ := by
  have e1 := nI_eq ha hb
  have e2 := nI_ltI ha hb
  have e3 := nI_leI ha hb
  have e4 := nI_ltI hb ha
  have e5 := nI_leI hb ha
  refine z_icmp_ne hdg ht (fun h => kt ?_) (fun h => kf ?_)
  · by_cases q1 : a < b <;> by_cases q2 : a = b <;> simp_all <;> omega
  · by_cases q1 : a < b <;> by_cases q2 : a = b <;> simp_all <;> omega
theorem z_ifN_ne {a : Nat} {off : Int} {tgt : Nat} (hdg : decode Y.2.1 pc = .ok (.ifCond .ne off, 3)) (ht : (pc : Int) + off = (tgt : Int)) (ha : a < 2 ^ 31) (kt : a ≠ 0 → Zs G d Y F tgt lv st μ) (kf : a = 0 → Zs G d Y F (pc + 3) lv st μ) : Zs G d Y F pc lv (.int (nI a) :: st) μ := by
  have hb : 0 < 2 ^ 31 := by decide
  have e0 : (0 : Int32) = nI 0 := rfl
  have e1 := nI_eq ha hb
  have e2 := nI_ltI ha hb
  have e3 := nI_leI ha hb
  have e4 := nI_ltI hb ha
  have e5 := nI_leI hb ha
  rw [← e0] at e1 e2 e3 e4 e5
  refine z_if_ne hdg ht (fun h => kt ?_) (fun h => kf ?_)
  · by_cases q1 : a = 0 <;> first | (simp_all; done) | (simp_all; omega) | (have e6 := e5.mp; have e7 := e3.mp; have e8 := e2.mp; have e9 := e4.mp; omega)
  · by_cases q1 : a = 0 <;> first | (simp_all; done) | (simp_all; omega) | (have e6 := e5.mp; have e7 := e3.mp; have e8 := e2.mp; have e9 := e4.mp; omega)
theorem z_icmpN_lt {a b : Nat} {off : Int} {tgt : Nat} (hdg : decode Y.2.1 pc = .ok (.if_icmp .lt off, 3)) (ht : (pc : Int) + off = (tgt : Int)) (ha : a < 2 ^ 31) (hb : b < 2 ^ 31) (kt : a < b → Zs G d Y F tgt lv st μ) (kf : b ≤ a → Zs G d Y F (pc + 3) lv st μ) : Zs G d Y F pc lv (.int (nI b) :: .int (nI a) :: st) μ := by
  have e1 := nI_eq ha hb
  have e2 := nI_ltI ha hb
  have e3 := nI_leI ha hb
  have e4 := nI_ltI hb ha
  have e5 := nI_leI hb ha
  refine z_icmp_lt hdg ht (fun h => kt ?_) (fun h => kf ?_)
  · by_cases q1 : a < b <;> by_cases q2 : a = b <;> simp_all <;> omega
  · by_cases q1 : a < b <;> by_cases q2 : a = b <;> simp_all <;> omega
theorem z_icmpN_ge {a b : Nat} {off : Int} {tgt : Nat} (hdg : decode Y.2.1 pc = .ok (.if_icmp .ge off, 3)) (ht : (pc : Int) + off = (tgt : Int)) (ha : a < 2 ^ 31) (hb : b < 2 ^ 31) (kt : b ≤ a → Zs G d Y F tgt lv st μ) (kf : a < b → Zs G d Y F (pc + 3) lv st μ) : Zs G d Y F pc lv (.int (nI b) :: .int (nI a) :: st) μ := by
  have e1 := nI_eq ha hb
  have e2 := nI_ltI ha hb
  have e3 := nI_leI ha hb
  have e4 := nI_ltI hb ha
  have e5 := nI_leI hb ha
  refine z_icmp_ge hdg ht (fun h => kt ?_) (fun h => kf ?_)
  · by_cases q1 : a < b <;> by_cases q2 : a = b <;> simp_all <;> omega
  · by_cases q1 : a < b <;> by_cases q2 : a = b <;> simp_all <;> omega
theorem z_icmpN_gt {a b : Nat} {off : Int} {tgt : Nat} (hdg : decode Y.2.1 pc = .ok (.if_icmp .gt off, 3)) (ht : (pc : Int) + off = (tgt : Int)) (ha : a < 2 ^ 31) (hb : b < 2 ^ 31) (kt : b < a → Zs G d Y F tgt lv st μ) (kf : a ≤ b → Zs G d Y F (pc + 3) lv st μ) : Zs G d Y F pc lv (.int (nI b) :: .int (nI a) :: st) μ := by
  have e1 := nI_eq ha hb
  have e2 := nI_ltI ha hb
  have e3 := nI_leI ha hb
  have e4 := nI_ltI hb ha
  have e5 := nI_leI hb ha
  refine z_icmp_gt hdg ht (fun h => kt ?_) (fun h => kf ?_)
  · by_cases q1 : a < b <;> by_cases q2 : a = b <;> simp_all <;> omega
  · by_cases q1 : a < b <;> by_cases q2 : a = b <;> simp_all <;> omega
theorem z_ifN_gt {a : Nat} {off : Int} {tgt : Nat} (hdg : decode Y.2.1 pc = .ok (.ifCond .gt off, 3)) (ht : (pc : Int) + off = (tgt : Int)) (ha : a < 2 ^ 31) (kt : 0 < a → Zs G d Y F tgt lv st μ) (kf : a = 0 → Zs G d Y F (pc + 3) lv st μ) : Zs G d Y F pc lv (.int (nI a) :: st) μ := by
  have hb : 0 < 2 ^ 31 := by decide
  have e0 : (0 : Int32) = nI 0 := rfl
  have e1 := nI_eq ha hb
  have e2 := nI_ltI ha hb
  have e3 := nI_leI ha hb
  have e4 := nI_ltI hb ha
  have e5 := nI_leI hb ha
  rw [← e0] at e1 e2 e3 e4 e5
  refine z_if_gt hdg ht (fun h => kt ?_) (fun h => kf ?_)
  · by_cases q1 : a = 0 <;> first | (simp_all; done) | (simp_all; omega) | (have e6 := e5.mp; have e7 := e3.mp; have e8 := e2.mp; have e9 := e4.mp; omega)
  · by_cases q1 : a = 0 <;> first | (simp_all; done) | (simp_all; omega) | (have e6 := e5.mp; have e7 := e3.mp; have e8 := e2.mp; have e9 := e4.mp; omega)
theorem z_icmpN_le {a b : Nat} {off : Int} {tgt : Nat} (hdg : decode Y.2.1 pc = .ok (.if_icmp .le off, 3)) (ht : (pc : Int) + off = (tgt : Int)) (ha : a < 2 ^ 31) (hb : b < 2 ^ 31) (kt : a ≤ b → Zs G d Y F tgt lv st μ) (kf : b < a → Zs G d Y F (pc + 3) lv st μ) : Zs G d Y F pc lv (.int (nI b) :: .int (nI a) :: st) μ := by
  have e1 := nI_eq ha hb
  have e2 := nI_ltI ha hb
  have e3 := nI_leI ha hb
  have e4 := nI_ltI hb ha
  have e5 := nI_leI hb ha
  refine z_icmp_le hdg ht (fun h => kt ?_) (fun h => kf ?_)
  · by_cases q1 : a < b <;> by_cases q2 : a = b <;> simp_all <;> omega
  · by_cases q1 : a < b <;> by_cases q2 : a = b <;> simp_all <;> omega
theorem z_ifN_le {a : Nat} {off : Int} {tgt : Nat} (hdg : decode Y.2.1 pc = .ok (.ifCond .le off, 3)) (ht : (pc : Int) + off = (tgt : Int)) (ha : a < 2 ^ 31) (kt : a = 0 → Zs G d Y F tgt lv st μ) (kf : 0 < a → Zs G d Y F (pc + 3) lv st μ) : Zs G d Y F pc lv (.int (nI a) :: st) μ := by
  have e3 : nI a ≤ 0 ↔ a ≤ 0 := nI_leI ha (by decide)
  exact z_if_le hdg ht (fun h => kt (Nat.le_zero.mp (e3.mp h))) (fun h => kf (Nat.pos_of_ne_zero (fun q => h (e3.mpr (Nat.le_of_eq q)))))
theorem z_ifN_ge {a : Nat} {off : Int} {tgt : Nat} (hdg : decode Y.2.1 pc = .ok (.ifCond .ge off, 3)) (ht : (pc : Int) + off = (tgt : Int)) (ha : a < 2 ^ 31) (kt : Zs G d Y F tgt lv st μ) : Zs G d Y F pc lv (.int (nI a) :: st) μ :=
  z_if_ge hdg ht (fun _ => kt) (fun h => absurd h (by have := nI_pos ha; have := nI_pos' ha; simp_all))
theorem z_ifN_lt {a : Nat} {off : Int} {tgt : Nat} (hdg : decode Y.2.1 pc = .ok (.ifCond .lt off, 3)) (ht : (pc : Int) + off = (tgt : Int)) (ha : a < 2 ^ 31) (kf : Zs G d Y F (pc + 3) lv st μ) : Zs G d Y F pc lv (.int (nI a) :: st) μ :=
  z_if_lt hdg ht (fun h => absurd h (by have := nI_pos ha; simp_all)) (fun _ => kf)
theorem z_ifB_eq {b : Bool} {off : Int} {tgt : Nat} (hdg : decode Y.2.1 pc = .ok (.ifCond .eq off, 3)) (ht : (pc : Int) + off = (tgt : Int)) (kt : b = false → Zs G d Y F tgt lv st μ) (kf : b = true → Zs G d Y F (pc + 3) lv st μ) : Zs G d Y F pc lv (.int (bI b) :: st) μ := by
  refine z_if_eq hdg ht (fun h => kt ?_) (fun h => kf ?_) <;> cases b <;> first | rfl | exact absurd h (by decide) | exact absurd (by decide) h
theorem z_ifB_ne {b : Bool} {off : Int} {tgt : Nat} (hdg : decode Y.2.1 pc = .ok (.ifCond .ne off, 3)) (ht : (pc : Int) + off = (tgt : Int)) (kt : b = true → Zs G d Y F tgt lv st μ) (kf : b = false → Zs G d Y F (pc + 3) lv st μ) : Zs G d Y F pc lv (.int (bI b) :: st) μ := by
  refine z_if_ne hdg ht (fun h => kt ?_) (fun h => kf ?_) <;> cases b <;> first | rfl | exact absurd h (by decide) | exact absurd (by decide) h
theorem z_iaddN {a b : Nat} (hdg : decode Y.2.1 pc = .ok (.iadd, 1)) (k : Zs G d Y F (pc + 1) lv (.int (nI (a + b)) :: st) μ) : Zs G d Y F pc lv (.int (nI b) :: .int (nI a) :: st) μ := z_iadd hdg (by rw [nI_add]; exact k)
theorem z_isubN {a b : Nat} (hdg : decode Y.2.1 pc = .ok (.isub, 1)) (h : b ≤ a) (k : Zs G d Y F (pc + 1) lv (.int (nI (a - b)) :: st) μ) : Zs G d Y F pc lv (.int (nI b) :: .int (nI a) :: st) μ := z_isub hdg (by rw [pk_sub h]; exact k)
theorem z_imulN {a b : Nat} (hdg : decode Y.2.1 pc = .ok (.imul, 1)) (k : Zs G d Y F (pc + 1) lv (.int (nI (a * b)) :: st) μ) : Zs G d Y F pc lv (.int (nI b) :: .int (nI a) :: st) μ := z_imul hdg (by rw [pk_mul]; exact k)
theorem nI_ne0' {b : Nat} (h0 : 0 < b) (hb : b < 2 ^ 31) : ¬ nI b = 0 := nI_ne0 h0 hb
theorem z_idivN {a b : Nat} (hdg : decode Y.2.1 pc = .ok (.idiv, 1)) (ha : a < 2 ^ 31) (h0 : 0 < b) (hb : b < 2 ^ 31) (k : Zs G d Y F (pc + 1) lv (.int (nI (a / b)) :: st) μ) : Zs G d Y F pc lv (.int (nI b) :: .int (nI a) :: st) μ := z_idiv hdg (nI_ne0 h0 hb) (by rw [pk_div ha h0 hb]; exact k)
theorem z_iremN {a b : Nat} (hdg : decode Y.2.1 pc = .ok (.irem, 1)) (ha : a < 2 ^ 31) (h0 : 0 < b) (hb : b < 2 ^ 31) (k : Zs G d Y F (pc + 1) lv (.int (nI (a % b)) :: st) μ) : Zs G d Y F pc lv (.int (nI b) :: .int (nI a) :: st) μ := z_irem hdg (nI_ne0 h0 hb) (by rw [pk_rem ha h0 hb]; exact k)
theorem nI_and (a b : Nat) : nI a &&& nI b = nI (a &&& b) := by
  apply Int32.toBitVec_inj.mp
  apply BitVec.eq_of_toNat_eq
  simp [nI, Int32.toBitVec_and]
theorem nI_or (a b : Nat) : nI a ||| nI b = nI (a ||| b) := by
  apply Int32.toBitVec_inj.mp
  apply BitVec.eq_of_toNat_eq
  simp [nI, Int32.toBitVec_or]
theorem nI_xor (a b : Nat) : nI a ^^^ nI b = nI (a ^^^ b) := by
  apply Int32.toBitVec_inj.mp
  apply BitVec.eq_of_toNat_eq
  simp [nI, Int32.toBitVec_xor]
theorem z_iandN {a b : Nat} (hdg : decode Y.2.1 pc = .ok (.iand, 1)) (k : Zs G d Y F (pc + 1) lv (.int (nI (a &&& b)) :: st) μ) : Zs G d Y F pc lv (.int (nI b) :: .int (nI a) :: st) μ := z_iand hdg (by rw [nI_and]; exact k)
theorem z_iorN {a b : Nat} (hdg : decode Y.2.1 pc = .ok (.ior, 1)) (k : Zs G d Y F (pc + 1) lv (.int (nI (a ||| b)) :: st) μ) : Zs G d Y F pc lv (.int (nI b) :: .int (nI a) :: st) μ := z_ior hdg (by rw [nI_or]; exact k)
theorem z_ixorN {a b : Nat} (hdg : decode Y.2.1 pc = .ok (.ixor, 1)) (k : Zs G d Y F (pc + 1) lv (.int (nI (a ^^^ b)) :: st) μ) : Zs G d Y F pc lv (.int (nI b) :: .int (nI a) :: st) μ := z_ixor hdg (by rw [nI_xor]; exact k)
end ZR
