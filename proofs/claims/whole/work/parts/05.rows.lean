/-! ===== ROWS of zw: an instruction each ===== -/
section ZR
variable {G : zG} {md : zD} {d k0 n0 : Nat} {Q : zOut → zM → Prop} {pc : Nat} {lv : List (Option Value)} {st : List Value} {M : zM}
theorem zr_iconst {n : Int} {v : Int32} (hd : decode md.2.1 pc = .ok (.iconst n, 1)) (hv : Int32.ofInt n = v) (k : zw G md d k0 n0 Q (pc + 1) lv (.int v :: st) M) : zw G md d k0 n0 Q pc lv (st) M := by
  intro p e R s m args below meth c H locs ls B hr hm hw hS hl
  exact lv_iconst B.1 B.2.1 hd hv (k p e R s m args below meth c H locs ls B hr hm hw hS hl)
theorem zr_bipush {n : Int} {v : Int32} (hd : decode md.2.1 pc = .ok (.bipush n, 2)) (hv : (Int8.ofInt n).toInt32 = v) (k : zw G md d k0 n0 Q (pc + 2) lv (.int v :: st) M) : zw G md d k0 n0 Q pc lv (st) M := by
  intro p e R s m args below meth c H locs ls B hr hm hw hS hl
  exact lv_bipush B.1 B.2.1 hd hv (k p e R s m args below meth c H locs ls B hr hm hw hS hl)
theorem zr_sipush {n : Int} {v : Int32} (hd : decode md.2.1 pc = .ok (.sipush n, 3)) (hv : (Int16.ofInt n).toInt32 = v) (k : zw G md d k0 n0 Q (pc + 3) lv (.int v :: st) M) : zw G md d k0 n0 Q pc lv (st) M := by
  intro p e R s m args below meth c H locs ls B hr hm hw hS hl
  exact lv_sipush B.1 B.2.1 hd hv (k p e R s m args below meth c H locs ls B hr hm hw hS hl)
theorem zr_lconst {n : Fin 2} {v : Int64} (hd : decode md.2.1 pc = .ok (.lconst n, 1)) (hv : Int64.ofNat (n : Nat) = v) (k : zw G md d k0 n0 Q (pc + 1) lv (.long v :: st) M) : zw G md d k0 n0 Q pc lv (st) M := by
  intro p e R s m args below meth c H locs ls B hr hm hw hS hl
  exact lv_lconst B.1 B.2.1 hd hv (k p e R s m args below meth c H locs ls B hr hm hw hS hl)
theorem zr_null (hd : decode md.2.1 pc = .ok (.aconst_null, 1)) (k : zw G md d k0 n0 Q (pc + 1) lv (.null :: st) M) : zw G md d k0 n0 Q pc lv (st) M := by
  intro p e R s m args below meth c H locs ls B hr hm hw hS hl
  exact lv_null B.1 B.2.1 hd (k p e R s m args below meth c H locs ls B hr hm hw hS hl)
theorem zr_iadd {x y : Int32} (hd : decode md.2.1 pc = .ok (.iadd, 1)) (k : zw G md d k0 n0 Q (pc + 1) lv (.int (x + y) :: st) M) : zw G md d k0 n0 Q pc lv (.int y :: .int x :: st) M := by
  intro p e R s m args below meth c H locs ls B hr hm hw hS hl
  exact lv_iadd B.1 B.2.1 hd (k p e R s m args below meth c H locs ls B hr hm hw hS hl)
theorem zr_isub {x y : Int32} (hd : decode md.2.1 pc = .ok (.isub, 1)) (k : zw G md d k0 n0 Q (pc + 1) lv (.int (x - y) :: st) M) : zw G md d k0 n0 Q pc lv (.int y :: .int x :: st) M := by
  intro p e R s m args below meth c H locs ls B hr hm hw hS hl
  exact lv_isub B.1 B.2.1 hd (k p e R s m args below meth c H locs ls B hr hm hw hS hl)
theorem zr_imul {x y : Int32} (hd : decode md.2.1 pc = .ok (.imul, 1)) (k : zw G md d k0 n0 Q (pc + 1) lv (.int (x * y) :: st) M) : zw G md d k0 n0 Q pc lv (.int y :: .int x :: st) M := by
  intro p e R s m args below meth c H locs ls B hr hm hw hS hl
  exact lv_imul B.1 B.2.1 hd (k p e R s m args below meth c H locs ls B hr hm hw hS hl)
theorem zr_iand {x y : Int32} (hd : decode md.2.1 pc = .ok (.iand, 1)) (k : zw G md d k0 n0 Q (pc + 1) lv (.int (x &&& y) :: st) M) : zw G md d k0 n0 Q pc lv (.int y :: .int x :: st) M := by
  intro p e R s m args below meth c H locs ls B hr hm hw hS hl
  exact lv_iand B.1 B.2.1 hd (k p e R s m args below meth c H locs ls B hr hm hw hS hl)
theorem zr_ior {x y : Int32} (hd : decode md.2.1 pc = .ok (.ior, 1)) (k : zw G md d k0 n0 Q (pc + 1) lv (.int (x ||| y) :: st) M) : zw G md d k0 n0 Q pc lv (.int y :: .int x :: st) M := by
  intro p e R s m args below meth c H locs ls B hr hm hw hS hl
  exact lv_ior B.1 B.2.1 hd (k p e R s m args below meth c H locs ls B hr hm hw hS hl)
theorem zr_ixor {x y : Int32} (hd : decode md.2.1 pc = .ok (.ixor, 1)) (k : zw G md d k0 n0 Q (pc + 1) lv (.int (x ^^^ y) :: st) M) : zw G md d k0 n0 Q pc lv (.int y :: .int x :: st) M := by
  intro p e R s m args below meth c H locs ls B hr hm hw hS hl
  exact lv_ixor B.1 B.2.1 hd (k p e R s m args below meth c H locs ls B hr hm hw hS hl)
theorem zr_ishl {x y : Int32} (hd : decode md.2.1 pc = .ok (.ishl, 1)) (k : zw G md d k0 n0 Q (pc + 1) lv (.int (x <<< (y &&& 31)) :: st) M) : zw G md d k0 n0 Q pc lv (.int y :: .int x :: st) M := by
  intro p e R s m args below meth c H locs ls B hr hm hw hS hl
  exact lv_ishl B.1 B.2.1 hd (k p e R s m args below meth c H locs ls B hr hm hw hS hl)
theorem zr_ishr {x y : Int32} (hd : decode md.2.1 pc = .ok (.ishr, 1)) (k : zw G md d k0 n0 Q (pc + 1) lv (.int (x >>> (y &&& 31)) :: st) M) : zw G md d k0 n0 Q pc lv (.int y :: .int x :: st) M := by
  intro p e R s m args below meth c H locs ls B hr hm hw hS hl
  exact lv_ishr B.1 B.2.1 hd (k p e R s m args below meth c H locs ls B hr hm hw hS hl)
theorem zr_iushr {x y : Int32} (hd : decode md.2.1 pc = .ok (.iushr, 1)) (k : zw G md d k0 n0 Q (pc + 1) lv (.int ((x.toUInt32 >>> (y.toUInt32 &&& Int32.toUInt32 31)).toInt32) :: st) M) : zw G md d k0 n0 Q pc lv (.int y :: .int x :: st) M := by
  intro p e R s m args below meth c H locs ls B hr hm hw hS hl
  exact lv_iushr B.1 B.2.1 hd rfl (k p e R s m args below meth c H locs ls B hr hm hw hS hl)
theorem zr_idiv {x y : Int32} (hd : decode md.2.1 pc = .ok (.idiv, 1)) (hne : ¬ y = 0) (k : zw G md d k0 n0 Q (pc + 1) lv (.int (x / y) :: st) M) : zw G md d k0 n0 Q pc lv (.int y :: .int x :: st) M := by
  intro p e R s m args below meth c H locs ls B hr hm hw hS hl
  exact lv_idiv B.1 B.2.1 hd hne (k p e R s m args below meth c H locs ls B hr hm hw hS hl)
theorem zr_irem {x y : Int32} (hd : decode md.2.1 pc = .ok (.irem, 1)) (hne : ¬ y = 0) (k : zw G md d k0 n0 Q (pc + 1) lv (.int (x - x / y * y) :: st) M) : zw G md d k0 n0 Q pc lv (.int y :: .int x :: st) M := by
  intro p e R s m args below meth c H locs ls B hr hm hw hS hl
  exact lv_irem B.1 B.2.1 hd hne (k p e R s m args below meth c H locs ls B hr hm hw hS hl)
theorem zr_ladd {x y : Int64} (hd : decode md.2.1 pc = .ok (.ladd, 1)) (k : zw G md d k0 n0 Q (pc + 1) lv (.long (x + y) :: st) M) : zw G md d k0 n0 Q pc lv (.long y :: .long x :: st) M := by
  intro p e R s m args below meth c H locs ls B hr hm hw hS hl
  exact lv_ladd B.1 B.2.1 hd (k p e R s m args below meth c H locs ls B hr hm hw hS hl)
theorem zr_lmul {x y : Int64} (hd : decode md.2.1 pc = .ok (.lmul, 1)) (k : zw G md d k0 n0 Q (pc + 1) lv (.long (x * y) :: st) M) : zw G md d k0 n0 Q pc lv (.long y :: .long x :: st) M := by
  intro p e R s m args below meth c H locs ls B hr hm hw hS hl
  exact lv_lmul B.1 B.2.1 hd (k p e R s m args below meth c H locs ls B hr hm hw hS hl)
theorem zr_land {x y : Int64} (hd : decode md.2.1 pc = .ok (.land, 1)) (k : zw G md d k0 n0 Q (pc + 1) lv (.long (x &&& y) :: st) M) : zw G md d k0 n0 Q pc lv (.long y :: .long x :: st) M := by
  intro p e R s m args below meth c H locs ls B hr hm hw hS hl
  exact lv_land B.1 B.2.1 hd (k p e R s m args below meth c H locs ls B hr hm hw hS hl)
theorem zr_lor {x y : Int64} (hd : decode md.2.1 pc = .ok (.lor, 1)) (k : zw G md d k0 n0 Q (pc + 1) lv (.long (x ||| y) :: st) M) : zw G md d k0 n0 Q pc lv (.long y :: .long x :: st) M := by
  intro p e R s m args below meth c H locs ls B hr hm hw hS hl
  exact lv_lor B.1 B.2.1 hd (k p e R s m args below meth c H locs ls B hr hm hw hS hl)
theorem zr_lshl {x : Int64} {y : Int32} (hd : decode md.2.1 pc = .ok (.lshl, 1)) (k : zw G md d k0 n0 Q (pc + 1) lv (.long (x <<< (y.toInt64 &&& 63)) :: st) M) : zw G md d k0 n0 Q pc lv (.int y :: .long x :: st) M := by
  intro p e R s m args below meth c H locs ls B hr hm hw hS hl
  exact lv_lshl B.1 B.2.1 hd rfl (k p e R s m args below meth c H locs ls B hr hm hw hS hl)
theorem zr_lshr {x : Int64} {y : Int32} (hd : decode md.2.1 pc = .ok (.lshr, 1)) (k : zw G md d k0 n0 Q (pc + 1) lv (.long (x >>> (y.toInt64 &&& 63)) :: st) M) : zw G md d k0 n0 Q pc lv (.int y :: .long x :: st) M := by
  intro p e R s m args below meth c H locs ls B hr hm hw hS hl
  exact lv_lshr B.1 B.2.1 hd rfl (k p e R s m args below meth c H locs ls B hr hm hw hS hl)
theorem zr_i2l {x : Int32} (hd : decode md.2.1 pc = .ok (.i2l, 1)) (k : zw G md d k0 n0 Q (pc + 1) lv (.long x.toInt64 :: st) M) : zw G md d k0 n0 Q pc lv (.int x :: st) M := by
  intro p e R s m args below meth c H locs ls B hr hm hw hS hl
  exact lv_i2l B.1 B.2.1 hd rfl (k p e R s m args below meth c H locs ls B hr hm hw hS hl)
theorem zr_l2i {x : Int64} (hd : decode md.2.1 pc = .ok (.l2i, 1)) (k : zw G md d k0 n0 Q (pc + 1) lv (.int x.toInt32 :: st) M) : zw G md d k0 n0 Q pc lv (.long x :: st) M := by
  intro p e R s m args below meth c H locs ls B hr hm hw hS hl
  exact lv_l2i B.1 B.2.1 hd rfl (k p e R s m args below meth c H locs ls B hr hm hw hS hl)
theorem zr_i2b {x : Int32} (hd : decode md.2.1 pc = .ok (.i2b, 1)) (k : zw G md d k0 n0 Q (pc + 1) lv (.int x.toInt8.toInt32 :: st) M) : zw G md d k0 n0 Q pc lv (.int x :: st) M := by
  intro p e R s m args below meth c H locs ls B hr hm hw hS hl
  exact lv_i2b B.1 B.2.1 hd rfl (k p e R s m args below meth c H locs ls B hr hm hw hS hl)
theorem zr_lcmp {x y : Int64} (hd : decode md.2.1 pc = .ok (.lcmp, 1)) (k : zw G md d k0 n0 Q (pc + 1) lv (.int (lg_cmp x y) :: st) M) : zw G md d k0 n0 Q pc lv (.long y :: .long x :: st) M := by
  intro p e R s m args below meth c H locs ls B hr hm hw hS hl
  exact W.lcmp B.1 B.2.1 hd (k p e R s m args below meth c H locs ls B hr hm hw hS hl)
theorem zr_dup {a : Value} (hd : decode md.2.1 pc = .ok (.dup, 1)) (ha : a.category = 1) (k : zw G md d k0 n0 Q (pc + 1) lv (a :: a :: st) M) : zw G md d k0 n0 Q pc lv (a :: st) M := by
  intro p e R s m args below meth c H locs ls B hr hm hw hS hl
  exact lv_dup B.1 B.2.1 hd ha (k p e R s m args below meth c H locs ls B hr hm hw hS hl)
theorem zr_pop {a : Value} (hd : decode md.2.1 pc = .ok (.pop, 1)) (ha : a.category = 1) (k : zw G md d k0 n0 Q (pc + 1) lv (st) M) : zw G md d k0 n0 Q pc lv (a :: st) M := by
  intro p e R s m args below meth c H locs ls B hr hm hw hS hl
  exact lv_pop B.1 B.2.1 hd ha (k p e R s m args below meth c H locs ls B hr hm hw hS hl)
theorem zr_dup_x1 {a b : Value} (hd : decode md.2.1 pc = .ok (.dup_x1, 1)) (ha : a.category = 1) (hb : b.category = 1) (k : zw G md d k0 n0 Q (pc + 1) lv (a :: b :: a :: st) M) : zw G md d k0 n0 Q pc lv (a :: b :: st) M := by
  intro p e R s m args below meth c H locs ls B hr hm hw hS hl
  exact lv_dup_x1 B.1 B.2.1 hd ha hb (k p e R s m args below meth c H locs ls B hr hm hw hS hl)
theorem zr_dup2 {a b : Value} (hd : decode md.2.1 pc = .ok (.dup2, 1)) (ha : a.category = 1) (hb : b.category = 1) (k : zw G md d k0 n0 Q (pc + 1) lv (a :: b :: a :: b :: st) M) : zw G md d k0 n0 Q pc lv (a :: b :: st) M := by
  intro p e R s m args below meth c H locs ls B hr hm hw hS hl
  exact lv_dup2_11 B.1 B.2.1 hd ha hb (k p e R s m args below meth c H locs ls B hr hm hw hS hl)
theorem zr_iload_n {i : Fin 4} {x : Int32} (hd : decode md.2.1 pc = .ok (.iload_n i, 1)) (hx : lv[(i : Nat)]? = some (some (.int x))) (k : zw G md d k0 n0 Q (pc + 1) lv (.int x :: st) M) : zw G md d k0 n0 Q pc lv (st) M := by
  intro p e R s m args below meth c H locs ls B hr hm hw hS hl
  exact lv_iload_n B.1 B.2.1 hd rfl (hl.2.2 _ _ hx) (k p e R s m args below meth c H locs ls B hr hm hw hS hl)
theorem zr_iload {i : Nat} {x : Int32} (hd : decode md.2.1 pc = .ok (.iload i, 2)) (hx : lv[i]? = some (some (.int x))) (k : zw G md d k0 n0 Q (pc + 2) lv (.int x :: st) M) : zw G md d k0 n0 Q pc lv (st) M := by
  intro p e R s m args below meth c H locs ls B hr hm hw hS hl
  exact lv_iload B.1 B.2.1 hd (hl.2.2 _ _ hx) (k p e R s m args below meth c H locs ls B hr hm hw hS hl)
theorem zr_lload_n {i : Fin 4} {x : Int64} (hd : decode md.2.1 pc = .ok (.lload_n i, 1)) (hx : lv[(i : Nat)]? = some (some (.long x))) (k : zw G md d k0 n0 Q (pc + 1) lv (.long x :: st) M) : zw G md d k0 n0 Q pc lv (st) M := by
  intro p e R s m args below meth c H locs ls B hr hm hw hS hl
  exact lv_lload_n B.1 B.2.1 hd rfl (hl.2.2 _ _ hx) (k p e R s m args below meth c H locs ls B hr hm hw hS hl)
theorem zr_lload {i : Nat} {x : Int64} (hd : decode md.2.1 pc = .ok (.lload i, 2)) (hx : lv[i]? = some (some (.long x))) (k : zw G md d k0 n0 Q (pc + 2) lv (.long x :: st) M) : zw G md d k0 n0 Q pc lv (st) M := by
  intro p e R s m args below meth c H locs ls B hr hm hw hS hl
  exact lv_lload B.1 B.2.1 hd (hl.2.2 _ _ hx) (k p e R s m args below meth c H locs ls B hr hm hw hS hl)
theorem zr_aload_n {i : Fin 4} {x : Nat} (hd : decode md.2.1 pc = .ok (.aload_n i, 1)) (hx : lv[(i : Nat)]? = some (some (.ref x))) (k : zw G md d k0 n0 Q (pc + 1) lv (.ref x :: st) M) : zw G md d k0 n0 Q pc lv (st) M := by
  intro p e R s m args below meth c H locs ls B hr hm hw hS hl
  exact lv_aload_n B.1 B.2.1 hd rfl (hl.2.2 _ _ hx) (k p e R s m args below meth c H locs ls B hr hm hw hS hl)
theorem zr_aload {i : Nat} {x : Nat} (hd : decode md.2.1 pc = .ok (.aload i, 2)) (hx : lv[i]? = some (some (.ref x))) (k : zw G md d k0 n0 Q (pc + 2) lv (.ref x :: st) M) : zw G md d k0 n0 Q pc lv (st) M := by
  intro p e R s m args below meth c H locs ls B hr hm hw hS hl
  exact lv_aload B.1 B.2.1 hd (hl.2.2 _ _ hx) (k p e R s m args below meth c H locs ls B hr hm hw hS hl)
theorem zr_aload_nN {i : Fin 4} (hd : decode md.2.1 pc = .ok (.aload_n i, 1)) (hx : lv[(i : Nat)]? = some (some .null)) (k : zw G md d k0 n0 Q (pc + 1) lv (.null :: st) M) : zw G md d k0 n0 Q pc lv (st) M := by
  intro p e R s m args below meth c H locs ls B hr hm hw hS hl
  exact lv_aload_nN B.1 B.2.1 hd rfl (hl.2.2 _ _ hx) (k p e R s m args below meth c H locs ls B hr hm hw hS hl)
theorem zr_aloadN {i : Nat} (hd : decode md.2.1 pc = .ok (.aload i, 2)) (hx : lv[i]? = some (some .null)) (k : zw G md d k0 n0 Q (pc + 2) lv (.null :: st) M) : zw G md d k0 n0 Q pc lv (st) M := by
  intro p e R s m args below meth c H locs ls B hr hm hw hS hl
  exact lv_aloadN B.1 B.2.1 hd (hl.2.2 _ _ hx) (k p e R s m args below meth c H locs ls B hr hm hw hS hl)
/-- no long ends where this local begins -/
def zc1 (lv : List (Option Value)) (i : Nat) : Bool := match i with
  | 0 => true
  | j + 1 => match lv[j]? with
    | some (some w) => w.category != 2
    | _ => true
def zas (n : Nat) (lv : List (Option Value)) : List (Nat × Value) := (List.range n).filterMap (fun j => match lv[j]? with | some (some w) => some (j, w) | _ => none)
theorem zas_mem {n : Nat} {lv : List (Option Value)} {j : Nat} {w : Value} : (j, w) ∈ zas n lv ↔ j < n ∧ lv[j]? = some (some w) := by
  unfold zas
  rw [List.mem_filterMap]
  constructor
  · rintro ⟨k, hk, h⟩
    split at h
    · rename_i w' e
      simp only [Option.some.injEq, Prod.mk.injEq] at h
      obtain ⟨rfl, rfl⟩ := h
      exact ⟨List.mem_range.mp hk, e⟩
    · cases h
  · rintro ⟨h1, h2⟩
    exact ⟨j, List.mem_range.mpr h1, by simp [h2]⟩
theorem zlv.has {ls : Array Slot} {n : Nat} {lv : List (Option Value)} (h : zlv ls n lv) : lv_has ls n (zas n lv) := ⟨h.1, h.2.1, fun q hq => h.2.2 q.1 q.2 (zas_mem.mp hq).2⟩
theorem zlv.st1 {ls : Array Slot} {n i : Nat} {v : Value} {lv lv' : List (Option Value)} (hlen : lv.length ≤ n) (hc : zc1 lv i = true) (he : lv.set i (some v) = lv') (h : lv_has ls n ((i, v) :: (zas n lv).filter (fun q => !(q.1 == i) && !(q.1 + 1 == i && q.2.category == 2)))) : zlv ls n lv' := by
  refine ⟨h.1, h.2.1, fun j w hj => ?_⟩
  subst he
  by_cases e : i = j
  · subst e
    by_cases hi : i < lv.length
    · rw [List.getElem?_set_self hi] at hj
      cases hj
      exact h.2.2 (i, v) List.mem_cons_self
    · rw [List.getElem?_eq_none (by rw [List.length_set]; omega)] at hj
      cases hj
  · rw [List.getElem?_set_ne e] at hj
    have hjl : j < lv.length := (List.getElem?_eq_some_iff.mp hj).1
    refine h.2.2 (j, w) (List.mem_cons_of_mem _ (List.mem_filter.mpr ⟨zas_mem.mpr ⟨by omega, hj⟩, ?_⟩))
    simp only [Bool.and_eq_true, Bool.not_eq_true', beq_eq_false_iff_ne, Bool.and_eq_false_iff, ne_eq]
    refine ⟨fun z => e z.symm, ?_⟩
    by_cases e2 : j + 1 = i
    · subst e2
      right
      simp only [zc1, hj, bne_iff_ne, ne_eq] at hc
      exact hc
    · exact Or.inl e2
theorem zlv.st2 {ls : Array Slot} {n i : Nat} {v : Value} {lv lv' : List (Option Value)} (hlen : lv.length ≤ n) (hc : zc1 lv i = true) (he : (lv.set i (some v)).set (i + 1) none = lv') (h : lv_has ls n ((i, v) :: (zas n lv).filter (fun q => !(q.1 == i) && (!(q.1 == i + 1) && !(q.1 + 1 == i && q.2.category == 2))))) : zlv ls n lv' := by
  refine ⟨h.1, h.2.1, fun j w hj => ?_⟩
  subst he
  by_cases e1 : i + 1 = j
  · subst e1
    by_cases hi : i + 1 < lv.length
    · rw [List.getElem?_set_self (by rw [List.length_set]; exact hi)] at hj
      cases hj
    · rw [List.getElem?_eq_none (by rw [List.length_set, List.length_set]; omega)] at hj
      cases hj
  · rw [List.getElem?_set_ne e1] at hj
    by_cases e : i = j
    · subst e
      by_cases hi : i < lv.length
      · rw [List.getElem?_set_self hi] at hj
        cases hj
        exact h.2.2 (i, v) List.mem_cons_self
      · rw [List.getElem?_eq_none (by rw [List.length_set]; omega)] at hj
        cases hj
    · rw [List.getElem?_set_ne e] at hj
      have hjl : j < lv.length := (List.getElem?_eq_some_iff.mp hj).1
      refine h.2.2 (j, w) (List.mem_cons_of_mem _ (List.mem_filter.mpr ⟨zas_mem.mpr ⟨by omega, hj⟩, ?_⟩))
      simp only [Bool.and_eq_true, Bool.not_eq_true', beq_eq_false_iff_ne, Bool.and_eq_false_iff, ne_eq]
      refine ⟨fun z => e z.symm, fun z => e1 z.symm, ?_⟩
      by_cases e2 : j + 1 = i
      · subst e2
        right
        simp only [zc1, hj, bne_iff_ne, ne_eq] at hc
        exact hc
      · exact Or.inl e2
/-- less is known of the locals -/
theorem zr_forget {lv' : List (Option Value)} (hs : ∀ (i : Nat) (v : Value), lv'[i]? = some (some v) → lv[i]? = some (some v)) (k : zw G md d k0 n0 Q pc lv' st M) : zw G md d k0 n0 Q pc lv st M := by
  intro p e R s m args below meth c H locs ls B hr hm hw hS hl
  exact k p e R s m args below meth c H locs ls B hr hm hw hS ⟨hl.1, hl.2.1, fun i v h => hl.2.2 i v (hs i v h)⟩
/-- a local that is known no more -/
theorem zr_drop (i : Nat) {lv' : List (Option Value)} (he : lv.set i none = lv') (k : zw G md d k0 n0 Q pc lv' st M) : zw G md d k0 n0 Q pc lv st M := by
  refine zr_forget (fun j v h => ?_) k
  subst he
  by_cases e : i = j
  · subst e
    by_cases hi : i < lv.length
    · rw [List.getElem?_set_self hi] at h
      cases h
    · rw [List.getElem?_eq_none (by rw [List.length_set]; omega)] at h
      cases h
  · rw [List.getElem?_set_ne e] at h
    exact h
theorem zr_istore_n {i : Fin 4} {x : Int32} {lv' : List (Option Value)} (hd : decode md.2.1 pc = .ok (.istore_n i, 1)) (hlen : lv.length ≤ md.2.2.1) (hn : (i : Nat) < md.2.2.1) (hc : zc1 lv (i : Nat) = true) (he : lv.set (i : Nat) (some (.int x)) = lv') (k : zw G md d k0 n0 Q (pc + 1) lv' st M) : zw G md d k0 n0 Q pc lv (.int x :: st) M := by
  intro p e R s m args below meth c H locs ls B hr hm hw hS hl
  exact lv_istore_n B.1 B.2.1 hd rfl hl.has hn rfl (fun ls' h' => k p e R s m args below meth c H locs ls' B hr hm hw hS (zlv.st1 hlen hc he h'))
theorem zr_istore {i : Nat} {x : Int32} {lv' : List (Option Value)} (hd : decode md.2.1 pc = .ok (.istore i, 2)) (hlen : lv.length ≤ md.2.2.1) (hn : i < md.2.2.1) (hc : zc1 lv i = true) (he : lv.set i (some (.int x)) = lv') (k : zw G md d k0 n0 Q (pc + 2) lv' st M) : zw G md d k0 n0 Q pc lv (.int x :: st) M := by
  intro p e R s m args below meth c H locs ls B hr hm hw hS hl
  exact lv_istore B.1 B.2.1 hd hl.has hn rfl (fun ls' h' => k p e R s m args below meth c H locs ls' B hr hm hw hS (zlv.st1 hlen hc he h'))
theorem zr_lstore_n {i : Fin 4} {x : Int64} {lv' : List (Option Value)} (hd : decode md.2.1 pc = .ok (.lstore_n i, 1)) (hlen : lv.length ≤ md.2.2.1) (hn : (i : Nat) + 1 < md.2.2.1) (hc : zc1 lv (i : Nat) = true) (he : (lv.set (i : Nat) (some (.long x))).set ((i : Nat) + 1) none = lv') (k : zw G md d k0 n0 Q (pc + 1) lv' st M) : zw G md d k0 n0 Q pc lv (.long x :: st) M := by
  intro p e R s m args below meth c H locs ls B hr hm hw hS hl
  exact lv_lstore_n B.1 B.2.1 hd rfl hl.has hn rfl (fun ls' h' => k p e R s m args below meth c H locs ls' B hr hm hw hS (zlv.st2 hlen hc he h'))
theorem zr_lstore {i : Nat} {x : Int64} {lv' : List (Option Value)} (hd : decode md.2.1 pc = .ok (.lstore i, 2)) (hlen : lv.length ≤ md.2.2.1) (hn : i + 1 < md.2.2.1) (hc : zc1 lv i = true) (he : (lv.set i (some (.long x))).set (i + 1) none = lv') (k : zw G md d k0 n0 Q (pc + 2) lv' st M) : zw G md d k0 n0 Q pc lv (.long x :: st) M := by
  intro p e R s m args below meth c H locs ls B hr hm hw hS hl
  exact lv_lstore B.1 B.2.1 hd hl.has hn rfl (fun ls' h' => k p e R s m args below meth c H locs ls' B hr hm hw hS (zlv.st2 hlen hc he h'))
theorem zr_astore_n {i : Fin 4} {x : Nat} {lv' : List (Option Value)} (hd : decode md.2.1 pc = .ok (.astore_n i, 1)) (hlen : lv.length ≤ md.2.2.1) (hn : (i : Nat) < md.2.2.1) (hc : zc1 lv (i : Nat) = true) (he : lv.set (i : Nat) (some (.ref x)) = lv') (k : zw G md d k0 n0 Q (pc + 1) lv' st M) : zw G md d k0 n0 Q pc lv (.ref x :: st) M := by
  intro p e R s m args below meth c H locs ls B hr hm hw hS hl
  exact lv_astore_n B.1 B.2.1 hd rfl hl.has hn rfl (fun ls' h' => k p e R s m args below meth c H locs ls' B hr hm hw hS (zlv.st1 hlen hc he h'))
theorem zr_astore {i : Nat} {x : Nat} {lv' : List (Option Value)} (hd : decode md.2.1 pc = .ok (.astore i, 2)) (hlen : lv.length ≤ md.2.2.1) (hn : i < md.2.2.1) (hc : zc1 lv i = true) (he : lv.set i (some (.ref x)) = lv') (k : zw G md d k0 n0 Q (pc + 2) lv' st M) : zw G md d k0 n0 Q pc lv (.ref x :: st) M := by
  intro p e R s m args below meth c H locs ls B hr hm hw hS hl
  exact lv_astore B.1 B.2.1 hd hl.has hn rfl (fun ls' h' => k p e R s m args below meth c H locs ls' B hr hm hw hS (zlv.st1 hlen hc he h'))
theorem zr_astore_nN {i : Fin 4} {lv' : List (Option Value)} (hd : decode md.2.1 pc = .ok (.astore_n i, 1)) (hlen : lv.length ≤ md.2.2.1) (hn : (i : Nat) < md.2.2.1) (hc : zc1 lv (i : Nat) = true) (he : lv.set (i : Nat) (some (.null)) = lv') (k : zw G md d k0 n0 Q (pc + 1) lv' st M) : zw G md d k0 n0 Q pc lv (.null :: st) M := by
  intro p e R s m args below meth c H locs ls B hr hm hw hS hl
  exact lv_astore_nN B.1 B.2.1 hd rfl hl.has hn rfl (fun ls' h' => k p e R s m args below meth c H locs ls' B hr hm hw hS (zlv.st1 hlen hc he h'))
theorem zr_astoreN {i : Nat} {lv' : List (Option Value)} (hd : decode md.2.1 pc = .ok (.astore i, 2)) (hlen : lv.length ≤ md.2.2.1) (hn : i < md.2.2.1) (hc : zc1 lv i = true) (he : lv.set i (some (.null)) = lv') (k : zw G md d k0 n0 Q (pc + 2) lv' st M) : zw G md d k0 n0 Q pc lv (.null :: st) M := by
  intro p e R s m args below meth c H locs ls B hr hm hw hS hl
  exact lv_astoreN B.1 B.2.1 hd hl.has hn rfl (fun ls' h' => k p e R s m args below meth c H locs ls' B hr hm hw hS (zlv.st1 hlen hc he h'))
theorem zr_iinc {i : Nat} {n : Int} {x w : Int32} {lv' : List (Option Value)} (hd : decode md.2.1 pc = .ok (.iinc i n, 3)) (hlen : lv.length ≤ md.2.2.1) (hn : i < md.2.2.1) (hc : zc1 lv i = true) (hx : lv[i]? = some (some (.int x))) (hv : x + Int32.ofInt n = w) (he : lv.set i (some (.int w)) = lv') (k : zw G md d k0 n0 Q (pc + 3) lv' st M) : zw G md d k0 n0 Q pc lv st M := by
  intro p e R s m args below meth c H locs ls B hr hm hw hS hl
  obtain ⟨j, hj⟩ := List.getElem?_of_mem (zas_mem.mpr ⟨hn, hx⟩)
  exact lv_iinc B.1 B.2.1 hd hl.has hj hv hn rfl (fun ls' h' => k p e R s m args below meth c H locs ls' B hr hm hw hS (zlv.st1 hlen hc he h'))
theorem zr_iincW {i : Nat} {n : Int} {x w : Int32} {lv' : List (Option Value)} (hd : decode md.2.1 pc = .ok (.iinc i n, 6)) (hlen : lv.length ≤ md.2.2.1) (hn : i < md.2.2.1) (hc : zc1 lv i = true) (hx : lv[i]? = some (some (.int x))) (hv : x + Int32.ofInt n = w) (he : lv.set i (some (.int w)) = lv') (k : zw G md d k0 n0 Q (pc + 6) lv' st M) : zw G md d k0 n0 Q pc lv st M := by
  intro p e R s m args below meth c H locs ls B hr hm hw hS hl
  obtain ⟨j, hj⟩ := List.getElem?_of_mem (zas_mem.mpr ⟨hn, hx⟩)
  exact lv_iincW B.1 B.2.1 hd hl.has hj hv hn rfl (fun ls' h' => k p e R s m args below meth c H locs ls' B hr hm hw hS (zlv.st1 hlen hc he h'))
theorem zr_if_eq {x : Int32} {off : Int} (tgt : Nat) (hd : decode md.2.1 pc = .ok (.ifCond .eq off, 3)) (ht : (pc : Int) + off = (tgt : Int)) (k1 : x = 0 → zw G md d k0 n0 Q tgt lv st M) (k2 : ¬ x = 0 → zw G md d k0 n0 Q (pc + 3) lv st M) : zw G md d k0 n0 Q pc lv (.int x :: st) M := by
  intro p e R s m args below meth c H locs ls B hr hm hw hS hl
  exact lv_if_eq B.1 B.2.1 hd ht (fun q => k1 q p e R s m args below meth c H locs ls B hr hm hw hS hl) (fun q => k2 q p e R s m args below meth c H locs ls B hr hm hw hS hl)
theorem zr_icmp_eq {x y : Int32} {off : Int} (tgt : Nat) (hd : decode md.2.1 pc = .ok (.if_icmp .eq off, 3)) (ht : (pc : Int) + off = (tgt : Int)) (k1 : x = y → zw G md d k0 n0 Q tgt lv st M) (k2 : ¬ x = y → zw G md d k0 n0 Q (pc + 3) lv st M) : zw G md d k0 n0 Q pc lv (.int y :: .int x :: st) M := by
  intro p e R s m args below meth c H locs ls B hr hm hw hS hl
  exact lv_icmp_eq B.1 B.2.1 hd ht (fun q => k1 q p e R s m args below meth c H locs ls B hr hm hw hS hl) (fun q => k2 q p e R s m args below meth c H locs ls B hr hm hw hS hl)
theorem zr_if_ne {x : Int32} {off : Int} (tgt : Nat) (hd : decode md.2.1 pc = .ok (.ifCond .ne off, 3)) (ht : (pc : Int) + off = (tgt : Int)) (k1 : ¬ x = 0 → zw G md d k0 n0 Q tgt lv st M) (k2 : x = 0 → zw G md d k0 n0 Q (pc + 3) lv st M) : zw G md d k0 n0 Q pc lv (.int x :: st) M := by
  intro p e R s m args below meth c H locs ls B hr hm hw hS hl
  exact lv_if_ne B.1 B.2.1 hd ht (fun q => k1 q p e R s m args below meth c H locs ls B hr hm hw hS hl) (fun q => k2 q p e R s m args below meth c H locs ls B hr hm hw hS hl)
theorem zr_icmp_ne {x y : Int32} {off : Int} (tgt : Nat) (hd : decode md.2.1 pc = .ok (.if_icmp .ne off, 3)) (ht : (pc : Int) + off = (tgt : Int)) (k1 : ¬ x = y → zw G md d k0 n0 Q tgt lv st M) (k2 : x = y → zw G md d k0 n0 Q (pc + 3) lv st M) : zw G md d k0 n0 Q pc lv (.int y :: .int x :: st) M := by
  intro p e R s m args below meth c H locs ls B hr hm hw hS hl
  exact lv_icmp_ne B.1 B.2.1 hd ht (fun q => k1 q p e R s m args below meth c H locs ls B hr hm hw hS hl) (fun q => k2 q p e R s m args below meth c H locs ls B hr hm hw hS hl)
theorem zr_if_lt {x : Int32} {off : Int} (tgt : Nat) (hd : decode md.2.1 pc = .ok (.ifCond .lt off, 3)) (ht : (pc : Int) + off = (tgt : Int)) (k1 : x < 0 → zw G md d k0 n0 Q tgt lv st M) (k2 : ¬ x < 0 → zw G md d k0 n0 Q (pc + 3) lv st M) : zw G md d k0 n0 Q pc lv (.int x :: st) M := by
  intro p e R s m args below meth c H locs ls B hr hm hw hS hl
  exact lv_if_lt B.1 B.2.1 hd ht (fun q => k1 q p e R s m args below meth c H locs ls B hr hm hw hS hl) (fun q => k2 q p e R s m args below meth c H locs ls B hr hm hw hS hl)
theorem zr_icmp_lt {x y : Int32} {off : Int} (tgt : Nat) (hd : decode md.2.1 pc = .ok (.if_icmp .lt off, 3)) (ht : (pc : Int) + off = (tgt : Int)) (k1 : x < y → zw G md d k0 n0 Q tgt lv st M) (k2 : ¬ x < y → zw G md d k0 n0 Q (pc + 3) lv st M) : zw G md d k0 n0 Q pc lv (.int y :: .int x :: st) M := by
  intro p e R s m args below meth c H locs ls B hr hm hw hS hl
  exact lv_icmp_lt B.1 B.2.1 hd ht (fun q => k1 q p e R s m args below meth c H locs ls B hr hm hw hS hl) (fun q => k2 q p e R s m args below meth c H locs ls B hr hm hw hS hl)
theorem zr_if_ge {x : Int32} {off : Int} (tgt : Nat) (hd : decode md.2.1 pc = .ok (.ifCond .ge off, 3)) (ht : (pc : Int) + off = (tgt : Int)) (k1 : 0 ≤ x → zw G md d k0 n0 Q tgt lv st M) (k2 : ¬ 0 ≤ x → zw G md d k0 n0 Q (pc + 3) lv st M) : zw G md d k0 n0 Q pc lv (.int x :: st) M := by
  intro p e R s m args below meth c H locs ls B hr hm hw hS hl
  exact lv_if_ge B.1 B.2.1 hd ht (fun q => k1 q p e R s m args below meth c H locs ls B hr hm hw hS hl) (fun q => k2 q p e R s m args below meth c H locs ls B hr hm hw hS hl)
theorem zr_icmp_ge {x y : Int32} {off : Int} (tgt : Nat) (hd : decode md.2.1 pc = .ok (.if_icmp .ge off, 3)) (ht : (pc : Int) + off = (tgt : Int)) (k1 : y ≤ x → zw G md d k0 n0 Q tgt lv st M) (k2 : ¬ y ≤ x → zw G md d k0 n0 Q (pc + 3) lv st M) : zw G md d k0 n0 Q pc lv (.int y :: .int x :: st) M := by
  intro p e R s m args below meth c H locs ls B hr hm hw hS hl
  exact lv_icmp_ge B.1 B.2.1 hd ht (fun q => k1 q p e R s m args below meth c H locs ls B hr hm hw hS hl) (fun q => k2 q p e R s m args below meth c H locs ls B hr hm hw hS hl)
theorem zr_if_gt {x : Int32} {off : Int} (tgt : Nat) (hd : decode md.2.1 pc = .ok (.ifCond .gt off, 3)) (ht : (pc : Int) + off = (tgt : Int)) (k1 : 0 < x → zw G md d k0 n0 Q tgt lv st M) (k2 : ¬ 0 < x → zw G md d k0 n0 Q (pc + 3) lv st M) : zw G md d k0 n0 Q pc lv (.int x :: st) M := by
  intro p e R s m args below meth c H locs ls B hr hm hw hS hl
  exact lv_if_gt B.1 B.2.1 hd ht (fun q => k1 q p e R s m args below meth c H locs ls B hr hm hw hS hl) (fun q => k2 q p e R s m args below meth c H locs ls B hr hm hw hS hl)
theorem zr_icmp_gt {x y : Int32} {off : Int} (tgt : Nat) (hd : decode md.2.1 pc = .ok (.if_icmp .gt off, 3)) (ht : (pc : Int) + off = (tgt : Int)) (k1 : y < x → zw G md d k0 n0 Q tgt lv st M) (k2 : ¬ y < x → zw G md d k0 n0 Q (pc + 3) lv st M) : zw G md d k0 n0 Q pc lv (.int y :: .int x :: st) M := by
  intro p e R s m args below meth c H locs ls B hr hm hw hS hl
  exact lv_icmp_gt B.1 B.2.1 hd ht (fun q => k1 q p e R s m args below meth c H locs ls B hr hm hw hS hl) (fun q => k2 q p e R s m args below meth c H locs ls B hr hm hw hS hl)
theorem zr_if_le {x : Int32} {off : Int} (tgt : Nat) (hd : decode md.2.1 pc = .ok (.ifCond .le off, 3)) (ht : (pc : Int) + off = (tgt : Int)) (k1 : x ≤ 0 → zw G md d k0 n0 Q tgt lv st M) (k2 : ¬ x ≤ 0 → zw G md d k0 n0 Q (pc + 3) lv st M) : zw G md d k0 n0 Q pc lv (.int x :: st) M := by
  intro p e R s m args below meth c H locs ls B hr hm hw hS hl
  exact lv_if_le B.1 B.2.1 hd ht (fun q => k1 q p e R s m args below meth c H locs ls B hr hm hw hS hl) (fun q => k2 q p e R s m args below meth c H locs ls B hr hm hw hS hl)
theorem zr_icmp_le {x y : Int32} {off : Int} (tgt : Nat) (hd : decode md.2.1 pc = .ok (.if_icmp .le off, 3)) (ht : (pc : Int) + off = (tgt : Int)) (k1 : x ≤ y → zw G md d k0 n0 Q tgt lv st M) (k2 : ¬ x ≤ y → zw G md d k0 n0 Q (pc + 3) lv st M) : zw G md d k0 n0 Q pc lv (.int y :: .int x :: st) M := by
  intro p e R s m args below meth c H locs ls B hr hm hw hS hl
  exact lv_icmp_le B.1 B.2.1 hd ht (fun q => k1 q p e R s m args below meth c H locs ls B hr hm hw hS hl) (fun q => k2 q p e R s m args below meth c H locs ls B hr hm hw hS hl)
theorem zr_goto {off : Int} (tgt : Nat) (hd : decode md.2.1 pc = .ok (.goto off, 3)) (ht : (pc : Int) + off = (tgt : Int)) (k : zw G md d k0 n0 Q tgt lv st M) : zw G md d k0 n0 Q pc lv st M := by
  intro p e R s m args below meth c H locs ls B hr hm hw hS hl
  exact lv_goto B.1 B.2.1 hd ht (k p e R s m args below meth c H locs ls B hr hm hw hS hl)
theorem zr_ifnull {x : Nat} {off : Int} (hd : decode md.2.1 pc = .ok (.ifnull off, 3)) (k : zw G md d k0 n0 Q (pc + 3) lv st M) : zw G md d k0 n0 Q pc lv (.ref x :: st) M := by
  intro p e R s m args below meth c H locs ls B hr hm hw hS hl
  exact lv_ifnull B.1 B.2.1 hd (k p e R s m args below meth c H locs ls B hr hm hw hS hl)
theorem zr_ifnullN {off : Int} (tgt : Nat) (hd : decode md.2.1 pc = .ok (.ifnull off, 3)) (ht : (pc : Int) + off = (tgt : Int)) (k : zw G md d k0 n0 Q tgt lv st M) : zw G md d k0 n0 Q pc lv (.null :: st) M := by
  intro p e R s m args below meth c H locs ls B hr hm hw hS hl
  exact lv_ifnullN B.1 B.2.1 hd ht (k p e R s m args below meth c H locs ls B hr hm hw hS hl)
theorem zr_ifnonnull {x : Nat} {off : Int} (tgt : Nat) (hd : decode md.2.1 pc = .ok (.ifnonnull off, 3)) (ht : (pc : Int) + off = (tgt : Int)) (k : zw G md d k0 n0 Q tgt lv st M) : zw G md d k0 n0 Q pc lv (.ref x :: st) M := by
  intro p e R s m args below meth c H locs ls B hr hm hw hS hl
  exact lv_ifnonnull B.1 B.2.1 hd ht (k p e R s m args below meth c H locs ls B hr hm hw hS hl)
theorem zr_ifnonnullN {off : Int} (hd : decode md.2.1 pc = .ok (.ifnonnull off, 3)) (k : zw G md d k0 n0 Q (pc + 3) lv st M) : zw G md d k0 n0 Q pc lv (.null :: st) M := by
  intro p e R s m args below meth c H locs ls B hr hm hw hS hl
  exact lv_ifnonnullN B.1 B.2.1 hd (k p e R s m args below meth c H locs ls B hr hm hw hS hl)
theorem zr_switchOut {dflt lo hi : Int} {offs : Array Int} {len : Nat} {x : Int32} (tgt : Nat) (hd : decode md.2.1 pc = .ok (.tableswitch dflt lo hi offs, len)) (h : x.toInt < lo ∨ hi < x.toInt) (ht : (pc : Int) + dflt = (tgt : Int)) (k : zw G md d k0 n0 Q tgt lv st M) : zw G md d k0 n0 Q pc lv (.int x :: st) M := by
  intro p e R s m args below meth c H locs ls B hr hm hw hS hl
  exact lv_tableOut B.1 B.2.1 hd h ht (k p e R s m args below meth c H locs ls B hr hm hw hS hl)
theorem zr_switchIn {dflt lo hi : Int} {offs : Array Int} {len : Nat} {x : Int32} {off : Int} (tgt : Nat) (hd : decode md.2.1 pc = .ok (.tableswitch dflt lo hi offs, len)) (h1 : ¬ x.toInt < lo) (h2 : ¬ hi < x.toInt) (ho : offs[(x.toInt - lo).toNat]? = some off) (ht : (pc : Int) + off = (tgt : Int)) (k : zw G md d k0 n0 Q tgt lv st M) : zw G md d k0 n0 Q pc lv (.int x :: st) M := by
  intro p e R s m args below meth c H locs ls B hr hm hw hS hl
  exact lv_tableIn B.1 B.2.1 hd h1 h2 ho ht (k p e R s m args below meth c H locs ls B hr hm hw hS hl)
theorem zr_ldc {idx : Nat} {v : Int32} (hd : decode md.2.1 pc = .ok (.ldc idx, 2)) (hw : Cond.constant md.1.cls idx v ∈ lw_tbl) (k : zw G md d k0 n0 Q (pc + 2) lv (.int v :: st) M) : zw G md d k0 n0 Q pc lv st M := by
  intro p e R s m args below meth c H locs ls B hr hm hw0 hS hl
  exact lv_ldc B.1 B.2.1 B.2.2.2.2.2.1 (zgw_use rfl (B.2.2.2.2.2.2.2.2.1 _ hw rfl) _) hd (k p e R s m args below meth c H locs ls B hr hm hw0 hS hl)
theorem zr_ldcw {idx : Nat} {v : Int32} (hd : decode md.2.1 pc = .ok (.ldc_w idx, 3)) (hw : Cond.constant md.1.cls idx v ∈ lw_tbl) (k : zw G md d k0 n0 Q (pc + 3) lv (.int v :: st) M) : zw G md d k0 n0 Q pc lv st M := by
  intro p e R s m args below meth c H locs ls B hr hm hw0 hS hl
  exact lv_ldcw B.1 B.2.1 B.2.2.2.2.2.1 (zgw_use rfl (B.2.2.2.2.2.2.2.2.1 _ hw rfl) _) hd (k p e R s m args below meth c H locs ls B hr hm hw0 hS hl)
theorem zr_ldc2 {idx : Nat} {v : Int64} (hd : decode md.2.1 pc = .ok (.ldc2_w idx, 3)) (hw : Cond.constantLong md.1.cls idx v ∈ lw_tbl) (k : zw G md d k0 n0 Q (pc + 3) lv (.long v :: st) M) : zw G md d k0 n0 Q pc lv st M := by
  intro p e R s m args below meth c H locs ls B hr hm hw0 hS hl
  exact lv_ldc2 B.1 B.2.1 B.2.2.2.2.2.1 (zgw_use rfl (B.2.2.2.2.2.2.2.2.1 _ hw rfl) _) hd (k p e R s m args below meth c H locs ls B hr hm hw0 hS hl)
end ZR
