/-! ===== ROWS of zw: what is made; returns ===== -/
theorem zc_ins : ∀ c, c < 13 → Cond.instantiable (zRX c) (zn c) ∈ lw_tbl := by
  refine zc_cases ?_ ?_ ?_ ?_ ?_ ?_ ?_ ?_ ?_ ?_ ?_ ?_ ?_ <;> decide +kernel
theorem zc_ini : ∀ c, c < 13 → Cond.initialized (zRX c) ∈ lw_tbl := by
  refine zc_cases ?_ ?_ ?_ ?_ ?_ ?_ ?_ ?_ ?_ ?_ ?_ ?_ ?_ <;> decide +kernel
def zdef (c : Nat) : List Value := (List.range (zn c)).map (fun k => if zref (zty c k) = true then .null else .int 0)
theorem zdef_ok : ∀ c, c < 13 → ∀ j, j < zn c → defaultValue (zty c j) = vp_V (zdef c) j := by
  refine zc_cases ?_ ?_ ?_ ?_ ?_ ?_ ?_ ?_ ?_ ?_ ?_ ?_ ?_ <;> decide +kernel
theorem znewO_K (M : zM) (q c n : Nat) : zK (znewO M q c n) q = c + 1 := va_up_self _ _ _
theorem znewA_K (M : zM) (q κ n : Nat) : zK (znewA M q κ n) q = κ := va_up_self _ _ _
theorem znewA_N (M : zM) (q κ n : Nat) : zN (znewA M q κ n) q = n := va_up_self _ _ _
theorem znewA_A (M : zM) (q κ n : Nat) : zA (znewA M q κ n) q = (fun _ => 0) := va_up_self _ _ _
theorem znewA_B (M : zM) (q κ n : Nat) : zB (znewA M q κ n) q = (fun _ => none) := va_up_self _ _ _
theorem znewA_J (M : zM) (q κ n : Nat) : zJ (znewA M q κ n) q = (fun _ => 0) := va_up_self _ _ _
theorem znewO_E {ids : Nat → ClassId} {M : zM} {q c n : Nat} (hc : c < 13) : zE ids (znewO M q c n) q = .inr (c, zdef c) := by
  rw [zE_obj (znewO_K M q c n) hc]
  congr 2
  unfold zflds zdef
  refine List.map_congr_left (fun j _ => ?_)
  unfold zfld
  have h1 : zI (znewO M q c n) (c * 32 + j) q = 0 := if_pos rfl
  have h2 : zR (znewO M q c n) (c * 32 + j) q = none := if_pos rfl
  rw [h1, h2]
  rfl
theorem zfresh {A : Nat → Prop} {L : List Nat} {f : Nat → va_E} {q : Nat} {e : va_E} (hD : va_D A (va_pl L f ++ [(q, e)])) : q ∉ L := by
  intro h
  obtain ⟨i, hi⟩ := zat (f := f) h
  have hl := (List.getElem?_eq_some_iff.mp hi).1
  have h1 : (va_pl L f ++ [(q, e)])[i]? = some (q, f q) := by rw [List.getElem?_append_left hl]; exact hi
  have h2 : (va_pl L f ++ [(q, e)])[(va_pl L f).length]? = some (q, e) := by rw [List.getElem?_append_right (Nat.le_refl _), Nat.sub_self]; rfl
  have := hD.1 _ _ _ _ h1 h2 rfl
  omega
theorem zpush {ids : Nat → ClassId} {M M' : zM} {L : List Nat} {q : Nat} {e : va_E} (h : q ∉ L) (hE : zE ids M' q = e) (hO : ∀ b, b ≠ q → zE ids M' b = zE ids M b) : va_pl L (zE ids M) ++ [(q, e)] = va_pl (L ++ [q]) (zE ids M') := by
  rw [va_pl_push h]
  exact zup hE hO _
section ZN
variable {G : zG} {md : zD} {d k0 n0 : Nat} {Q : zOut → zM → Prop} {pc : Nat} {lv : List (Option Value)} {st : List Value} {M : zM}
theorem zr_new {idx c : Nat} (hd : decode md.2.1 pc = .ok (.new idx, 3)) (hlk : Cond.classLink md.1.cls idx (zRX c) ∈ lw_tbl) (hc : c < 13) (hb : zC M + 1 ≤ 600128 ∧ zS M + zn c ≤ 7301098)
    (kk : ∀ q, zK M q = 0 → zw G md d k0 n0 Q (pc + 3) lv (.ref q :: st) (znewO M q c (zn c))) : zw G md d k0 n0 Q pc lv st M := by
  intro p e R s m args below meth c9 H locs ls B hr hm hw hS hl
  obtain ⟨L, hL, hP, hD, hF, hN⟩ := hw
  have hO := B.2.2.2.2.2.2.2.2
  have hts : ∀ w ∈ u_ws (zRX c) (zTX c) (zn c), w.before args s = true := fun w h => zgw_use (zc_gw c hc w h) (hO.1 w (zc_in c hc w h) (zc_gw c hc w h)) args
  refine va_new (ci := c) (fs := zdef c) B.1 B.2.1 hts (fun _ h => h) (zty c) (zc_ty c hc) B.2.2.2.2.2.1 (zgw_use rfl (hO.1 _ hlk rfl) args) (zgw_use rfl (hO.1 _ (zc_ins c hc) rfl) args) (zgw_use rfl (hO.1 _ (zc_ini c hc) rfl) args) hO.2.1 hP hD hS (fun q h => Nat.le_trans hO.2.2.2.2.2.2.2.2.1 h) (zc_cl c hc) (zdef_ok c hc) (by omega) (by omega) hd (fun q H1 hP1 hD1 hS1 => ?_)
  have hq := zfresh hD1
  have hK0 : zK M q = 0 := by
    by_cases h : zK M q = 0
    · exact h
    · exact absurd ((hL q).mpr h) hq
  have oth : ∀ b, b ≠ q → zE (gi G) (znewO M q c (zn c)) b = zE (gi G) M b := fun b hb => zE_congr (va_up_ne _ _ hb) rfl rfl rfl rfl (fun _ => if_neg hb) (fun _ => if_neg hb)
  rw [zpush (M' := znewO M q c (zn c)) hq (znewO_E hc) oth] at hP1 hD1
  have e1 : zC M - k0 + 1 = zC (znewO M q c (zn c)) - k0 := by show _ = zC M + 1 - k0; omega
  have e2 : zS M - n0 + zn c = zS (znewO M q c (zn c)) - n0 := by show _ = zS M + zn c - n0; omega
  rw [e1, e2]
  refine kk q hK0 p e R s m args below meth c9 H1 locs ls B hr ⟨by show _ ≤ zC M + 1; omega, by show _ ≤ zS M + zn c; omega⟩ ⟨L ++ [q], fun b => ?_, hP1, hD1, fun b i hb => ?_, hN⟩ hS1 hl
  · show b ∈ L ++ [q] ↔ va_up (zK M) q (c + 1) b ≠ 0
    by_cases h : b = q
    · subst h
      rw [va_up_self]
      simp
    · rw [va_up_ne _ _ h, ← hL b]
      simp [h]
  · have hb' : va_up (zK M) q (c + 1) b = 14 := hb
    by_cases h : b = q
    · subst h
      rw [va_up_self] at hb'
      omega
    · rw [va_up_ne _ _ h] at hb'
      exact hF b i hb'
/-- the end of what makes a row: kind κ, length n -/
theorem znewA_end {q κ n : Nat} {locs : List Loc} {p : Program} {e : Env} {R : Room} {s : State} {m : MethodId} {args : Array Value} {below : List Frame} {meth : Method} {c9 : Code} {H1 : Heap} {ls : Array Slot} {L : List Nat} {pc2 : Nat} {e0 : va_E}
    (B : zBd G md p s m meth c9) (hr : d ≤ R.frames ∧ 38 * d ≤ R.locals ∧ 600128 ≤ k0 + R.cells ∧ 7301098 ≤ n0 + R.slots) (hm : k0 ≤ zC M ∧ n0 ≤ zS M) (hκ : 14 ≤ κ ∧ κ ≤ 19) (hn : n < 2 ^ 31)
    (hL : ∀ a, a ∈ L ↔ zK M a ≠ 0) (hF : ∀ b i, zK M b = 14 → fits .byte (.int (zA M b i)) = true) (hN : ∀ a, zN M a < 2 ^ 31) (hE : zE (gi G) (znewA M q κ n) q = e0)
    (hP1 : va_P (gD G) vwCl (va_pl L (zE (gi G) M) ++ [(q, e0)]) H1) (hD1 : va_D (gA G) (va_pl L (zE (gi G) M) ++ [(q, e0)])) (hS1 : va_S (gA G) s.heap H1 locs) (hl : zlv ls md.2.2.1 lv)
    (kk : ∀ q, zK M q = 0 → zw G md d k0 n0 Q pc2 lv (.ref q :: st) (znewA M q κ n)) : W p (gL G) e R s m args below meth c9 H1 locs (zC M - k0 + 1) (zS M - n0 + n) (zZ G k0 n0 Q below s) (F0 m pc2 ls (.ref q :: st)) := by
  have hq := zfresh hD1
  have hK0 : zK M q = 0 := by
    by_cases h : zK M q = 0
    · exact h
    · exact absurd ((hL q).mpr h) hq
  have oth : ∀ b, b ≠ q → zE (gi G) (znewA M q κ n) b = zE (gi G) M b := fun b hb => zE_congr (va_up_ne _ _ hb) (va_up_ne _ _ hb) (va_up_ne _ _ hb) (va_up_ne _ _ hb) (va_up_ne _ _ hb) (fun _ => rfl) (fun _ => rfl)
  rw [zpush (M' := znewA M q κ n) hq hE oth] at hP1 hD1
  have e1 : zC M - k0 + 1 = zC (znewA M q κ n) - k0 := by show _ = zC M + 1 - k0; omega
  have e2 : zS M - n0 + n = zS (znewA M q κ n) - n0 := by show _ = zS M + n - n0; omega
  rw [e1, e2]
  refine kk q hK0 p e R s m args below meth c9 H1 locs ls B hr ⟨by show _ ≤ zC M + 1; omega, by show _ ≤ zS M + n; omega⟩ ⟨L ++ [q], fun b => ?_, hP1, hD1, fun b i hb => ?_, fun b => ?_⟩ hS1 hl
  · show b ∈ L ++ [q] ↔ va_up (zK M) q κ b ≠ 0
    by_cases h : b = q
    · subst h
      rw [va_up_self]
      simp
      omega
    · rw [va_up_ne _ _ h, ← hL b]
      simp [h]
  · have hb' : va_up (zK M) q κ b = 14 := hb
    show fits .byte (.int (va_up (zA M) q (fun _ => 0) b i)) = true
    by_cases h : b = q
    · subst h
      rw [va_up_self]
      rfl
    · rw [va_up_ne _ _ h] at hb' ⊢
      exact hF b i hb'
  · show va_up (zN M) q n b < 2 ^ 31
    by_cases h : b = q
    · subst h
      rw [va_up_self]
      exact hn
    · rw [va_up_ne _ _ h]
      exact hN b
theorem zr_newP {atype : ArrayType} {ty : FieldType} {κ t0 : Nat} {n : Int32} (hd : decode md.2.1 pc = .ok (.newarray atype, 2)) (hty : newarray.typeOf atype = ty) (hk : (ty = .byte ∧ κ = 14 ∧ t0 = 0) ∨ (ty = .int ∧ κ = 15 ∧ t0 = 1) ∨ (ty = .boolean ∧ κ = 16 ∧ t0 = 2) ∨ (ty = .long ∧ κ = 17 ∧ t0 = 3))
    (hlk : Cond.arrayClass ty ∈ lw_tbl) (hn : ¬ n < 0) (hb : zC M + 1 ≤ 600128 ∧ zS M + n.toNatClampNeg ≤ 7301098) (kk : ∀ q, zK M q = 0 → zw G md d k0 n0 Q (pc + 2) lv (.ref q :: st) (znewA M q κ n.toNatClampNeg)) : zw G md d k0 n0 Q pc lv (.int n :: st) M := by
  intro p e R s m args below meth c9 H locs ls B hr hm hw hS hl
  obtain ⟨L, hL, hP, hD, hF, hN⟩ := hw
  have hO := B.2.2.2.2.2.2.2.2
  have hsz : n.toNatClampNeg < 2 ^ 31 := by omega
  have harr : (Cond.arrayClass (newarray.typeOf atype)).before args s = true := by rw [hty]; exact zgw_use rfl (hO.1 _ hlk rfl) args
  have hA : ∀ q, s.heap.size ≤ q → gA G q := fun q h => Nat.le_trans hO.2.2.2.2.2.2.2.2.1 h
  have hcl : ∀ (cA : ClassId) (k : Nat) (t : FieldType), va_K (gD G) vwCl (zTys (gi G) ++ [(cA, t)]) s → (zTys (gi G))[k]? = some (gi G k, t) → (∀ C, t ≠ .object C) → cA = gi G k := by
    intro cA k t hK hk ht
    have h1 := (hK.2 (zTys (gi G)).length (cA, t) (by rw [List.getElem?_append_right (Nat.le_refl _), Nat.sub_self]; rfl)).2
    have h2 := (hO.2.1.2 k (gi G k, t) hk).2
    cases t with
    | object C => exact absurd rfl (ht C)
    | _ => exact Option.some.inj (h1.symm.trans h2)
  rcases hk with ⟨rfl, rfl, rfl⟩ | ⟨rfl, rfl, rfl⟩ | ⟨rfl, rfl, rfl⟩ | ⟨rfl, rfl, rfl⟩
  · refine va_newa (a0 := (n.toNatClampNeg, .inl (fun _ => 0))) B.1 B.2.1 harr hty hO.2.1 hP hD hS hA (fun _ => rfl) hn rfl (by simp only [componentBytes]; omega) (by omega) (by omega) hd (fun q cA H1 hK1 hP1 hD1 hS1 => ?_)
    have e0 := hcl cA 0 _ hK1 rfl (fun _ h => by cases h)
    subst e0
    exact znewA_end B hr hm (by omega) hsz hL hF hN (by rw [zE_B (znewA_K M q 14 _), znewA_N, znewA_A]) hP1 hD1 hS1 hl kk
  · refine va_newa (a0 := (n.toNatClampNeg, .inl (fun _ => 0))) B.1 B.2.1 harr hty hO.2.1 hP hD hS hA (fun _ => rfl) hn rfl (by simp only [componentBytes]; omega) (by omega) (by omega) hd (fun q cA H1 hK1 hP1 hD1 hS1 => ?_)
    have e0 := hcl cA 1 _ hK1 rfl (fun _ h => by cases h)
    subst e0
    exact znewA_end B hr hm (by omega) hsz hL hF hN (by rw [zE_I (znewA_K M q 15 _), znewA_N, znewA_A]) hP1 hD1 hS1 hl kk
  · refine va_newa (a0 := (n.toNatClampNeg, .inl (fun _ => 0))) B.1 B.2.1 harr hty hO.2.1 hP hD hS hA (fun _ => rfl) hn rfl (by simp only [componentBytes]; omega) (by omega) (by omega) hd (fun q cA H1 hK1 hP1 hD1 hS1 => ?_)
    have e0 := hcl cA 2 _ hK1 rfl (fun _ h => by cases h)
    subst e0
    exact znewA_end B hr hm (by omega) hsz hL hF hN (by rw [zE_Z (znewA_K M q 16 _), znewA_N, znewA_A]) hP1 hD1 hS1 hl kk
  · refine va_newa (a0 := (n.toNatClampNeg, .inr (.inl (fun _ => 0)))) B.1 B.2.1 harr hty hO.2.1 hP hD hS hA (fun _ => rfl) hn rfl (by simp only [componentBytes]; omega) (by omega) (by omega) hd (fun q cA H1 hK1 hP1 hD1 hS1 => ?_)
    have e0 := hcl cA 3 _ hK1 rfl (fun _ h => by cases h)
    subst e0
    exact znewA_end B hr hm (by omega) hsz hL hF hN (by rw [zE_J (znewA_K M q 17 _), znewA_N, znewA_J]) hP1 hD1 hS1 hl kk
theorem zr_newQ {idx κ t0 : Nat} {C : String} {n : Int32} (hd : decode md.2.1 pc = .ok (.anewarray idx, 3)) (hk : (C = RX4 ∧ κ = 18 ∧ t0 = 4) ∨ (C = RX8 ∧ κ = 19 ∧ t0 = 5)) (hlk : Cond.classLink md.1.cls idx C ∈ lw_tbl) (hlk2 : Cond.arrayOver (.object C) ∈ lw_tbl)
    (hn : ¬ n < 0) (hb : zC M + 1 ≤ 600128 ∧ zS M + n.toNatClampNeg ≤ 7301098) (kk : ∀ q, zK M q = 0 → zw G md d k0 n0 Q (pc + 3) lv (.ref q :: st) (znewA M q κ n.toNatClampNeg)) : zw G md d k0 n0 Q pc lv (.int n :: st) M := by
  intro p e R s m args below meth c9 H locs ls B hr hm hw hS hl
  obtain ⟨L, hL, hP, hD, hF, hN⟩ := hw
  have hO := B.2.2.2.2.2.2.2.2
  have hsz : n.toNatClampNeg < 2 ^ 31 := by omega
  have hA : ∀ q, s.heap.size ≤ q → gA G q := fun q h => Nat.le_trans hO.2.2.2.2.2.2.2.2.1 h
  refine va_newq B.1 B.2.1 B.2.2.2.2.2.1 (zgw_use rfl (hO.1 _ hlk rfl) args) (show va_AO C s from hO.1 _ hlk2 rfl) hO.2.1 hP hD hS hA hn rfl (by omega) (by omega) (by omega) hd (fun q cA H1 hK1 hP1 hD1 hS1 => ?_)
  have h1 := (hK1.2 (zTys (gi G)).length (cA, .object C) (by rw [List.getElem?_append_right (Nat.le_refl _), Nat.sub_self]; rfl)).2
  obtain ⟨_, _, _, _, _, h1⟩ := h1
  rcases hk with ⟨rfl, rfl, rfl⟩ | ⟨rfl, rfl, rfl⟩
  · obtain ⟨_, _, _, _, _, h2⟩ := (hO.2.1.2 4 (gi G 4, .object RX4) rfl).2
    have e0 : cA = gi G 4 := Option.some.inj (h1.symm.trans h2)
    subst e0
    exact znewA_end B hr hm (by omega) hsz hL hF hN (by rw [zE_V (znewA_K M q 18 _), znewA_N, znewA_B]) hP1 hD1 hS1 hl kk
  · obtain ⟨_, _, _, _, _, h2⟩ := (hO.2.1.2 5 (gi G 5, .object RX8) rfl).2
    have e0 : cA = gi G 5 := Option.some.inj (h1.symm.trans h2)
    subst e0
    exact znewA_end B hr hm (by omega) hsz hL hF hN (by rw [zE_T (znewA_K M q 19 _), znewA_N, znewA_B]) hP1 hD1 hS1 hl kk
theorem zr_objInit {idx a : Nat} (hd : decode md.2.1 pc = .ok (.invokespecial idx, 3)) (hlk : Cond.methodLink md.1.cls idx Lib.objectInit ∈ lw_tbl) (hst : (st.map fun v => v.category).sum ≤ 8) (hd1 : 1 ≤ d) (kk : zw G md d k0 n0 Q (pc + 3) lv st M) : zw G md d k0 n0 Q pc lv (.ref a :: st) M := by
  intro p e R s m args below meth c9 H locs ls B hr hm hw hS hl
  have hO := B.2.2.2.2.2.2.2.2
  refine W.objInit B.1 B.2.1 B.2.2.2.2.2.1 (zgw_use rfl (hO.1 _ hlk rfl) args) (zgw_use rfl (hO.1 _ (show Cond.instanceMethod Lib.objectInit ∈ lw_tbl by decide +kernel) rfl) args) (zgw_use rfl (hO.1 _ (show Cond.code Lib.objectInit ⟨#[0xb1]⟩ 1 none ∈ lw_tbl by decide +kernel) rfl) args) rfl (by show ls.size = _; rw [hl.1, B.2.2.2.2.1]) rfl hd (by omega) ?_ (kk p e R s m args below meth c9 H locs ls B hr hm hw hS hl)
  have := lv_room (m := m) (pc := pc) (ls := ls) (rest := (.ref a :: st)) (st := st) hst
  omega
/-- a return: what the row of the kit gives, as zZ -/
theorem zret {M : zM} {p : Program} {e : Env} {R : Room} {s : State} {m : MethodId} {args : Array Value} {below : List Frame} {meth : Method} {c9 : Code} {H : Heap} {locs : List Loc} {v : Option Value} {g : JFrame} (hm : k0 ≤ zC M ∧ n0 ≤ zS M) (hw : zW G M H) (hq : Q (.inl v) M)
    (h : W p (gL G) e R s m args below meth c9 H locs (zC M - k0) (zS M - n0) (MQ below (fun _ _ o t => o = .returned v ∧ t.heap = H) args s (zC M - k0) (zS M - n0) (gA G)) g) : W p (gL G) e R s m args below meth c9 H locs (zC M - k0) (zS M - n0) (zZ G k0 n0 Q below s) g := by
  intro T hT X
  obtain ⟨t, a1, o, b1, b2, ⟨b3, b4⟩, L, b5, b6⟩ := h T hT X
  exact ⟨t, a1, o, b1, b2, .inl v, M, L, b3, hq, by rw [b4]; exact hw, hm.1, hm.2, b5.2.1, b5.2.2, b6⟩
theorem zr_iret {v : Int32} (hd : decode md.2.1 pc = .ok (.ireturn, 1)) (ht : md.2.2.2.1 = some .int) (hq : Q (.inl (some (.int v))) M) : zw G md d k0 n0 Q pc lv [.int v] M := by
  intro p e R s m args below meth c9 H locs ls B hr hm hw hS hl
  exact zret hm hw hq (W.iret B.1 B.2.1 (B.2.2.1.trans ht) (fun t h _ => ⟨rfl, h⟩) hS.2.2 hd B.2.2.2.1)
theorem zr_zret {v : Int32} (hd : decode md.2.1 pc = .ok (.ireturn, 1)) (ht : md.2.2.2.1 = some .boolean) (hv : v = 0 ∨ v = 1) (hq : Q (.inl (some (.int v))) M) : zw G md d k0 n0 Q pc lv [.int v] M := by
  intro p e R s m args below meth c9 H locs ls B hr hm hw hS hl
  exact zret hm hw hq (W.zret B.1 B.2.1 (B.2.2.1.trans ht) (by rcases hv with rfl | rfl <;> rfl) (fun t h _ => ⟨rfl, h⟩) hS.2.2 hd B.2.2.2.1)
theorem zr_lret {v : Int64} (hd : decode md.2.1 pc = .ok (.lreturn, 1)) (ht : md.2.2.2.1 = some .long) (hq : Q (.inl (some (.long v))) M) : zw G md d k0 n0 Q pc lv [.long v] M := by
  intro p e R s m args below meth c9 H locs ls B hr hm hw hS hl
  exact zret hm hw hq (W.lret B.1 B.2.1 (B.2.2.1.trans ht) (fun t h _ => ⟨rfl, h⟩) hS.2.2 hd B.2.2.2.1)
theorem zr_vret (hd : decode md.2.1 pc = .ok (.return_, 1)) (ht : md.2.2.2.1 = none) (hq : Q (.inl none) M) : zw G md d k0 n0 Q pc lv [] M := by
  intro p e R s m args below meth c9 H locs ls B hr hm hw hS hl
  exact zret hm hw hq (W.vret B.1 B.2.1 (B.2.2.1.trans ht) (fun t h _ => ⟨rfl, h⟩) hS.2.2 hd B.2.2.2.1)
theorem zr_aret {v : Value} {rt : FieldType} (hd : decode md.2.1 pc = .ok (.areturn, 1)) (ht : md.2.2.2.1 = some rt) (hrt : (∃ n, rt = .object n) ∨ ∃ t, rt = .array t) (hv : v = .null ∨ ∃ a, v = .ref a) (hq : Q (.inl (some v)) M) : zw G md d k0 n0 Q pc lv [v] M := by
  intro p e R s m args below meth c9 H locs ls B hr hm hw hS hl
  exact zret hm hw hq (W.aret B.1 B.2.1 (B.2.2.1.trans ht) hrt hv (fun t h _ => ⟨rfl, h⟩) hS.2.2 hd B.2.2.2.1)
end ZN
