/-! ===== THE LAW'S ENTRY, AND THE CLAIM ===== -/
theorem zgw_of {w : Cond} (h : zgw w = true) {s : State} {a : Array Value} (hz : w.before a s = true) : va_Nw w s := by
  unfold zgw at h
  split at h
  · exact va_Nw.of rfl hz
  · exact va_Nw.of rfl hz
  · exact va_Nw.of rfl hz
  · exact hz
  · exact va_Nw.of rfl hz
  · exact word_at (State.WarmedH.refl s) (good_of_word h) hz
theorem sbn_forget {s s' : State} {Ls : List Loc} {k n k' n' : Nat} (h : s.sameButNew s' Ls k n) (hk : k ≤ k') (hn : n ≤ n') (hf : ∀ z ∈ Ls, s.heap.size ≤ z.base) : s.sameButNew s' [] k' n' := by
  obtain ⟨h1, h2, h3, h4, h5, h6⟩ := h
  refine ⟨h1, h2, Nat.le_trans h3 (Nat.add_le_add_left hk _), h4, Nat.le_trans h5 hn, fun a c hc => ?_⟩
  obtain ⟨c', g1, g2, g3, g4⟩ := h6 a c hc
  refine ⟨c', g1, g2, g3, fun i _ => g4 i (fun hz => ?_)⟩
  have ha : a < s.heap.size := (Array.getElem?_eq_some_iff.mp hc).1
  exact absurd ha (Nat.not_lt.mpr (hf _ hz))
theorem kn_all {s : State} {args : Array Value} (hts : ∀ w ∈ lw_tbl, w.before args s = true) : ∃ D : va_G, ∀ (c : Nat) (q : vw_C), vwCl[c]? = some q → u_Kn s q.1 q.2.1 q.2.2 (D.1 c) (D.2 c) := by
  have h : ∀ c, ∃ x : ClassId × (Nat → Nat), c < 13 → u_Kn s (zRX c) (zTX c) (zn c) x.1 x.2 := fun c => by
    by_cases hc : c < 13
    · obtain ⟨a, b, h⟩ := u_known hts (zc_in c hc) (hts _ (zc_ins c hc))
      exact ⟨(a, b), fun _ => h⟩
    · obtain ⟨a, b, h⟩ := u_known hts (zc_in 0 (by decide)) (hts _ (zc_ins 0 (by decide)))
      exact ⟨(a, b), fun z => absurd z hc⟩
  refine ⟨(fun c => (Classical.choose (h c)).1, fun c => (Classical.choose (h c)).2), fun c q hq => ?_⟩
  have hc : c < 13 := (List.getElem?_eq_some_iff.mp hq).1
  have e := zc_cl c hc
  rw [e] at hq
  cases hq
  exact Classical.choose_spec (h c) hc
theorem ar_P {s : State} {args : Array Value} {ty : FieldType} (h : (Cond.arrayClass ty).before args s = true) (hne : ∀ C, ty ≠ .object C) : ∃ cA : ClassId, ArrOfT s cA ty ∧ va_RA s cA ty := by
  obtain ⟨cA, kA, comp, f1, f2, f3⟩ := Cond.arrayClass_spec h
  refine ⟨cA, fun N z => ⟨(fun k h => by cases h), kA, f2, comp, f3⟩, ?_⟩
  cases ty with
  | object C => exact absurd rfl (hne C)
  | _ => exact f1
theorem ar_Q {s : State} {args : Array Value} {C : String} (h : (Cond.arrayOver (.object C)).before args s = true) : ∃ cA : ClassId, ArrOfT s cA (.object C) ∧ va_RA s cA (.object C) := by
  obtain ⟨comp, cA, kA, f4, -, f2, f3, f1⟩ := Cond.arrayOver_spec h
  exact ⟨cA, fun N z => ⟨(fun k h => by cases h), kA, f2, comp, f3⟩, kA, comp, f2, f3, f4, f1⟩
theorem ids_all {s : State} {args : Array Value} (hts : ∀ w ∈ lw_tbl, w.before args s = true) : ∃ ids : Nat → ClassId, ∀ (k : Nat) (q : ClassId × FieldType), (zTys ids)[k]? = some q → ArrOfT s q.1 q.2 ∧ va_RA s q.1 q.2 := by
  obtain ⟨c0, h0⟩ := ar_P (hts _ ac_byte) (fun C h => by cases h)
  obtain ⟨c1, h1⟩ := ar_P (hts _ ac_int) (fun C h => by cases h)
  obtain ⟨c2, h2⟩ := ar_P (hts _ ac_boolean) (fun C h => by cases h)
  obtain ⟨c3, h3⟩ := ar_P (hts _ ac_long) (fun C h => by cases h)
  obtain ⟨c4, h4⟩ := ar_Q (hts _ ao_18)
  obtain ⟨c5, h5⟩ := ar_Q (hts _ ao_19)
  refine ⟨fun k => match k with | 0 => c0 | 1 => c1 | 2 => c2 | 3 => c3 | 4 => c4 | _ => c5, fun k q hq => ?_⟩
  rcases k with _ | _ | _ | _ | _ | _ | k
  · cases hq; exact h0
  · cases hq; exact h1
  · cases hq; exact h2
  · cases hq; exact h3
  · cases hq; exact h4
  · cases hq; exact h5
  · cases hq
theorem zstr_in : ∀ q ∈ zstr, Cond.stringRef q.1 q.2.1 q.2.2 ∈ lw_tbl := by decide +kernel
theorem vk_ex {s : State} {args : Array Value} {own tx : String} {k : Nat} (h : (Cond.stringRef own k tx).before args s = true) : ∃ a, vk_R own k tx a s := by
  cases hc : s.vm.findClass own with
  | none => simp [Cond.before, Cond.holds, Cond.value, hc] at h
  | some cur =>
    obtain ⟨_, _, _, a, _, _, _, _, _, h9⟩ := Cond.stringRef_spec hc h
    exact ⟨a, vk_R.of h h9⟩
theorem strs_all {s : State} {args : Array Value} (hts : ∀ w ∈ lw_tbl, w.before args s = true) : ∃ sg : Nat → Nat, ∀ (k : Nat) (q : String × Nat × String), zstr[k]? = some q → vk_R q.1 q.2.1 q.2.2 (sg k) s := by
  have h : ∀ k : Nat, ∃ a : Nat, ∀ q : String × Nat × String, zstr[k]? = some q → vk_R q.1 q.2.1 q.2.2 a s := fun k => by
    cases hk : zstr[k]? with
    | none => exact ⟨0, fun q hq => by cases hq⟩
    | some q =>
      obtain ⟨a, ha⟩ := vk_ex (hts _ (zstr_in q (List.mem_of_getElem? hk)))
      exact ⟨a, fun q' hq => by cases hq; exact ha⟩
  exact ⟨fun k => Classical.choose (h k), fun k q hq => Classical.choose_spec (h k) q hq⟩
theorem lf_X {s : State} {args : Array Value} {tm : Term} (harr : (Cond.arrayOf tm .int).before args s = true) (hlen : (Term.length tm).eval args s none [] s = some (.int 2)) (h0 : (Term.elem tm (.int 0)).eval args s none [] s = some (.int 10)) (h1 : (Term.elem tm (.int 1)).eval args s none [] s = some (.int 25)) :
    ∃ t : Nat, tm.eval args s none [] s = some (.ref t) ∧ va_X t 2 zlf s s.heap ∧ t < s.heap.size := by
  obtain ⟨t, ht, cell, c1, c2, c3, c4, c5, c6, -⟩ := va_Tof (A := fun a => s.heap.size ≤ a) (N := 2) (f := fun j => .int (zlf j)) (by decide) harr hlen (fun j hj => by
    rcases (show j = 0 ∨ j = 1 by omega) with e | e <;> subst e
    · exact h0
    · exact h1) (fun a h => Nat.not_le.mpr h)
  obtain ⟨b, cell', e1, e2, -⟩ := Term.length_spec hlen
  have eb : b = t := by rw [ht] at e1; cases e1; rfl
  subst eb
  obtain ⟨hc, -, -, -⟩ := State.arrayAt?_spec e2
  have ec : cell' = cell := Option.some.inj (hc.symm.trans c1)
  subst ec
  have hsz : cell'.slots.size < 2 ^ 31 := by
    have hv := hlen
    simp only [Term.eval, ht, e2, Option.bind_eq_bind, Option.bind_some] at hv
    by_cases hlt : cell'.slots.size < 2147483648
    · exact hlt
    · simp [hlt] at hv
  refine ⟨b, ht, ⟨cell', c1, c2, c3, ?_, c6⟩, (Array.getElem?_eq_some_iff.mp c1).1⟩
  have h9 := congrArg Int32.toInt c5
  rw [show cell'.slots.size.toInt32 = Int32.ofNat cell'.slots.size from rfl, Int32.toInt_ofNat_small hsz, Int32.toInt_ofNat_small (by decide)] at h9
  omega
theorem nc_in : ∀ k, k < 4 → ∀ j, j < 4 → k ≠ j → Cond.not (.castable (zex k) (zex j)) ∈ flatC (Jvm.Cond.and given_1 narrow_1) := by decide +kernel
theorem zlv_entry {As : List Value} {n : Nat} {lv : List (Option Value)} (hlen : (lg_sl As).length ≤ n) (he : zent As n = lv) : zlv ((lg_sl As ++ List.replicate (n - (lg_sl As).length) Slot.unset).toArray) n lv := by
  have hl := lv_entry As (n := n) hlen
  refine ⟨hl.1, hl.2.1, fun i v h => ?_⟩
  subst he
  unfold zent at h
  rw [List.getElem?_map] at h
  rw [List.getElem?_toArray]
  cases hx : (lg_sl As ++ List.replicate (n - (lg_sl As).length) Slot.unset)[i]? with
  | none => rw [hx] at h; cases h
  | some x =>
    rw [hx] at h
    cases x <;> simp [zsl] at h
    rw [h]
def R_law : String := "LsmStoreLaw"
def lw_P (b : Addr) (xs : List Int32) (args : Array Value) (s : State) : Prop := args = #[.ref b] ∧ s.IntsAt b xs ∧ xs.length ≤ 320 ∧ (Jvm.Cond.and given_1 narrow_1).before args s = true
def lw_Q (_ : Array Value) (s : State) (o : Outcome) (t : State) : Prop := o = .returned (some (.int 1)) ∧ Framed s o t [] 600128 7301098
def lw_Z (below : List Frame) (a : Array Value) (s : State) : State → Prop := fun t => ∃ o, t.status = .running ∧ Ended t below o ∧ lw_Q a s o t
/-- what holds at the law's entry: the machine, the code, the tables' words, the script of L ints xs at the cell b, what the Statement gives of the start, the law's name, its (empty) table of handlers -/
def lw_At (p : Program) (s : State) (m : MethodId) (meth : Method) (c : Code) (b L : Nat) (xs : Nat → Int32) : Prop :=
  p.tables.exec = Jvm.exec ∧ c.code = code ∧ meth.sig.returnType = ret ∧ c.maxLocals = 8 ∧ s.vm.findClass R_law = some m.cls ∧ (∀ w ∈ lw_tbl, w.before #[Value.ref b] s = true) ∧ va_X b L xs s s.heap ∧ b < s.heap.size ∧ meth.locks = false ∧ (Jvm.Cond.and given_1 narrow_1).before #[Value.ref b] s = true ∧ meth.name = "law" ∧ c.exceptionTable.toList = tableOf []
theorem start_O {s : State} {l : Launch} {b L : Nat} {xs : Nat → Int32} {args : Array Value} (hst : l.stackTraces = false) (hts : ∀ w ∈ lw_tbl, w.before args s = true) (hX : va_X b L xs s s.heap) (hbl : b < s.heap.size) (hgv : (Jvm.Cond.and given_1 narrow_1).before args s = true) :
    ∃ G : zG, gL G = l ∧ gh G = s.heap.size ∧ gb G = b ∧ gn G = L ∧ zO G s s.heap := by
  have hA : ∀ a : Nat, a < s.heap.size → ¬ (s.heap.size ≤ a) := fun a h => Nat.not_le.mpr h
  have hfl := flat_of_before _ hgv
  have harr : (Cond.arrayOf (.static "LsmStore" "LEVEL_FULL" "[I") .int).before args s = true := hfl _ (by decide +kernel)
  have hlen := va_eqt (hfl (Cond.eq (.length (.static "LsmStore" "LEVEL_FULL" "[I")) (.int 2)) (by decide +kernel))
  have h0 := va_eqt (hfl (Cond.eq (.elem (.static "LsmStore" "LEVEL_FULL" "[I") (.int 0)) (.int 10)) (by decide +kernel))
  have h1 := va_eqt (hfl (Cond.eq (.elem (.static "LsmStore" "LEVEL_FULL" "[I") (.int 1)) (.int 25)) (by decide +kernel))
  obtain ⟨f, hf, hXf, hfs⟩ := lf_X harr hlen h0 h1
  obtain ⟨D, hD⟩ := kn_all hts
  obtain ⟨ids, hi⟩ := ids_all hts
  obtain ⟨sg, hsg⟩ := strs_all hts
  refine ⟨(l, D, ids, s.heap.size, f, (b, L, xs), sg), rfl, rfl, rfl, rfl, fun w hw hg => zgw_of hg (hts w hw), ⟨hD, hi⟩, ?_, hX, hXf, ?_, ?_, hsg, Nat.le_refl _, hbl, hfs, hst, fun k j hk hj hn => va_Nc.of (hfl _ (nc_in k hk j hj hn))⟩
  · exact va_Zof (hts (.laysStatic "LsmStore" "LEVEL_FULL" "[I") (by decide +kernel)) (hts (.initialized "LsmStore") (by decide +kernel)) hf hA
  · exact vx_Zqof (hts (.laysStatic Bundle.tN "UNASSIGNED_STACK" Bundle.steD) (by decide +kernel)) (hts (.initialized Bundle.tN) (by decide +kernel)) (hfl (Cond.isRef (.static Bundle.tN "UNASSIGNED_STACK" Bundle.steD)) (by decide +kernel)) hA
  · exact vx_Zqof (hts (.laysStatic Bundle.tN "SUPPRESSED_SENTINEL" Bundle.listD) (by decide +kernel)) (hts (.initialized Bundle.tN) (by decide +kernel)) (hfl (Cond.isRef (.static Bundle.tN "SUPPRESSED_SENTINEL" Bundle.listD)) (by decide +kernel)) hA
/-- from the entry, for every script of at most 320 ints, the law comes to its end with true -/
theorem whole_start {p : Program} {e : Env} {s : State} {m : MethodId} {below : List Frame} {meth : Method} {c : Code} (l : Launch) (hst : l.stackTraces = false) {b L : Nat} {xs : Nat → Int32} (hL : L ≤ 320) (C0 : lw_At p s m meth c b L xs) : W p l e room_1 s m #[Value.ref b] below meth c s.heap [] 0 0 (lw_Z below #[Value.ref b] s) (entryFrame m ([Value.ref b] : List Value).toArray 8) := by
  obtain ⟨hx, hb, hr, hml, hown, hts, hX, hbl, hlk, hgv, hnm, het⟩ := C0
  obtain ⟨G, g1, g2, g3, g4, hO⟩ := start_O hst hts hX hbl hgv
  have hW : zW G ze s.heap := ⟨[], fun a => ⟨fun h => absurd h List.not_mem_nil, fun h => absurd rfl h⟩, (fun k q h => by cases h), ⟨(fun i j p q h => by cases h), (fun k q h => by cases h)⟩, fun a i h => absurd (show (0 : Nat) = 14 from h) (by decide), fun a => show (0 : Nat) < 2 ^ 31 by decide⟩
  have K := t_law0 (G := G) (d := 14) (k0 := 0) (n0 := 0) (Q := fun r M' => r = .inl (some (.int (nI 1))) ∧ zC M' ≤ 600128 ∧ zS M' ≤ 7301098) (M := ze) (Nat.le_refl _) (by rw [g4]; exact hL) (fun M h => ⟨rfl, h⟩) (fun _ => rfl) ⟨rfl, rfl⟩
  have hz : zlv ((lg_sl [Value.ref b] ++ List.replicate (8 - (lg_sl [Value.ref b]).length) Slot.unset).toArray) 8 [some (.ref b), none, none, none, none, none, none, none] := zlv_entry (Nat.le_of_ble_eq_true rfl) rfl
  have K2 := K p e room_1 s m #[Value.ref b] below meth c s.heap [] _ ⟨hx, hb, hr, hlk, hml, hown, hnm, het, hO⟩ ⟨Nat.le_of_ble_eq_true rfl, Nat.le_of_ble_eq_true rfl, Nat.le_of_ble_eq_true rfl, Nat.le_of_ble_eq_true rfl⟩ ⟨Nat.zero_le _, Nat.zero_le _⟩ hW va_S.rf (by rw [g3]; exact hz)
  rw [g1] at K2
  rw [lg_entry_eq]
  intro T hT X
  obtain ⟨t, a1, o, b1, b2, r, M', Ls, z1, z2, z3, z4, z5, z6, z7, z8⟩ := K2 T hT X
  refine ⟨t, a1, o, b1, b2, ?_⟩
  obtain ⟨e1, e2, e3⟩ := z2
  subst e1
  have e4 : o = .returned (some (.int 1)) := z1
  refine ⟨e4, ⟨_, e4⟩, z6, sbn_forget z7 (Nat.le_trans (Nat.sub_le _ _) e2) (Nat.le_trans (Nat.sub_le _ _) e3) (fun z hz => ?_)⟩
  rw [← g2]
  exact z8 z hz
