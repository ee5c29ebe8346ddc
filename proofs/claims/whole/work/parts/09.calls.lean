/-! ===== CONTRACTS, CALLS, THROWS ===== -/
def zcode (md : zD) : Cond := match md.2.2.2.2 with
  | [] => .code md.1 md.2.1 md.2.2.1 md.2.2.2.1
  | h :: t => .codeWith md.1 md.2.1 md.2.2.1 md.2.2.2.1 (h :: t)
theorem zcode_spec {md : zD} {a : Array Value} {U : State} {mk : MethodId} (h : (zcode md).before a U = true) (hn : U.methodNamed? md.1 = some mk) :
    ∃ (meth : Method) (c : Code), U.vm.method? mk = some meth ∧ meth.code = some c ∧ c.code = md.2.1 ∧ c.maxLocals = md.2.2.1 ∧ meth.sig.returnType = md.2.2.2.1 ∧ meth.locks = false ∧ c.exceptionTable.toList = tableOf md.2.2.2.2 ∧ parseMethodDescriptor md.1.desc = some meth.sig := by
  unfold zcode at h
  split at h
  · rename_i e
    obtain ⟨meth, c, h1, h2, h3, h4, h5, h6, h7, h8⟩ := Cond.code_spec hn h
    refine ⟨meth, c, h1, h2, h3, h4, h5, h6, ?_, h8⟩
    rw [e, Array.isEmpty_iff.mp h7]
    rfl
  · rename_i x t e
    obtain ⟨m9, meth, c, hn9, h1, h2, h3, h4, h5, h6, h7, h8⟩ := Cond.codeWith_spec h
    cases Option.some.inj (hn9.symm.trans hn)
    refine ⟨meth, c, h1, h2, h3, h4, h6, h7, ?_, h8⟩
    rw [e, ← h5, table_eq]
abbrev zroom (d : Nat) (M : zM) : Room := { frames := d, cells := 600128 - zC M, slots := 7301098 - zS M, locals := 38 * d }
def zPc (G : zG) (As : List Value) (M : zM) : Array Value → State → Prop := fun a U => a = As.toArray ∧ zO G U U.heap ∧ zW G M U.heap
/-- THE CONTRACT: called with As in the memory M, d frames deep, md comes to Q -/
def zMet (G : zG) (md : zD) (d : Nat) (As : List Value) (M : zM) (Q : zOut → zM → Prop) : Prop :=
  MetFree (gL G) md.1 (headSpec [zcode md] (zroom d M)) (zPc G As M) (fun _ _ _ _ _ => True) (fun _ st o t => zQ G (zC M) (zS M) Q st o t)
def zsl (x : Slot) : Option Value := match x with
  | .val v => some v
  | _ => none
def zent (As : List Value) (n : Nat) : List (Option Value) := (lg_sl As ++ List.replicate (n - (lg_sl As).length) Slot.unset).map zsl
theorem zMet_of {G : zG} {md : zD} {d : Nat} {As : List Value} {M : zM} {Q : zOut → zM → Prop} {lv : List (Option Value)} (hpl : plainName md.1.cls = true) (hlen : (lg_sl As).length ≤ md.2.2.1) (he : zent As md.2.2.1 = lv) (hc : zC M ≤ 600128 ∧ zS M ≤ 7301098)
    (k : zw G md d (zC M) (zS M) Q 0 lv [] M) : zMet G md d As M Q := by
  refine MetFree.of_bodyS (code := md.2.1) (maxLocals := md.2.2.1) (ret := md.2.2.2.1) hpl ?_ ?_
  · intro args s m h hn
    obtain ⟨meth, c, h1, h2, h3, h4, h5, h6, -, -⟩ := zcode_spec (atoms_spec (ws := [zcode md]) h _ List.mem_cons_self) hn
    exact ⟨meth, c, h1, h2, h3, h4, h5, h6⟩
  · intro p e s m args below meth c s₁ B hml hP _
    obtain ⟨rfl, hO, hw⟩ := hP
    have hh0 : s₁.heap = s.heap := by rw [B.state]; rfl
    obtain ⟨meth9, c9, h1, h2, h3, h4, h5, h6, h7, -⟩ := zcode_spec (atoms_spec (ws := [zcode md]) B.pre _ List.mem_cons_self) B.named
    cases Option.some.inj (h1.symm.trans B.method)
    cases Option.some.inj (h2.symm.trans (Stand.of_body B).code)
    have hl := lv_entry As (n := md.2.2.1) hlen
    have hz : zlv ((lg_sl As ++ List.replicate (md.2.2.1 - (lg_sl As).length) Slot.unset).toArray) md.2.2.1 lv := by
      refine ⟨hl.1, hl.2.1, fun i v h => ?_⟩
      subst he
      unfold zent at h
      rw [List.getElem?_map] at h
      rw [List.getElem?_toArray]
      cases hx : (lg_sl As ++ List.replicate (md.2.2.1 - (lg_sl As).length) Slot.unset)[i]? with
      | none => rw [hx] at h; cases h
      | some x =>
        rw [hx] at h
        cases x <;> simp [zsl] at h
        rw [h]
    have K := k p e (headSpec [zcode md] (zroom d M)).room s m As.toArray below meth c s.heap [] _ ⟨B.exec, B.bytes, B.returns, B.notSynchronized, hml, findClass_of_methodNamed B.named, (name_of_methodNamed B.named B.method).1, h7, hO⟩ ⟨Nat.le_refl _, Nat.le_refl _, by show _ ≤ zC M + (600128 - zC M); omega, by show _ ≤ zS M + (7301098 - zS M); omega⟩ ⟨Nat.le_refl _, Nat.le_refl _⟩ hw va_S.rf hz
    rw [Nat.sub_self, Nat.sub_self, ← lg_entry_eq] at K
    obtain ⟨t, a1, o, b1, b2, b3⟩ := K s₁ hh0 (Stand.of_body B)
    exact ⟨t, o, a1, b1, b2, b3⟩
theorem zMet.mono {G : zG} {md : zD} {d : Nat} {As : List Value} {M : zM} {Q Q' : zOut → zM → Prop} (h : zMet G md d As M Q) (hq : ∀ r M', Q r M' → Q' r M') : zMet G md d As M Q' := by
  intro p e ha hc hk s m args below hf happ hP hK
  obtain ⟨n, o, h1, h2, h3, r, M', Ls, q1, q2, q3⟩ := h p e ha hc hk s m args below hf happ hP hK
  exact ⟨n, o, h1, h2, h3, r, M', Ls, q1, hq r M' q2, q3⟩
/-- what a call leaves behind it, seen from the caller's point A -/
def zAft (G : zG) (M M' : zM) (A B : Pt) : Prop := zW G M' B.U.heap ∧ zC M ≤ zC M' ∧ zS M ≤ zS M' ∧ (∃ Ls, B.locs = A.locs ++ Ls ∧ ∀ z ∈ Ls, gh G ≤ z.base) ∧ B.cells = A.cells + (zC M' - zC M) ∧ B.slots = A.slots + (zS M' - zS M) ∧ A.U.heap.size ≤ B.U.heap.size ∧ ∀ q : Nat, q < A.U.heap.size → ¬ gA G q → B.U.heap[q]? = A.U.heap[q]?
def zPre (G : zG) (R : Room) (As : List Value) (M : zM) : Pt → Array Value → Prop := fun A a => A.cells + (600128 - zC M) ≤ R.cells ∧ A.slots + (7301098 - zS M) ≤ R.slots ∧ zPc G As M a A.U
def zPost (G : zG) (M : zM) (Q' : zOut → zM → Prop) : Pt → Array Value → Option Value → Pt → Prop := fun A _ v B => ∃ M', Q' (.inl v) M' ∧ zAft G M M' A B
def zPostX (G : zG) (M : zM) (Q' : zOut → zM → Prop) : Pt → Array Value → Addr → Pt → Prop := fun A _ q B => ∃ (k : Nat) (M' : zM) (ce : Cell), Q' (.inr k) M' ∧ zAft G M M' A B ∧ B.U.heap[q]? = some ce ∧ ce.vm = .none ∧ A.U.vm.findClass (zex k) = some ce.cls
section ZB
variable {G : zG} {R : Room} {p : Program} {e : Env} {below : List Frame} {s : State} {sargs : Array Value}
theorem z_back {md : zD} {d : Nat} {As : List Value} {M : zM} {Q' : zOut → zM → Prop} {len W9 : Nat} (hM : zMet G md d As M Q') (hframes : d + 1 ≤ R.frames) (hlocals : W9 + (md.2.2.1 + 11) + 38 * d ≤ R.locals)
    (hcode : ∀ (a' : Array Value) (U : State), s.WarmedH U.vm → (zcode md).before a' U = true) (hinit : ∀ (a' : Array Value) (U : State), s.WarmedH U.vm → (Cond.initialized md.1.cls).before a' U = true) :
    vx_Back (gL G) R p e below s sargs md.1 len W9 (zPre G R As M) (zPost G M Q') (zPostX G M Q') := by
  intro m meth c A g ig mk a X hg hsize hdg hW hn hp
  have h1 : (headSpec [zcode md] (zroom d M)).pre.before a A.U = true := atoms_intro fun w hw => by
    rw [List.mem_singleton] at hw
    rw [hw]
    exact hcode _ _ X.warmed
  have h2 : (zcode md).before a A.U = true := hcode _ _ X.warmed
  have h3 : (Cond.initialized md.1.cls).before a A.U = true := hinit _ _ X.warmed
  have h4 : A.cells + (headSpec [zcode md] (zroom d M)).room.cells ≤ R.cells := hp.1
  have h5 : A.slots + (headSpec [zcode md] (zroom d M)).room.slots ≤ R.slots := hp.2.1
  have hPc : zPc G As M a (A.U.calling g mk a) := ⟨hp.2.2.1, zO.moved (u := A.U) (U := A.U.calling g mk a) (State.WarmedH.refl _) ⟨Nat.le_refl _, fun _ _ _ => rfl⟩ hp.2.2.2.1, hp.2.2.2.2⟩
  obtain ⟨U, Ls, c0, s0⟩ := A
  dsimp only [Pt.U, Pt.locs, Pt.cells, Pt.slots] at h1 h2 h3 h4 h5 X hn hPc ⊢
  obtain ⟨methY, cY, hmY, hcY, -, hlY, -, -, -, -⟩ := zcode_spec h2 hn
  obtain ⟨kY, hkY, -⟩ := className_of_methodNamed hn
  have hinitY : kY.init = .initialized := Cond.initialized_spec (findClass_of_methodNamed hn) hkY h3
  have h : At U g.method c below := by rw [hg]; exact X.here
  have hlocals9 : W9 + (md.2.2.1 + 11) + (headSpec [zcode md] (zroom d M)).room.locals ≤ R.locals := hlocals
  have happ : (headSpec [zcode md] (zroom d M)).appliesLoose md.1 e.platform (U.calling g mk a) = true :=
    Spec.appliesLoose_calling (g := g) h hdg hn hkY hinitY
      (X.room_calling (g := g) (R' := (headSpec [zcode md] (zroom d M)).room) hsize hmY hcY hframes (by rw [hlY]; omega) h4 h5) h1
  obtain ⟨mid, hmid⟩ := h.above
  have hfr : (U.setTop g).frames = (.java g :: mid) ++ below := by rw [State.frames_setTop' g h.top, hmid]; rfl
  obtain ⟨o, s₂, hsteps, -, hend, hq⟩ := Steps.callFree hM p X.admits X.cas X.clock (acts := []) hfr happ hPc trivial
  have hq' : zQ G (zC M) (zS M) Q' (U.calling g mk a) o s₂ := hq
  rw [State.frames_setTop' g h.top] at hend
  obtain ⟨g₀, hg0⟩ := Option.isSome_iff_exists.mp h.top
  obtain ⟨r, hr⟩ := State.topJava?_eq_some.mp hg0
  have hr' : (({ U with heap := s₂.heap, slotsUsed := s₂.slotsUsed } : State).setVm s₂.vm).frames = .java g₀ :: r := hr
  obtain ⟨out, M', L, hok, hqm, hwm, hk1, hk2, hW₂, hsm, hL⟩ := hq'
  obtain ⟨e2, q2, q3, q4, q5, q6⟩ := id hsm
  have e3 : s₂ = ({ (U.calling g mk a).setFrames s₂.frames with heap := s₂.heap, slotsUsed := s₂.slotsUsed } : State).setVm s₂.vm := by
    have : s₂ = ({ s₂ with vm := (U.calling g mk a).vm } : State).setVm s₂.vm := rfl
    rw [e2] at this
    exact this
  have hW' : U.WarmedH s₂.vm := hW₂
  have hfrm := vx_frame hsm
  have hsame : U.sameButNew ({ U with heap := s₂.heap, slotsUsed := s₂.slotsUsed } : State) L (zC M' - zC M) (zS M' - zS M) := by
    refine ⟨?_, q2, q3, q4, q5, q6⟩
    obtain ⟨t, ht, -⟩ := State.frames_cons hr
    show ({ U with heap := s₂.heap, slotsUsed := s₂.slotsUsed } : State) = { U.setFrames U.frames with heap := s₂.heap, slotsUsed := s₂.slotsUsed }
    rw [State.setFrames_self ht]
  have haft : zAft G M M' ⟨U, Ls, c0, s0⟩ ⟨(({ U with heap := s₂.heap, slotsUsed := s₂.slotsUsed } : State).setVm s₂.vm), Ls ++ L, c0 + (zC M' - zC M), s0 + (zS M' - zS M)⟩ :=
    ⟨hwm, hk1, hk2, ⟨L, rfl, hL⟩, rfl, rfl, hfrm.1, fun q h1 h2 => hfrm.2 q h1 (fun z hz e9 => h2 (by rw [← e9]; exact hL z hz))⟩
  cases out with
  | inl v =>
    have ho : o = .returned v := hok
    subst ho
    obtain ⟨c₂, i₂, len₂, hc₂, hd₂, hf₂⟩ := hend
    have hcc : c₂ = c := by
      have h1 : s₂.code? g.method = U.code? g.method := by
        rw [State.code?_eq, State.code?_eq, hW'.alike.method?]
      exact Option.some.inj (hc₂.symm.trans (h1.trans h.code))
    subst hcc
    have hlen : len₂ = len := by rw [hdg] at hd₂; cases hd₂; rfl
    subst hlen
    have hs₂ : s₂ = (({ U with heap := s₂.heap, slotsUsed := s₂.slotsUsed } : State).setVm s₂.vm).setTop { g with pc := g.pc + len₂, stack := v.toList ++ g.stack } := by
      refine e3.trans ?_
      rw [hf₂, State.calling_eq h.top, State.setFrames_setFrames, State.setTop_of_frames _ hr', hr]
      rfl
    subst hg
    refine Or.inl ⟨v, ⟨(({ U with heap := s₂.heap, slotsUsed := s₂.slotsUsed } : State).setVm s₂.vm), Ls ++ L, c0 + (zC M' - zC M), s0 + (zS M' - zS M)⟩,
      ⟨X.admits, X.cas, X.clock, X.frames, X.room, X.hears, X.method, X.code, (X.here.setHeapUsed s₂.heap s₂.slotsUsed).setVm hW'.alike, X.tail, State.WarmedH.trans X.warmed hW', X.limits, X.bytes, X.same.trans (hsame.setVm s.vm)⟩,
      ⟨M', hqm, haft⟩, ?_⟩
    show Steps p.tables e below _ ((({ U with heap := s₂.heap, slotsUsed := s₂.slotsUsed } : State).setVm s₂.vm).setTop { g with pc := g.pc + len₂, stack := v.toList ++ g.stack })
    rw [← hs₂]
    exact hsteps
  | inr k =>
    obtain ⟨q, ce, rfl, hce, hcv, hcl⟩ := hok
    have hf₂ : s₂.frames = .throwing q :: .java g :: U.frames.tail := hend
    have hs₂ : s₂ = ((({ U with heap := s₂.heap, slotsUsed := s₂.slotsUsed } : State).setVm s₂.vm).setTop g).pushFrame (.throwing q) := by
      refine e3.trans ?_
      rw [hf₂, State.calling_eq h.top, State.setFrames_setFrames, State.pushFrame, State.frames_setTop _ hr', State.setTop_of_frames _ hr', State.setFrames_setFrames, hr]
      rfl
    subst hg
    refine Or.inr ⟨q, ⟨(({ U with heap := s₂.heap, slotsUsed := s₂.slotsUsed } : State).setVm s₂.vm), Ls ++ L, c0 + (zC M' - zC M), s0 + (zS M' - zS M)⟩,
      ⟨X.admits, X.cas, X.clock, X.frames, X.room, X.hears, X.method, X.code, (X.here.setHeapUsed s₂.heap s₂.slotsUsed).setVm hW'.alike, X.tail, State.WarmedH.trans X.warmed hW', X.limits, X.bytes, X.same.trans (hsame.setVm s.vm)⟩,
      ⟨k, M', ce, hqm, haft, hce, hcv, hcl⟩, ?_⟩
    show Steps p.tables e below _ (((({ U with heap := s₂.heap, slotsUsed := s₂.slotsUsed } : State).setVm s₂.vm).setTop g).pushFrame (.throwing q))
    rw [← hs₂]
    exact hsteps
end ZB
