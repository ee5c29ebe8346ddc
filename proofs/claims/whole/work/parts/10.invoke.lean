/-! ===== ROWS of zw: calls and throws ===== -/
/-- a method that can be called: its words stand in the tables; n: how many arguments -/
def zmOk (md : zD) (n : Nat) : Prop := zcode md ∈ lw_tbl ∧ zgw (zcode md) = true ∧ Cond.initialized md.1.cls ∈ lw_tbl ∧ (md.1.cls ≠ "java/lang/invoke/MethodHandle" ∧ md.1.cls ≠ "java/lang/invoke/VarHandle") ∧ (parseMethodDescriptor md.1.desc).map (fun d => d.parameters.length) = some n ∧ md.2.2.1 ≤ 19
theorem zmOk.len {md : zD} {n : Nat} (h : zmOk md n) : ∀ sig, parseMethodDescriptor md.1.desc = some sig → n = sig.parameters.length := fun sig h9 => by
  have h2 := h.2.2.2.2.1
  rw [h9] at h2
  exact (Option.some.inj h2).symm
section ZV
variable {G : zG} {md : zD} {d k0 n0 : Nat} {Q : zOut → zM → Prop} {pc : Nat} {lv : List (Option Value)} {st : List Value} {M : zM}
/-- an exception of class k stands over the frame at pc -/
def zt (G : zG) (md : zD) (d k0 n0 : Nat) (Q : zOut → zM → Prop) (pc : Nat) (lv : List (Option Value)) (k : Nat) (M : zM) : Prop :=
  ∀ (p : Program) (e : Env) (R : Room) (s : State) (m : MethodId) (args : Array Value) (below : List Frame) (meth : Method) (c : Code) (H : Heap) (locs : List Loc) (ls : Array Slot) (st : List Value) (q : Addr) (ce : Cell),
    zBd G md p s m meth c → (d ≤ R.frames ∧ 38 * d ≤ R.locals ∧ 600128 ≤ k0 + R.cells ∧ 7301098 ≤ n0 + R.slots) → (k0 ≤ zC M ∧ n0 ≤ zS M) → zW G M H → va_S (gA G) s.heap H locs → zlv ls md.2.2.1 lv → H[q]? = some ce → ce.vm = .none → s.vm.findClass (zex k) = some ce.cls →
    vx_W p (gL G) e R s m args below meth c H locs (zC M - k0) (zS M - n0) (zZ G k0 n0 Q below s) (F0 m pc ls st) q
theorem zt_out {k : Nat} (hh : md.2.2.2.2 = []) (hq : Q (.inr k) M) : zt G md d k0 n0 Q pc lv k M := by
  intro p e R s m args below meth c H locs ls st q ce B hr hm hw hS hl hce hcv hcl T hT X
  obtain ⟨st1, hrun, hend, hW, hsm⟩ := X.leaveThrown q (g := F0 m pc ls st) rfl rfl rfl (fun x hx => by rw [B.2.2.2.2.2.2.2.1, hh] at hx; cases hx) B.2.2.2.1
  refine ⟨_, st1, .threw q, hrun, hend, .inr k, M, locs, ⟨q, ce, rfl, ?_, hcv, hcl⟩, hq, ?_, hm.1, hm.2, hW, hsm, hS.2.2⟩
  · show T.heap[q]? = some ce
    rw [hT]; exact hce
  · show zW G M T.heap
    rw [hT]; exact hw
theorem zpre {p : Program} {R : Room} {s : State} {m : MethodId} {meth : Method} {c : Code} {H : Heap} {locs : List Loc} {As : List Value} (B : zBd G md p s m meth c) (hr : d ≤ R.frames ∧ 38 * d ≤ R.locals ∧ 600128 ≤ k0 + R.cells ∧ 7301098 ≤ n0 + R.slots) (hm : k0 ≤ zC M ∧ n0 ≤ zS M) (hb : zC M ≤ 600128 ∧ zS M ≤ 7301098) (hw : zW G M H) (hS : va_S (gA G) s.heap H locs) {T : State} (hT : T.heap = H) :
    ∀ vm₁, s.WarmedH vm₁ → zPre G R As M ⟨T.setVm vm₁, locs, zC M - k0, zS M - n0⟩ As.toArray := by
  intro vm₁ hW₁
  refine ⟨by show zC M - k0 + (600128 - zC M) ≤ R.cells; omega, by show zS M - n0 + (7301098 - zS M) ≤ R.slots; omega, rfl, ?_, ?_⟩
  · refine zO.moved (u := s) (H := s.heap) hW₁ ⟨?_, ?_⟩ B.2.2.2.2.2.2.2.2
    · show s.heap.size ≤ T.heap.size
      rw [hT]; exact hS.1
    · show ∀ q : Nat, q < s.heap.size → ¬ gA G q → T.heap[q]? = s.heap[q]?
      rw [hT]; exact hS.2.1
  · show zW G M T.heap
    rw [hT]; exact hw
theorem zaft {p : Program} {s : State} {m : MethodId} {meth : Method} {c : Code} {H : Heap} {locs : List Loc} {M' : zM} {A B9 : Pt} (hm : k0 ≤ zC M ∧ n0 ≤ zS M) (hS : va_S (gA G) s.heap H locs) (hA : A.U.heap = H) (hAl : A.locs = locs) (hAc : A.cells = zC M - k0) (hAs : A.slots = zS M - n0) (h : zAft G M M' A B9) :
    (k0 ≤ zC M' ∧ n0 ≤ zS M') ∧ zW G M' B9.U.heap ∧ va_S (gA G) s.heap B9.U.heap B9.locs ∧ B9.cells = zC M' - k0 ∧ B9.slots = zS M' - n0 := by
  obtain ⟨h1, h2, h3, ⟨Ls, h4, h5⟩, h6, h7, h8, h9⟩ := h
  rw [hA] at h8 h9
  refine ⟨⟨by omega, by omega⟩, h1, ⟨Nat.le_trans hS.1 h8, fun q hq hn => ?_, fun l hl => ?_⟩, by omega, by omega⟩
  · rw [h9 q (Nat.lt_of_lt_of_le hq hS.1) hn]
    exact hS.2.1 q hq hn
  · rw [h4, hAl] at hl
    rcases List.mem_append.mp hl with h | h
    · exact hS.2.2 l h
    · exact h5 l h
theorem zr_callV {md' : zD} {d' idx c a n : Nat} {As : List Value} {Q' : zOut → zM → Prop} (hd : decode md.2.1 pc = .ok (.invokevirtual idx, 3)) (hlk : Cond.methodLink md.1.cls idx md'.1 ∈ lw_tbl) (hok : zmOk md' n) (hnil : md'.2.2.2.2 = []) (hin : Cond.instanceMethod md'.1 ∈ lw_tbl) (hsel : Cond.selects (zRX c) md'.1 md'.1 ∈ lw_tbl) (hc : c < 13) (hK : zK M a = c + 1)
    (hn : As.length = n) (hdep : d' + 1 ≤ d) (hst : (st.map fun v => v.category).sum ≤ 8) (hb : zC M ≤ 600128 ∧ zS M ≤ 7301098) (hM : zMet G md' d' (.ref a :: As) M Q') (kx : ∀ k M', Q' (.inr k) M' → zt G md d k0 n0 Q pc lv k M') (kk : ∀ v M', Q' (.inl v) M' → zw G md d k0 n0 Q (pc + 3) lv (v.toList ++ st) M') : zw G md d k0 n0 Q pc lv (As.reverse ++ .ref a :: st) M := by
  intro p e R s m args below meth c9 H locs ls B hr hm hw hS hl T hT X
  have hO := B.2.2.2.2.2.2.2.2
  have hw0 := hw
  obtain ⟨L, hL, hP, hD, hF, hN⟩ := hw0
  obtain ⟨q, hq⟩ := zat (f := zE (gi G) M) ((hL a).mpr (by omega))
  rw [zE_obj hK hc] at hq
  obtain ⟨r, g1, cell, g2, g3, g4, g5⟩ := hP q _ hq
  have hr9 : r = (zRX c, zTX c, zn c) := Option.some.inj (g1.symm.trans (zc_cl c hc))
  subst hr9
  obtain ⟨hSl, hfc, kC, hkC, hkind⟩ := hO.2.1.1 c _ (zc_cl c hc)
  have hback := z_back (R := R) (p := p) (e := e) (below := below) (s := s) (sargs := args) (len := 3) (W9 := 8) hM (by omega) (by have := hok.2.2.2.2.2; omega) (fun a' U hW => zgw_use hok.2.1 (zgw_warm hok.2.1 hW (hO.1 _ hok.1 hok.2.1)) a') (fun a' U hW => zgw_use rfl (zgw_warm rfl hW (hO.1 _ hok.2.2.1 rfl)) a')
  have hcode : (Cond.code md'.1 md'.2.1 md'.2.2.1 md'.2.2.2.1).before args s = true := by
    have := zgw_use hok.2.1 (hO.1 _ hok.1 hok.2.1) args
    unfold zcode at this
    rw [hnil] at this
    exact this
  rcases vx_callV X B.1 (C := zRX c) B.2.2.2.2.2.1 (zgw_use rfl (hO.1 _ hlk rfl) args) (zgw_use rfl (hO.1 _ hin rfl) args) (zgw_use rfl (hO.1 _ hsel rfl) args) hcode hok.2.2.2.1 hback (b := a) (cellB := cell) (by rw [hT]; exact g2) (by rw [g4]; rfl) (by rw [g3]; exact hfc) (g := F0 m pc ls (As.reverse ++ .ref a :: st)) rfl (by show ls.size = _; rw [hl.1, B.2.2.2.2.1]) (argsL := As) (rest := st) (fun sig h => hn.trans (hok.len sig h)) rfl (lv_room hst) (by rw [B.2.1]; exact hd) (zpre B hr hm hb hw hS hT) with ⟨v, vm₁, B9, hW₁, X', ⟨M', hq', haft⟩, hsteps⟩ | ⟨q9, vm₁, B9, hW₁, X', ⟨k, M', ce, hq', haft, hce, hcv, hcl⟩, hsteps⟩
  · obtain ⟨z1, z2, z3, z4, z5⟩ := zaft (p := p) (m := m) (meth := meth) (c := c9) hm hS (show (T.setVm vm₁).heap = H from hT) rfl rfl rfl haft
    rw [z4, z5] at X'
    obtain ⟨t, a1, b1⟩ := kk v M' hq' p e R s m args below meth c9 B9.U.heap B9.locs ls B hr z1 z2 z3 hl B9.U rfl X'
    exact ⟨t, hsteps t a1, b1⟩
  · obtain ⟨z1, z2, z3, z4, z5⟩ := zaft (p := p) (m := m) (meth := meth) (c := c9) hm hS (show (T.setVm vm₁).heap = H from hT) rfl rfl rfl haft
    rw [z4, z5] at X'
    obtain ⟨t, a1, b1⟩ := kx k M' hq' p e R s m args below meth c9 B9.U.heap B9.locs ls st q9 ce B hr z1 z2 z3 hl hce hcv (vx_cls hW₁ hcl) B9.U rfl X'
    exact ⟨t, hsteps.trans a1, b1⟩
theorem zr_callS {md' : zD} {d' idx n : Nat} {As : List Value} {Q' : zOut → zM → Prop} (hd : decode md.2.1 pc = .ok (.invokestatic idx, 3)) (hlk : Cond.methodLink md.1.cls idx md'.1 ∈ lw_tbl) (hok : zmOk md' n) (hnil : md'.2.2.2.2 = []) (hin : Cond.static md'.1 ∈ lw_tbl)
    (hn : As.length = n) (hdep : d' + 1 ≤ d) (hst : (st.map fun v => v.category).sum ≤ 8) (hb : zC M ≤ 600128 ∧ zS M ≤ 7301098) (hM : zMet G md' d' As M Q') (kx : ∀ k M', Q' (.inr k) M' → zt G md d k0 n0 Q pc lv k M') (kk : ∀ v M', Q' (.inl v) M' → zw G md d k0 n0 Q (pc + 3) lv (v.toList ++ st) M') : zw G md d k0 n0 Q pc lv (As.reverse ++ st) M := by
  intro p e R s m args below meth c9 H locs ls B hr hm hw hS hl T hT X
  have hO := B.2.2.2.2.2.2.2.2
  have hback := z_back (R := R) (p := p) (e := e) (below := below) (s := s) (sargs := args) (len := 3) (W9 := 8) hM (by omega) (by have := hok.2.2.2.2.2; omega) (fun a' U hW => zgw_use hok.2.1 (zgw_warm hok.2.1 hW (hO.1 _ hok.1 hok.2.1)) a') (fun a' U hW => zgw_use rfl (zgw_warm rfl hW (hO.1 _ hok.2.2.1 rfl)) a')
  have hcode : (Cond.code md'.1 md'.2.1 md'.2.2.1 md'.2.2.2.1).before args s = true := by
    have := zgw_use hok.2.1 (hO.1 _ hok.1 hok.2.1) args
    unfold zcode at this
    rw [hnil] at this
    exact this
  rcases vx_callS X B.1 B.2.2.2.2.2.1 (zgw_use rfl (hO.1 _ hlk rfl) args) (zgw_use rfl (hO.1 _ hin rfl) args) (zgw_use rfl (hO.1 _ hok.2.2.1 rfl) args) hcode hok.2.2.2.1 hback (g := F0 m pc ls (As.reverse ++ st)) rfl (by show ls.size = _; rw [hl.1, B.2.2.2.2.1]) (argsL := As) (rest := st) (fun sig h => hn.trans (hok.len sig h)) rfl (lv_room hst) (by rw [B.2.1]; exact hd) (zpre B hr hm hb hw hS hT) with ⟨v, vm₁, B9, hW₁, X', ⟨M', hq', haft⟩, hsteps⟩ | ⟨q9, vm₁, B9, hW₁, X', ⟨k, M', ce, hq', haft, hce, hcv, hcl⟩, hsteps⟩
  · obtain ⟨z1, z2, z3, z4, z5⟩ := zaft (p := p) (m := m) (meth := meth) (c := c9) hm hS (show (T.setVm vm₁).heap = H from hT) rfl rfl rfl haft
    rw [z4, z5] at X'
    obtain ⟨t, a1, b1⟩ := kk v M' hq' p e R s m args below meth c9 B9.U.heap B9.locs ls B hr z1 z2 z3 hl B9.U rfl X'
    exact ⟨t, hsteps t a1, b1⟩
  · obtain ⟨z1, z2, z3, z4, z5⟩ := zaft (p := p) (m := m) (meth := meth) (c := c9) hm hS (show (T.setVm vm₁).heap = H from hT) rfl rfl rfl haft
    rw [z4, z5] at X'
    obtain ⟨t, a1, b1⟩ := kx k M' hq' p e R s m args below meth c9 B9.U.heap B9.locs ls st q9 ce B hr z1 z2 z3 hl hce hcv (vx_cls hW₁ hcl) B9.U rfl X'
    exact ⟨t, hsteps.trans a1, b1⟩
/-- a callee that never throws -/
theorem z_backR {R : Room} {p : Program} {e : Env} {below : List Frame} {s : State} {sargs : Array Value} {y : MethodName} {len W9 : Nat} {l : Launch} {Pre : Pt → Array Value → Prop} {Post : Pt → Array Value → Option Value → Pt → Prop} {PostX : Pt → Array Value → Addr → Pt → Prop} (h : vx_Back l R p e below s sargs y len W9 Pre Post PostX) (hx : ∀ A a q B, ¬ PostX A a q B) : Back l R p e below s sargs y len W9 Pre Post := by
  intro m meth c A g ig mk a X hg hsize hdg hW hn hp
  rcases h m meth c A g ig mk a X hg hsize hdg hW hn hp with h1 | ⟨q, B, -, h1, -⟩
  · exact h1
  · exact absurd h1 (hx _ _ _ _)
/-- a private method of a nest mate -/
theorem zr_callVN {md' : zD} {d' idx c a n : Nat} {As : List Value} {Q' : zOut → zM → Prop} (hd : decode md.2.1 pc = .ok (.invokevirtual idx, 3)) (hlk : Cond.methodLinkNest md.1.cls idx md'.1 "LsmStore" ∈ lw_tbl) (hok : zmOk md' n) (hnil : md'.2.2.2.2 = []) (hin : Cond.instanceMethod md'.1 ∈ lw_tbl) (hsel : Cond.selects (zRX c) md'.1 md'.1 ∈ lw_tbl) (hc : c < 13) (hK : zK M a = c + 1)
    (hn : As.length = n) (hdep : d' + 1 ≤ d) (hst : (st.map fun v => v.category).sum ≤ 8) (hb : zC M ≤ 600128 ∧ zS M ≤ 7301098) (hM : zMet G md' d' (.ref a :: As) M Q') (kx : ∀ k M', ¬ Q' (.inr k) M') (kk : ∀ v M', Q' (.inl v) M' → zw G md d k0 n0 Q (pc + 3) lv (v.toList ++ st) M') : zw G md d k0 n0 Q pc lv (As.reverse ++ .ref a :: st) M := by
  intro p e R s m args below meth c9 H locs ls B hr hm hw hS hl T hT X
  have hO := B.2.2.2.2.2.2.2.2
  have hw0 := hw
  obtain ⟨L, hL, hP, hD, hF, hN⟩ := hw0
  obtain ⟨q, hq⟩ := zat (f := zE (gi G) M) ((hL a).mpr (by omega))
  rw [zE_obj hK hc] at hq
  obtain ⟨r, g1, cell, g2, g3, g4, g5⟩ := hP q _ hq
  have hr9 : r = (zRX c, zTX c, zn c) := Option.some.inj (g1.symm.trans (zc_cl c hc))
  subst hr9
  obtain ⟨hSl, hfc, kC, hkC, hkind⟩ := hO.2.1.1 c _ (zc_cl c hc)
  have hback := z_backR (z_back (R := R) (p := p) (e := e) (below := below) (s := s) (sargs := args) (len := 3) (W9 := 8) hM (by omega) (by have := hok.2.2.2.2.2; omega) (fun a' U hW => zgw_use hok.2.1 (zgw_warm hok.2.1 hW (hO.1 _ hok.1 hok.2.1)) a') (fun a' U hW => zgw_use rfl (zgw_warm rfl hW (hO.1 _ hok.2.2.1 rfl)) a')) (fun A a q B h => by obtain ⟨k, M', ce, h1, -⟩ := h; exact kx k M' h1)
  have hcode : (Cond.code md'.1 md'.2.1 md'.2.2.1 md'.2.2.2.1).before args s = true := by
    have := zgw_use hok.2.1 (hO.1 _ hok.1 hok.2.1) args
    unfold zcode at this
    rw [hnil] at this
    exact this
  obtain ⟨v, vm₁, B9, hW₁, X', ⟨M', hq', haft⟩, hsteps⟩ := va_callVN X B.1 (C := zRX c) B.2.2.2.2.2.1 (zgw_use rfl (hO.1 _ hlk rfl) args) (zgw_use rfl (hO.1 _ hin rfl) args) (zgw_use rfl (hO.1 _ hsel rfl) args) hcode hok.2.2.2.1 hback (b := a) (cellB := cell) (by rw [hT]; exact g2) (by rw [g4]; rfl) (by rw [g3]; exact hfc) (g := F0 m pc ls (As.reverse ++ .ref a :: st)) rfl (by show ls.size = _; rw [hl.1, B.2.2.2.2.1]) (argsL := As) (rest := st) (fun sig h => hn.trans (hok.len sig h)) rfl (lv_room hst) (by rw [B.2.1]; exact hd) (zpre B hr hm hb hw hS hT)
  obtain ⟨z1, z2, z3, z4, z5⟩ := zaft (p := p) (m := m) (meth := meth) (c := c9) hm hS (show (T.setVm vm₁).heap = H from hT) rfl rfl rfl haft
  rw [z4, z5] at X'
  obtain ⟨t, a1, b1⟩ := kk v M' hq' p e R s m args below meth c9 B9.U.heap B9.locs ls B hr z1 z2 z3 hl B9.U rfl X'
  exact ⟨t, hsteps t a1, b1⟩
/-- a constructor -/
theorem zr_callI {md' : zD} {d' idx a n : Nat} {As : List Value} {Q' : zOut → zM → Prop} (hd : decode md.2.1 pc = .ok (.invokespecial idx, 3)) (hlk : Cond.methodLink md.1.cls idx md'.1 ∈ lw_tbl ∨ Cond.methodLinkNest md.1.cls idx md'.1 "LsmStore" ∈ lw_tbl) (hok : zmOk md' n) (hnil : md'.2.2.2.2 = []) (hret : md'.2.2.2.1 = none) (hnm : md'.1.name = "<init>") (hin : Cond.instanceMethod md'.1 ∈ lw_tbl)
    (hn : As.length = n) (hdep : d' + 1 ≤ d) (hst : (st.map fun v => v.category).sum ≤ 8) (hb : zC M ≤ 600128 ∧ zS M ≤ 7301098) (hM : zMet G md' d' (.ref a :: As) M Q') (kx : ∀ k M', ¬ Q' (.inr k) M') (kk : ∀ v M', Q' (.inl v) M' → zw G md d k0 n0 Q (pc + 3) lv (v.toList ++ st) M') : zw G md d k0 n0 Q pc lv (As.reverse ++ .ref a :: st) M := by
  intro p e R s m args below meth c9 H locs ls B hr hm hw hS hl T hT X
  have hO := B.2.2.2.2.2.2.2.2
  have hback := z_backR (z_back (R := R) (p := p) (e := e) (below := below) (s := s) (sargs := args) (len := 3) (W9 := 8) hM (by omega) (by have := hok.2.2.2.2.2; omega) (fun a' U hW => zgw_use hok.2.1 (zgw_warm hok.2.1 hW (hO.1 _ hok.1 hok.2.1)) a') (fun a' U hW => zgw_use rfl (zgw_warm rfl hW (hO.1 _ hok.2.2.1 rfl)) a')) (fun A a q B h => by obtain ⟨k, M', ce, h1, -⟩ := h; exact kx k M' h1)
  have hcode : (Cond.code md'.1 md'.2.1 md'.2.2.1 none).before args s = true := by
    have := zgw_use hok.2.1 (hO.1 _ hok.1 hok.2.1) args
    unfold zcode at this
    rw [hnil, hret] at this
    exact this
  have fin : ∀ (v : Option Value) (vm₁ : Vm) (B9 : Pt), Stand p (gL G) e R s m args below meth c9 B9.U B9.locs B9.cells B9.slots → zPost G M Q' ⟨T.setVm vm₁, locs, zC M - k0, zS M - n0⟩ (Value.ref a :: As).toArray v B9 → (∀ target, Steps p.tables e below (B9.U.setTop { (F0 m pc ls (As.reverse ++ .ref a :: st)) with pc := pc + 3, stack := v.toList ++ st }) target → Steps p.tables e below (T.setTop (F0 m pc ls (As.reverse ++ .ref a :: st))) target) → ∃ t, Steps p.tables e below (T.setTop (F0 m pc ls (As.reverse ++ .ref a :: st))) t ∧ zZ G k0 n0 Q below s t := by
    intro v vm₁ B9 X' ⟨M', hq', haft⟩ hsteps
    obtain ⟨z1, z2, z3, z4, z5⟩ := zaft (p := p) (m := m) (meth := meth) (c := c9) hm hS (show (T.setVm vm₁).heap = H from hT) rfl rfl rfl haft
    rw [z4, z5] at X'
    obtain ⟨t, a1, b1⟩ := kk v M' hq' p e R s m args below meth c9 B9.U.heap B9.locs ls B hr z1 z2 z3 hl B9.U rfl X'
    exact ⟨t, hsteps t a1, b1⟩
  rcases hlk with hlk | hlk
  · obtain ⟨v, vm₁, B9, hW₁, X', hpost, hsteps⟩ := callI X B.1 B.2.2.2.2.2.1 hnm (zgw_use rfl (hO.1 _ hlk rfl) args) (zgw_use rfl (hO.1 _ hin rfl) args) hcode hok.2.2.2.1 hback (g := F0 m pc ls (As.reverse ++ .ref a :: st)) rfl (by show ls.size = _; rw [hl.1, B.2.2.2.2.1]) (a := a) (argsL := As) (rest := st) (fun sig h => hn.trans (hok.len sig h)) rfl (lv_room hst) (by rw [B.2.1]; exact hd) (zpre B hr hm hb hw hS hT)
    exact fin v vm₁ B9 X' hpost hsteps
  · obtain ⟨v, vm₁, B9, hW₁, X', hpost, hsteps⟩ := va_callIN X B.1 B.2.2.2.2.2.1 hnm (zgw_use rfl (hO.1 _ hlk rfl) args) (zgw_use rfl (hO.1 _ hin rfl) args) hcode hok.2.2.2.1 hback (g := F0 m pc ls (As.reverse ++ .ref a :: st)) rfl (by show ls.size = _; rw [hl.1, B.2.2.2.2.1]) (a := a) (argsL := As) (rest := st) (fun sig h => hn.trans (hok.len sig h)) rfl (lv_room hst) (by rw [B.2.1]; exact hd) (zpre B hr hm hb hw hS hT)
    exact fin v vm₁ B9 X' hpost hsteps
/-- a static method with a table of its own, that never throws -/
theorem zr_callSW {md' : zD} {d' idx n : Nat} {As : List Value} {Q' : zOut → zM → Prop} (hd : decode md.2.1 pc = .ok (.invokestatic idx, 3)) (hlk : Cond.methodLink md.1.cls idx md'.1 ∈ lw_tbl) (hok : zmOk md' n) (hcons : md'.2.2.2.2 ≠ []) (hin : Cond.static md'.1 ∈ lw_tbl)
    (hn : As.length = n) (hdep : d' + 1 ≤ d) (hst : (st.map fun v => v.category).sum ≤ 8) (hb : zC M ≤ 600128 ∧ zS M ≤ 7301098) (hM : zMet G md' d' As M Q') (kx : ∀ k M', ¬ Q' (.inr k) M') (kk : ∀ v M', Q' (.inl v) M' → zw G md d k0 n0 Q (pc + 3) lv (v.toList ++ st) M') : zw G md d k0 n0 Q pc lv (As.reverse ++ st) M := by
  intro p e R s m args below meth c9 H locs ls B hr hm hw hS hl T hT X
  have hO := B.2.2.2.2.2.2.2.2
  have hback := z_backR (z_back (R := R) (p := p) (e := e) (below := below) (s := s) (sargs := args) (len := 3) (W9 := 8) hM (by omega) (by have := hok.2.2.2.2.2; omega) (fun a' U hW => zgw_use hok.2.1 (zgw_warm hok.2.1 hW (hO.1 _ hok.1 hok.2.1)) a') (fun a' U hW => zgw_use rfl (zgw_warm rfl hW (hO.1 _ hok.2.2.1 rfl)) a')) (fun A a q B h => by obtain ⟨k, M', ce, h1, -⟩ := h; exact kx k M' h1)
  have hcode : (Cond.codeWith md'.1 md'.2.1 md'.2.2.1 md'.2.2.2.1 md'.2.2.2.2).before args s = true := by
    have := zgw_use hok.2.1 (hO.1 _ hok.1 hok.2.1) args
    unfold zcode at this
    split at this
    · rename_i e9; exact absurd e9 hcons
    · rename_i e9; rw [e9]; exact this
  obtain ⟨v, vm₁, B9, hW₁, X', ⟨M', hq', haft⟩, hsteps⟩ := vx_callSW X B.1 B.2.2.2.2.2.1 (zgw_use rfl (hO.1 _ hlk rfl) args) (zgw_use rfl (hO.1 _ hin rfl) args) (zgw_use rfl (hO.1 _ hok.2.2.1 rfl) args) hcode hok.2.2.2.1 hback (g := F0 m pc ls (As.reverse ++ st)) rfl (by show ls.size = _; rw [hl.1, B.2.2.2.2.1]) (argsL := As) (rest := st) (fun sig h => hn.trans (hok.len sig h)) rfl (lv_room hst) (by rw [B.2.1]; exact hd) (zpre B hr hm hb hw hS hT)
  obtain ⟨z1, z2, z3, z4, z5⟩ := zaft (p := p) (m := m) (meth := meth) (c := c9) hm hS (show (T.setVm vm₁).heap = H from hT) rfl rfl rfl haft
  rw [z4, z5] at X'
  obtain ⟨t, a1, b1⟩ := kk v M' hq' p e R s m args below meth c9 B9.U.heap B9.locs ls B hr z1 z2 z3 hl B9.U rfl X'
  exact ⟨t, hsteps t a1, b1⟩
end ZV
