/-! ===== THE CORE: one memory for the whole system, one judgement zw ('from here the method comes to Q'), its rows ===== -/
/-- fields of ints (field, address), fields of references, rows of ints, rows of references, rows of longs, the kind of each address (0: none; c + 1: an object of vwCl's class c; 14 byte[], 15 int[], 16 boolean[], 17 long[], 18 Level[], 19 Table[]), lengths, cells and slots made so far -/
abbrev zM : Type := (Nat → Nat → Int32) × (Nat → Nat → Option Nat) × (Nat → Nat → Int32) × (Nat → Nat → Option Nat) × (Nat → Nat → Int64) × (Nat → Nat) × (Nat → Nat) × Nat × Nat
def zI (M : zM) : Nat → Nat → Int32 := M.1
def zR (M : zM) : Nat → Nat → Option Nat := M.2.1
def zA (M : zM) : Nat → Nat → Int32 := M.2.2.1
def zB (M : zM) : Nat → Nat → Option Nat := M.2.2.2.1
def zJ (M : zM) : Nat → Nat → Int64 := M.2.2.2.2.1
def zK (M : zM) : Nat → Nat := M.2.2.2.2.2.1
def zN (M : zM) : Nat → Nat := M.2.2.2.2.2.2.1
def zC (M : zM) : Nat := M.2.2.2.2.2.2.2.1
def zS (M : zM) : Nat := M.2.2.2.2.2.2.2.2
def zput (M : zM) (f a : Nat) (v : Int32) : zM := (fun x y => if x = f ∧ y = a then v else zI M x y, M.2)
def zputR (M : zM) (f a : Nat) (v : Option Nat) : zM := (M.1, fun x y => if x = f ∧ y = a then v else zR M x y, M.2.2)
def zsetA (M : zM) (a : Nat) (g : Nat → Int32) : zM := (M.1, M.2.1, va_up (zA M) a g, M.2.2.2)
def zsetB (M : zM) (a : Nat) (g : Nat → Option Nat) : zM := (M.1, M.2.1, M.2.2.1, va_up (zB M) a g, M.2.2.2.2)
def zsetJ (M : zM) (a : Nat) (g : Nat → Int64) : zM := (M.1, M.2.1, M.2.2.1, M.2.2.2.1, va_up (zJ M) a g, M.2.2.2.2.2)
def znewO (M : zM) (a c n : Nat) : zM := (fun x y => if y = a then 0 else zI M x y, fun x y => if y = a then none else zR M x y, zA M, zB M, zJ M, va_up (zK M) a (c + 1), zN M, zC M + 1, zS M + n)
def znewA (M : zM) (a κ n : Nat) : zM := (zI M, zR M, va_up (zA M) a (fun _ => 0), va_up (zB M) a (fun _ => none), va_up (zJ M) a (fun _ => 0), va_up (zK M) a κ, va_up (zN M) a n, zC M + 1, zS M + n)
def zthr (M : zM) : zM := (zI M, zR M, zA M, zB M, zJ M, zK M, zN M, zC M + 1, zS M + 6)
-- the classes
def zRX (c : Nat) : String := match c with | 0 => RX0 | 1 => RX1 | 2 => RX2 | 3 => RX3 | 4 => RX4 | 5 => RX5 | 6 => RX6 | 7 => RX7 | 8 => RX8 | 9 => RX9 | 10 => RX10 | 11 => RX11 | _ => RX12
def zTX (c : Nat) : u_T := match c with | 0 => TX0 | 1 => TX1 | 2 => TX2 | 3 => TX3 | 4 => TX4 | 5 => TX5 | 6 => TX6 | 7 => TX7 | 8 => TX8 | 9 => TX9 | 10 => TX10 | 11 => TX11 | _ => TX12
def zty (c : Nat) : Nat → FieldType := match c with | 0 => tyX0 | 1 => tyX1 | 2 => tyX2 | 3 => tyX3 | 4 => tyX4 | 5 => tyX5 | 6 => tyX6 | 7 => tyX7 | 8 => tyX8 | 9 => tyX9 | 10 => tyX10 | 11 => tyX11 | _ => tyX12
def zn (c : Nat) : Nat := match c with | 0 => 5 | 1 => 8 | 2 => 8 | 3 => 7 | 4 => 6 | 5 => 7 | 6 => 2 | 7 => 5 | 8 => 5 | 9 => 1 | 10 => 8 | 11 => 18 | _ => 19
theorem zc_cases {P : Nat → Prop} (h0 : P 0) (h1 : P 1) (h2 : P 2) (h3 : P 3) (h4 : P 4) (h5 : P 5) (h6 : P 6) (h7 : P 7) (h8 : P 8) (h9 : P 9) (h10 : P 10) (h11 : P 11) (h12 : P 12) : ∀ c, c < 13 → P c := by
  intro c hc
  match c, hc with
  | 0, _ => exact h0
  | 1, _ => exact h1
  | 2, _ => exact h2
  | 3, _ => exact h3
  | 4, _ => exact h4
  | 5, _ => exact h5
  | 6, _ => exact h6
  | 7, _ => exact h7
  | 8, _ => exact h8
  | 9, _ => exact h9
  | 10, _ => exact h10
  | 11, _ => exact h11
  | 12, _ => exact h12
  | k + 13, h => omega
theorem zc_cl : ∀ c, c < 13 → vwCl[c]? = some (zRX c, zTX c, zn c) := zc_cases rfl rfl rfl rfl rfl rfl rfl rfl rfl rfl rfl rfl rfl
theorem zc_ty : ∀ c, c < 13 → ∀ k, k < zn c → parseFieldDescriptor (zTX c k).2.2.1 = some (zty c k) := zc_cases tyX0_ok tyX1_ok tyX2_ok tyX3_ok tyX4_ok tyX5_ok tyX6_ok tyX7_ok tyX8_ok tyX9_ok tyX10_ok tyX11_ok tyX12_ok
theorem zc_nm : ∀ c, c < 13 → ∀ a, a < zn c → ∀ b, b < zn c → a ≠ b → (zTX c a).2.1 ≠ (zTX c b).2.1 := zc_cases nmX0 nmX1 nmX2 nmX3 nmX4 nmX5 nmX6 nmX7 nmX8 nmX9 nmX10 nmX11 nmX12
theorem zc_own : ∀ c, c < 13 → ∀ k, k < zn c → (zTX c k).1 = zRX c := by
  refine zc_cases ?_ ?_ ?_ ?_ ?_ ?_ ?_ ?_ ?_ ?_ ?_ ?_ ?_ <;> decide +kernel
theorem zc_in : ∀ c, c < 13 → ∀ w ∈ u_ws (zRX c) (zTX c) (zn c), w ∈ lw_tbl := by
  refine zc_cases ?_ ?_ ?_ ?_ ?_ ?_ ?_ ?_ ?_ ?_ ?_ ?_ ?_ <;> decide +kernel
/-- words that hold on, however warm the tables get -/
def zgw : Cond → Bool
  | .fieldLinkNest _ _ _ _ _ _ => true
  | .methodLinkNest _ _ _ _ => true
  | .castable _ _ => true
  | .arrayOver (.object _) => true
  | .declares _ => true
  | w => goodWord w
theorem zgw_warm {w : Cond} (h : zgw w = true) {s U : State} (hW : s.WarmedH U.vm) (hz : va_Nw w s) : va_Nw w U := by
  unfold zgw at h
  split at h
  · exact va_Nw.warmF hW hz
  · exact va_Nw.warmM hW hz
  · exact va_Nw.warmC hW hz
  · exact va_AO.moved hW.alike hz
  · exact va_Nw.warmD hW hz
  · exact word_at hW (good_of_word h) hz
theorem zgw_use {w : Cond} (h : zgw w = true) {s : State} (hz : va_Nw w s) (a : Array Value) : w.before a s = true := by
  unfold zgw at h
  split at h
  · exact va_Nw.use rfl hz
  · exact va_Nw.use rfl hz
  · exact va_Nw.use rfl hz
  · exact hz
  · exact va_Nw.use rfl hz
  · exact word_at (State.WarmedH.refl s) (good_of_word h) hz
theorem zc_gw : ∀ c, c < 13 → ∀ w ∈ u_ws (zRX c) (zTX c) (zn c), zgw w = true := by
  refine zc_cases ?_ ?_ ?_ ?_ ?_ ?_ ?_ ?_ ?_ ?_ ?_ ?_ ?_ <;> decide +kernel
def zref (t : FieldType) : Bool := match t with | .array _ => true | .object _ => true | _ => false
def zfld (c : Nat) (M : zM) (a k : Nat) : Value := if zref (zty c k) = true then va_rf (zR M (c * 32 + k) a) else .int (zI M (c * 32 + k) a)
def zflds (c : Nat) (M : zM) (a : Nat) : List Value := (List.range (zn c)).map (zfld c M a)
/-- what stands at an address -/
def zE (ids : Nat → ClassId) (M : zM) (a : Nat) : va_E :=
  if zK M a = 14 then .inl (ids 0, zN M a, .inl (zA M a))
  else if zK M a = 15 then .inl (ids 1, zN M a, .inl (zA M a))
  else if zK M a = 16 then .inl (ids 2, zN M a, .inl (zA M a))
  else if zK M a = 17 then .inl (ids 3, zN M a, .inr (.inl (zJ M a)))
  else if zK M a = 18 then .inl (ids 4, zN M a, .inr (.inr (.inr (.inr (zB M a)))))
  else if zK M a = 19 then .inl (ids 5, zN M a, .inr (.inr (.inr (.inr (zB M a)))))
  else .inr (zK M a - 1, zflds (zK M a - 1) M a)
def zTys (ids : Nat → ClassId) : List (ClassId × FieldType) := [(ids 0, .byte), (ids 1, .int), (ids 2, .boolean), (ids 3, .long), (ids 4, .object RX4), (ids 5, .object RX8)]
/-- what is fixed while the law runs: the launch, the classes' numbers, the array classes, how large the heap was at the law's start, where LEVEL_FULL lies, the script, the String constants -/
abbrev zG : Type := Launch × va_G × (Nat → ClassId) × Nat × Nat × (Nat × Nat × (Nat → Int32)) × (Nat → Nat)
def gL (G : zG) : Launch := G.1
def gD (G : zG) : va_G := G.2.1
def gi (G : zG) : Nat → ClassId := G.2.2.1
def gh (G : zG) : Nat := G.2.2.2.1
def gf (G : zG) : Nat := G.2.2.2.2.1
def gb (G : zG) : Nat := G.2.2.2.2.2.1.1
def gn (G : zG) : Nat := G.2.2.2.2.2.1.2.1
def gx (G : zG) : Nat → Int32 := G.2.2.2.2.2.1.2.2
def gs (G : zG) : Nat → Nat := G.2.2.2.2.2.2
def gA (G : zG) : Nat → Prop := fun q => gh G ≤ q
def zlf : Nat → Int32 := fun j => if j = 0 then 10 else 25
/-- the String constants of the throws: class, entry, text -/
def zstr : List (String × Nat × String) := [(RX1, 44, "power failed"), (RX11, 97, "a key takes 0 to 8 bytes at once, 32 in all"), (RX11, 106, "a value takes 0 to 8 bytes at once, 200 in all"), (RX11, 117, "a batch is open"), (RX11, 144, "there are eight snapshots"), (RX11, 152, "no such snapshot"), (RX11, 184, "a byte's place is 0 to 200"), (RX11, 209, "when is 0 to 3, k 0 to 400, b 0 to 300"), (RX11, 236, "what is told is 0 to 7"), (RX11, 264, "it is off"), (RX11, 266, "no batch is open"), (RX11, 270, "the key is empty"), (RX11, 272, "the batch is full"), (RX11, 284, "the map would be larger than 16000"), (RX11, 290, "the disk is full")]
def zW (G : zG) (M : zM) (H : Heap) : Prop := ∃ L : List Nat, (∀ a, a ∈ L ↔ zK M a ≠ 0) ∧ va_P (gD G) vwCl (va_pl L (zE (gi G) M)) H ∧ va_D (gA G) (va_pl L (zE (gi G) M)) ∧ (∀ a i, zK M a = 14 → fits .byte (.int (zA M a i)) = true) ∧ ∀ a, zN M a < 2 ^ 31
def zex (k : Nat) : String := match k with | 0 => "java/lang/IllegalStateException" | 1 => "java/lang/IllegalArgumentException" | 2 => "java/lang/ArithmeticException" | _ => "java/util/NoSuchElementException"
/-- what holds of the tables and of the old heap, all the while -/
def zO (G : zG) (U : State) (H : Heap) : Prop :=
  (∀ w ∈ lw_tbl, zgw w = true → va_Nw w U) ∧ va_K (gD G) vwCl (zTys (gi G)) U ∧ va_Z "LsmStore" "LEVEL_FULL" "[I" (.ref (gf G)) (gA G) U H ∧
  va_X (gb G) (gn G) (gx G) U H ∧ va_X (gf G) 2 zlf U H ∧ vx_Zq Bundle.tN "UNASSIGNED_STACK" Bundle.steD (gA G) U H ∧ vx_Zq Bundle.tN "SUPPRESSED_SENTINEL" Bundle.listD (gA G) U H ∧
  (∀ (k : Nat) (q : String × Nat × String), zstr[k]? = some q → vk_R q.1 q.2.1 q.2.2 (gs G k) U) ∧ gh G ≤ H.size ∧ gb G < gh G ∧ gf G < gh G ∧ (gL G).stackTraces = false ∧ ∀ k j, k < 4 → j < 4 → k ≠ j → va_Nc (zex k) (zex j) U
theorem zO.moved {G : zG} {u U : State} {H H1 : Heap} (hW : u.WarmedH U.vm) (hq : H.size ≤ H1.size ∧ ∀ q : Nat, q < H.size → ¬ gA G q → H1[q]? = H[q]?) (h : zO G u H) : zO G U H1 := by
  obtain ⟨h1, h2, h3, h4, h5, h6, h7, h8, h9, h10, h11, h12⟩ := h
  have hvm := hW.alike
  refine ⟨fun w hw hg => zgw_warm hg hW (h1 w hw hg), va_K.moved hvm h2, va_Z.moved hvm (h3.kept hq.2), va_X.moved hvm (h4.kept (hq.2 _ (by omega) (Nat.not_le.mpr h10))), va_X.moved hvm (h5.kept (hq.2 _ (by omega) (Nat.not_le.mpr h11))), vx_Zq.moved hvm (h6.kept hq.2), vx_Zq.moved hvm (h7.kept hq.2), fun k q hk => vk_R.warm hW (h8 k q hk), by omega, h10, h11, h12.1, fun k j hk hj hn => va_Nc.moved hvm (h12.2 k j hk hj hn)⟩
/-- a method: its name, its code, its locals, what it returns, its table -/
abbrev zD : Type := MethodName × ByteArray × Nat × Option FieldType × List (Nat × Nat × Nat × Nat)
def zBd (G : zG) (md : zD) (p : Program) (s : State) (m : MethodId) (meth : Method) (c : Code) : Prop :=
  p.tables.exec = Jvm.exec ∧ c.code = md.2.1 ∧ meth.sig.returnType = md.2.2.2.1 ∧ meth.locks = false ∧ c.maxLocals = md.2.2.1 ∧ s.vm.findClass md.1.cls = some m.cls ∧ meth.name = md.1.name ∧ c.exceptionTable.toList = tableOf md.2.2.2.2 ∧ zO G s s.heap
def zlv (ls : Array Slot) (n : Nat) (lv : List (Option Value)) : Prop := ls.size = n ∧ lv_wf ls ∧ ∀ (i : Nat) (v : Value), lv[i]? = some (some v) → ls[i]? = some (.val v)
/-- how a method ends: it returns, or throws an exception of a class -/
abbrev zOut : Type := Option Value ⊕ Nat
def zOk (s : State) (r : zOut) (o : Outcome) (t : State) : Prop := match r with
  | .inl v => o = .returned v
  | .inr k => ∃ (q : Addr) (ce : Cell), o = .threw q ∧ t.heap[q]? = some ce ∧ ce.vm = .none ∧ s.vm.findClass (zex k) = some ce.cls
def zQ (G : zG) (k0 n0 : Nat) (Q : zOut → zM → Prop) (s : State) (o : Outcome) (t : State) : Prop :=
  ∃ (r : zOut) (M' : zM) (Ls : List Loc), zOk s r o t ∧ Q r M' ∧ zW G M' t.heap ∧ k0 ≤ zC M' ∧ n0 ≤ zS M' ∧ s.WarmedH t.vm ∧ s.sameButNew ({ t with vm := s.vm } : State) Ls (zC M' - k0) (zS M' - n0) ∧ ∀ z ∈ Ls, gh G ≤ z.base
def zZ (G : zG) (k0 n0 : Nat) (Q : zOut → zM → Prop) (below : List Frame) (s : State) : State → Prop := fun t => ∃ o, t.status = .running ∧ Ended t below o ∧ zQ G k0 n0 Q s o t
/-- FROM HERE (program counter, locals, operand stack, memory) THE METHOD COMES TO Q -/
def zw (G : zG) (md : zD) (d k0 n0 : Nat) (Q : zOut → zM → Prop) (pc : Nat) (lv : List (Option Value)) (st : List Value) (M : zM) : Prop :=
  ∀ (p : Program) (e : Env) (R : Room) (s : State) (m : MethodId) (args : Array Value) (below : List Frame) (meth : Method) (c : Code) (H : Heap) (locs : List Loc) (ls : Array Slot),
    zBd G md p s m meth c → (d ≤ R.frames ∧ 38 * d ≤ R.locals ∧ 600128 ≤ k0 + R.cells ∧ 7301098 ≤ n0 + R.slots) → (k0 ≤ zC M ∧ n0 ≤ zS M) → zW G M H → va_S (gA G) s.heap H locs → zlv ls md.2.2.1 lv →
    W p (gL G) e R s m args below meth c H locs (zC M - k0) (zS M - n0) (zZ G k0 n0 Q below s) (F0 m pc ls st)
