/-! ===== LsmStore: recount, digest ===== -/
theorem VsL.len {D : Nat → Int32} {P : List Nat} {w : Nat} : ∀ {j : Nat} {L : Mp}, VsL D P w j L → L.length ≤ j
  | 0, L, h => by cases h; exact Nat.le_refl _
  | j + 1, L, h => by
    obtain ⟨L0, h0, h1⟩ := h
    have := VsL.len h0
    rcases h1 with ⟨-, x, -, rfl⟩ | ⟨-, rfl⟩
    · rw [List.length_append, List.length_singleton]; omega
    · omega
/-- the next row that is seen, or none: and what was seen before it -/
def Nx (D : Nat → Int32) (P : List Nat) (w : Nat) (x : Option Nat) (L : Mp) : Prop := (∀ j, x = some j → Vis D P w j ∧ VsL D P w j L) ∧ (x = none → VsL D P w P.length L)
theorem vis_len {D : Nat → Int32} {P : List Nat} {w j : Nat} (h : Vis D P w j) : j < P.length := by
  obtain ⟨x, hx, -⟩ := h
  exact (List.getElem?_eq_some_iff.mp hx).1
theorem Nx.of {D : Nat → Int32} {P : List Nat} {w a : Nat} {x : Option Nat} {L : Mp} (h : VsL D P w a L) (ha : a ≤ P.length) (h1 : ∀ j, x = some j → a ≤ j ∧ Vis D P w j ∧ ∀ i, a ≤ i → i < j → ¬ Vis D P w i) (h2 : x = none → ∀ j, a ≤ j → ¬ Vis D P w j) : Nx D P w x L := by
  refine ⟨fun j hj => ?_, fun hn => ?_⟩
  · obtain ⟨b1, b2, b3⟩ := h1 j hj
    refine ⟨b2, ?_⟩
    have := h.skip (j - a) (fun i c1 c2 => b3 i c1 (by omega))
    rw [show a + (j - a) = j by omega] at this
    exact this
  · have := h.skip (P.length - a) (fun i c1 _ => h2 hn i c1)
    rw [show a + (P.length - a) = P.length by omega] at this
    exact this
theorem eln_len (D : Nat → Int32) (p : Nat) : eln D p = 8 + (eky D p).length + (eva D p).length := by
  unfold eln eky eva
  rw [rwl_len, rwl_len]
/-- a digest of bytes, of an entry, of a map -/
def lfo (l : List Nat) (a : Int64) : Int64 := l.foldl (fun h b => h * 31 + Int32.toInt64 (nI b)) a
def mxE (a : List Nat × List Nat) (h : Int64) : Int64 := lfo a.2 (lfo a.1 (h * 31 + Int32.toInt64 (nI a.1.length)) * 31 + Int32.toInt64 (nI a.2.length))
def dgs (m : Mp) : Int64 := m.foldl (fun h a => mxE a h) 7
theorem zmf_lfo (D : Nat → Int32) (s : Nat) (a : Int64) : ∀ n, zmf D s a n = lfo (rwl (fun i => D (s + i)) n) a
  | 0 => rfl
  | n + 1 => by
    rw [rwl_snoc]
    unfold lfo
    rw [List.foldl_append]
    show zmf D s a n * 31 + Int32.toInt64 (nI (zb (D (s + n)))) = _
    rw [zmf_lfo D s a n]
    rfl
theorem zmx_mx (D : Nat → Int32) (p : Nat) (h : Int64) : zmx D p h = mxE (eky D p, eva D p) h := by
  unfold zmx mxE
  rw [zmf_lfo, zmf_lfo]
  show lfo (eva D p) (lfo (eky D p) _ * 31 + _) = _
  have e1 : (eky D p).length = ekl D p := rwl_len _ _
  have e2 : (eva D p).length = evl D p := rwl_len _ _
  dsimp only
  rw [e1, e2]
theorem dgs_snoc (m : Mp) (a : List Nat × List Nat) : dgs (m ++ [a]) = mxE a (dgs m) := by
  unfold dgs
  rw [List.foldl_append]
  rfl
theorem msz_snoc (m : Mp) (a : List Nat × List Nat) : msz (m ++ [a]) = msz m + (8 + a.1.length + a.2.length) := by
  rw [msz_append, msz_cons]
  rfl
set_option maxRecDepth 100000 in
set_option maxHeartbeats 4000000 in
theorem l_recount {G : zG} {ad : Nat → Nat} {d k0 n0 : Nat} {P : List Nat} {M : zM} {Q : zOut → zM → Prop} (hd : 3 ≤ d) (hcb : zC M ≤ 600128 ∧ zS M ≤ 7301098) (hL : Lay ad M) (hRs : Rs ad M P) (hE : Eb (zA M (ad 2)) P) (hpl : P.length ≤ 64) (hq0 : ∀ (M1 : zM) (L : Mp), Fl ad 0 [364, 365] [] [] M M1 → VsL (zA M (ad 2)) P 2147483647 P.length L → zI M1 364 (ad 0) = nI (msz L) → zI M1 365 (ad 0) = nI L.length → Q (.inl none) M1) : ∀ (z : Nat) (x : Option Nat) (L : Mp) (M1 : zM), P.length - L.length = z → Nx (zA M (ad 2)) P 2147483647 x L → (Fl ad 0 [364, 365] [] [] M M1 ∧ zI M1 364 (ad 0) = nI (msz L) ∧ zI M1 365 (ad 0) = nI L.length) → zw G mX11_recount d k0 n0 Q 27 [some (.ref ((ad 0))), some (.int (zvi x)), some (.int (nI L.length))] [] M1 := by
  intro z
  induction z using Nat.strongRecOn with
  | _ z ih =>
    intro x L M1 hz hN hS
    have hLl : L.length ≤ 64 := by
      cases x with
      | none => have a1 := (hN.2 rfl).len; omega
      | some j => have a1 := (hN.1 j rfl).2.len; have a2 := vis_len (hN.1 j rfl).1; omega
    obtain ⟨hF1, h364, h365⟩ := id hS
    have hL1 := hF1.lay hL
    have hcb1 := hF1.cb hcb
    have hRs1 := hRs.fl hF1
    have eD1 : zA M1 (ad 2) = zA M (ad 2) := hF1.rA (by decide) (by decide)
    have hE1 : Eb (zA M1 (ad 2)) P := by rw [eD1]; exact hE
    have hwb : 2147483647 < 2 ^ 31 := by decide
    have hbx : ∀ c, x = some c → c < 2 ^ 31 := fun c hc => by have := vis_len (hN.1 c hc).1; omega
    refine zr_iload_n dX11_recount_27 rfl ?_
    refine zr_sipush (v := nI 2048) dX11_recount_28 (by decide) ?_
    refine zr_icmp_geN 93 dX11_recount_31 (by decide) (by omega) (by omega) (fun h31 => ?_) (fun h31 => ?_)
    · refine zr_vret dX11_recount_93 rfl ?_
      exfalso
      cases x with
      | none => have a1 := (hN.2 rfl).len; omega
      | some j => have a1 := (hN.1 j rfl).2.len; have a2 := vis_len (hN.1 j rfl).1; omega
    · refine zr_iload_n dX11_recount_34 rfl ?_
      refine zr_iconst (v := -1) dX11_recount_35 (by decide) ?_
      refine zr_icmp_eqO 93 dX11_recount_36 (by decide) hbx (fun h36 => ?_) (fun xv h36 => ?_)
      · subst h36
        refine zr_vret dX11_recount_93 rfl ?_
        exact hq0 M1 L hF1 (hN.2 rfl) h364 h365
      · subst h36
        obtain ⟨hv, hvl⟩ := hN.1 xv rfl
        have hjl := vis_len hv
        obtain ⟨p0, hp0⟩ : ∃ p0, P[xv]? = some p0 := ⟨_, List.getElem?_eq_getElem hjl⟩
        have hlen := hvl.len
        refine zr_aload_n dX11_recount_39 rfl ?_
        refine zr_dup dX11_recount_40 rfl ?_
        refine zr_getI dX11_recount_41 lkX11_227 (by decide) (by decide) rfl (hL1.K 0 12) ?_
        refine zr_as (y := (nI (msz L))) h364 ?_
        refine zr_aload_n dX11_recount_44 rfl ?_
        refine zr_getR dX11_recount_45 lkX11_12 (by decide) (by decide) rfl (hL1.K 0 12) (hL1.R 352 0 1) ?_
        refine zr_aload_n dX11_recount_48 rfl ?_
        refine zr_getR dX11_recount_49 lkX11_70 (by decide) (by decide) rfl (hL1.K 0 12) (hL1.R 361 0 23) ?_
        refine zr_getR dX11_recount_52 lkX11_246 (by decide) (by decide) rfl (hL1.K 23 8) (hL1.R 225 23 24) ?_
        refine zr_iload_n dX11_recount_55 rfl ?_
        refine zr_ialdN dX11_recount_56 (hL1.K 24 15) (hL1.N 24 2048) (by omega) (by omega) ?_
        refine zr_as (y := (nI p0)) (hRs1.2.2 _ p0 hp0) ?_
        refine zr_callV (md' := mX1_entryLength) (As := [.int (nI p0)]) dX11_recount_57 mlX11_307 okX1_entryLength rfl inX1_entryLength slX1_entryLength (by decide) (hL1.K 1 2) rfl (by omega) (Nat.le_of_ble_eq_true rfl) hcb1 (c_Disk_entryLength (d := d - 1) hcb1 (Lay.dk hL1) (by have := (hE p0 (List.mem_of_getElem? hp0)).1; omega)) (fun k M1 h => by cases h.1) (fun v M9 hq => ?_)
        obtain ⟨e0, e9⟩ := hq
        cases e0
        rw [e9, eD1]
        refine zr_iaddN dX11_recount_60 ?_
        refine zr_putI dX11_recount_61 lkX11_227 (by decide) (by decide) rfl rfl (hL1.K 0 12) ?_
        refine zr_aload_n dX11_recount_64 rfl ?_
        refine zr_dup dX11_recount_65 rfl ?_
        refine zr_getI dX11_recount_66 lkX11_230 (by decide) (by decide) rfl (hL1.K 0 12) ?_
        refine zr_as (y := (nI L.length)) (zput_ms (by decide) h365) ?_
        refine zr_iconst (v := nI 1) dX11_recount_69 (by decide) ?_
        refine zr_iaddN dX11_recount_70 ?_
        refine zr_putI dX11_recount_71 lkX11_230 (by decide) (by decide) rfl rfl (hL1.K 0 12) ?_
        obtain ⟨M2, e2⟩ : ∃ z, z = (zput (zput M1 364 (ad 0) (nI ((msz L) + (eln (zA M (ad 2)) p0)))) 365 (ad 0) (nI (L.length + 1))) := ⟨_, rfl⟩
        rw [← e2]
        have hF2 : Fl ad 0 [364, 365] [] [] M1 M2 := by rw [e2]; exact ((Fl.refl ad _ _ _ M1).put hL1 (f := 364) (i := 0)).put hL1 (f := 365) (i := 0)
        have hL2 := hF2.lay hL1
        have hcb2 := hF2.cb hcb1
        have hRs2 := hRs1.fl hF2
        have eD2 : zA M2 (ad 2) = zA M (ad 2) := (hF2.rA (by decide) (by decide)).trans eD1
        have hE2 : Eb (zA M2 (ad 2)) P := by rw [eD2]; exact hE
        have hvl2 := hvl.hit hv hp0
        have g364 : zI M2 364 (ad 0) = nI (msz (L ++ [(eky (zA M (ad 2)) p0, eva (zA M (ad 2)) p0)])) := by rw [e2, msz_snoc, ← eln_len]; exact zput_ms (f := 365) (by decide) (zput_hit _ _ _ _)
        have g365 : zI M2 365 (ad 0) = nI (L ++ [(eky (zA M (ad 2)) p0, eva (zA M (ad 2)) p0)]).length := by rw [e2, List.length_append]; exact zput_hit _ _ _ _
        refine zr_aload_n dX11_recount_74 rfl ?_
        refine zr_getR dX11_recount_75 lkX11_70 (by decide) (by decide) rfl (hL2.K 0 12) (hL2.R 361 0 23) ?_
        refine zr_iload_n dX11_recount_78 rfl ?_
        refine zr_iconst (v := nI 1) dX11_recount_79 (by decide) ?_
        refine zr_iaddN dX11_recount_80 ?_
        refine zr_ldc dX11_recount_81 ctX11_175 ?_
        refine zr_as (y := nI 2147483647) (by decide) ?_
        refine zr_callV (md' := mX7_firstSeen) (As := [.int (nI (xv + 1)), .int (nI 2147483647)]) dX11_recount_83 mlX11_243 okX7_firstSeen rfl inX7_firstSeen slX7_firstSeen (by decide) (hL2.K 23 8) rfl (by omega) (Nat.le_of_ble_eq_true rfl) hcb2 (c_Rows_firstSeen (d := d - 1) (P := P) (st := xv + 1) (w := 2147483647) (by omega) hcb2 hL2 hRs2 hE2 hwb (by omega)) (fun k M9 h => by obtain ⟨-, x, h, -⟩ := h; cases h) (fun v M9 hq => ?_)
        obtain ⟨e9, y, e0, hy1, hy2⟩ := hq
        cases e0
        rw [e9]
        rw [eD2] at hy1 hy2
        have hN2 := Nx.of hvl2 (by omega) hy1 hy2
        refine zr_istore_n (lv' := [some (.ref ((ad 0))), some (.int (zvi y)), some (.int (nI L.length))]) dX11_recount_86 (Nat.le_of_ble_eq_true rfl) (Nat.le_of_ble_eq_true rfl) rfl rfl ?_
        refine zr_iincN (n := 1) (lv' := [some (.ref ((ad 0))), some (.int (zvi y)), some (.int (nI (L.length + 1)))]) dX11_recount_87 (Nat.le_of_ble_eq_true rfl) (Nat.le_of_ble_eq_true rfl) rfl rfl rfl ?_
        refine zr_goto 27 dX11_recount_90 (by decide) ?_
        rw [show L.length + 1 = (L ++ [(eky (zA M (ad 2)) p0, eva (zA M (ad 2)) p0)]).length from by rw [List.length_append]; rfl]
        exact ih _ (by rw [List.length_append, List.length_singleton]; omega) y (L ++ [(eky (zA M (ad 2)) p0, eva (zA M (ad 2)) p0)]) M2 rfl hN2 ⟨hF1.trans0 hF2, g364, g365⟩
set_option maxRecDepth 100000 in
set_option maxHeartbeats 4000000 in
theorem c_recount {G : zG} {ad : Nat → Nat} {d c n gm fl : Nat} {E : List Nat} {Ls : Nat → List zF} {m : Mp} {M : zM} (hd : 6 ≤ d) (hcb : zC M ≤ 600128 ∧ zS M ≤ 7301098) (hL : Lay ad M) (hOn : Onn ad M E Ls c n gm fl m) (hn : n ≤ 64) (hsm : Srt m)  : zMet G mX11_recount d [.ref ((ad 0))] M (fun o M' => o = .inl none ∧ Fl ad 0 [132, 133, 227, 228, 364, 365] [24, 25] [] M M' ∧ zI M' 364 (ad 0) = nI (msz m) ∧ zI M' 365 (ad 0) = nI m.length) := by
  refine zMet_of (by decide +kernel) (Nat.le_of_ble_eq_true rfl) rfl hcb ?_
  show zw G mX11_recount d _ _ _ 0 [some (.ref ((ad 0))), none, none] [] M
  obtain ⟨ar, us, to, to2, g, cm, rs, hO, hU, hB⟩ := id hOn
  have hul := hU.2.2.2.1.2.2.2.1
  refine zr_aload_n dX11_recount_0 rfl ?_
  refine zr_callV (md' := mX11_gatherAll) (As := []) dX11_recount_1 mlX11_238 okX11_gatherAll rfl inX11_gatherAll slX11_gatherAll (by decide) (hL.K 0 12) rfl (by omega) (Nat.le_of_ble_eq_true rfl) hcb (c_gatherAll (d := d - 1) (by omega) hcb hL hO.1 hU.2.2.2.1.1 (by rw [pks_all 1 E Ls rfl]; omega)) (fun k M9 h => by cases h.1) (fun v M2 hq => ?_)
  obtain ⟨e0, M1, P, hp1, hG⟩ := hq
  cases e0
  have hF2 : Fl ad 0 [132, 133, 227, 228] [24, 25] [] M M2 := hp1.1.mono.trans0 hG.1.mono
  have hL2 := hF2.lay hL
  have hcb2 := hF2.cb hcb
  have eD1 : zA M1 (ad 2) = zA M (ad 2) := hp1.1.rA (by decide) (by decide)
  have hPs := hG.2.2.1
  rw [eD1] at hPs
  have hPp := hG.2.2.2.1
  rw [pks_all 1 E Ls rfl] at hPp
  have hpl : P.length ≤ 64 := by have := hPp.length_eq; omega
  have hE0 : Eb (zA M (ad 2)) P := fun q hq => up_eb hO.1 (Nat.le_refl _) (hPp.mem_iff.mp hq)
  have eD2 : zA M2 (ad 2) = zA M (ad 2) := hF2.rA (by decide) (by decide)
  refine zr_aload_n dX11_recount_4 rfl ?_
  refine zr_iconst (v := nI 0) dX11_recount_5 (by decide) ?_
  refine zr_putI dX11_recount_6 lkX11_227 (by decide) (by decide) rfl rfl (hL2.K 0 12) ?_
  refine zr_aload_n dX11_recount_9 rfl ?_
  refine zr_iconst (v := nI 0) dX11_recount_10 (by decide) ?_
  refine zr_putI dX11_recount_11 lkX11_230 (by decide) (by decide) rfl rfl (hL2.K 0 12) ?_
  obtain ⟨M3, e3⟩ : ∃ z, z = (zput (zput M2 364 (ad 0) (nI 0)) 365 (ad 0) (nI 0)) := ⟨_, rfl⟩
  rw [← e3]
  have hF3 : Fl ad 0 [364, 365] [] [] M2 M3 := by rw [e3]; exact ((Fl.refl ad _ _ _ M2).put hL2 (f := 364) (i := 0)).put hL2 (f := 365) (i := 0)
  have hL3 := hF3.lay hL2
  have hcb3 := hF3.cb hcb2
  have hRs3 := hG.2.1.fl hF3
  have eD3 : zA M3 (ad 2) = zA M (ad 2) := (hF3.rA (by decide) (by decide)).trans eD2
  have hE3 : Eb (zA M3 (ad 2)) P := by rw [eD3]; exact hE0
  have hwb : 2147483647 < 2 ^ 31 := by decide
  refine zr_aload_n dX11_recount_14 rfl ?_
  refine zr_getR dX11_recount_15 lkX11_70 (by decide) (by decide) rfl (hL3.K 0 12) (hL3.R 361 0 23) ?_
  refine zr_iconst (v := nI 0) dX11_recount_18 (by decide) ?_
  refine zr_ldc dX11_recount_19 ctX11_175 ?_
  refine zr_as (y := nI 2147483647) (by decide) ?_
  refine zr_callV (md' := mX7_firstSeen) (As := [.int (nI 0), .int (nI 2147483647)]) dX11_recount_21 mlX11_243 okX7_firstSeen rfl inX7_firstSeen slX7_firstSeen (by decide) (hL3.K 23 8) rfl (by omega) (Nat.le_of_ble_eq_true rfl) hcb3 (c_Rows_firstSeen (d := d - 1) (P := P) (st := 0) (w := 2147483647) (by omega) hcb3 hL3 hRs3 hE3 hwb (by omega)) (fun k M9 h => by obtain ⟨-, x, h, -⟩ := h; cases h) (fun v M9 hq => ?_)
  obtain ⟨e9, y, e0, hy1, hy2⟩ := hq
  cases e0
  rw [e9]
  rw [eD3] at hy1 hy2
  refine zr_istore_n (lv' := [some (.ref ((ad 0))), some (.int (zvi y)), none]) dX11_recount_24 (Nat.le_of_ble_eq_true rfl) (Nat.le_of_ble_eq_true rfl) rfl rfl ?_
  refine zr_iconst (v := nI 0) dX11_recount_25 (by decide) ?_
  refine zr_istore_n (lv' := [some (.ref ((ad 0))), some (.int (zvi y)), some (.int (nI 0))]) dX11_recount_26 (Nat.le_of_ble_eq_true rfl) (Nat.le_of_ble_eq_true rfl) rfl rfl ?_
  refine l_recount (P := P) (by omega) hcb2 hL2 hG.2.1 (by rw [eD2]; exact hE0) hpl (fun M4 L h1 h2 h3 h4 => ?_) _ y [] M3 rfl (by rw [eD2]; exact Nx.of (a := 0) (show VsL _ _ _ 0 [] from rfl) (Nat.zero_le _) hy1 hy2) ⟨hF3, by rw [e3]; exact zput_ms (f := 365) (by decide) (zput_hit _ _ _ _), by rw [e3]; exact zput_hit _ _ _ _⟩
  rw [eD2] at h2
  have eL : L = m := h2.end hPs hPp hsm hU.2.2.2.1.2.2.2.2
  subst eL
  exact ⟨rfl, hF2.mono.trans0 h1.mono, h3, h4⟩
set_option maxRecDepth 100000 in
set_option maxHeartbeats 4000000 in
theorem l_digest {G : zG} {ad : Nat → Nat} {d k0 n0 w : Nat} {s0 : Int32} {P : List Nat} {M : zM} {Q : zOut → zM → Prop} (hd : 3 ≤ d) (hcb : zC M ≤ 600128 ∧ zS M ≤ 7301098) (hL : Lay ad M) (hRs : Rs ad M P) (hE : Eb (zA M (ad 2)) P) (hpl : P.length ≤ 64) (hwb : w < 2 ^ 31) (hq0 : ∀ L : Mp, VsL (zA M (ad 2)) P w P.length L → Q (.inl (some (.long (dgs L)))) M) : ∀ (z : Nat) (x : Option Nat) (L : Mp), P.length - L.length = z → Nx (zA M (ad 2)) P w x L → zw G mX11_digest d k0 n0 Q 28 [some (.ref ((ad 0))), some (.int s0), some (.int (nI w)), some (.long ((dgs L))), none, some (.int (zvi x)), some (.int (nI L.length))] [] M := by
  intro z
  induction z using Nat.strongRecOn with
  | _ z ih =>
    intro x L hz hN
    have hLl : L.length ≤ 64 := by
      cases x with
      | none => have a1 := (hN.2 rfl).len; omega
      | some j => have a1 := (hN.1 j rfl).2.len; have a2 := vis_len (hN.1 j rfl).1; omega
    have hbx : ∀ c, x = some c → c < 2 ^ 31 := fun c hc => by have := vis_len (hN.1 c hc).1; omega
    refine zr_iload dX11_digest_28 rfl ?_
    refine zr_sipush (v := nI 2048) dX11_digest_30 (by decide) ?_
    refine zr_icmp_geN 81 dX11_digest_33 (by decide) (by omega) (by omega) (fun h33 => ?_) (fun h33 => ?_)
    · refine zr_lload_n dX11_digest_81 rfl ?_
      refine zr_lret dX11_digest_82 rfl ?_
      exfalso
      cases x with
      | none => have a1 := (hN.2 rfl).len; omega
      | some j => have a1 := (hN.1 j rfl).2.len; have a2 := vis_len (hN.1 j rfl).1; omega
    · refine zr_iload dX11_digest_36 rfl ?_
      refine zr_iconst (v := -1) dX11_digest_38 (by decide) ?_
      refine zr_icmp_eqO 81 dX11_digest_39 (by decide) hbx (fun h39 => ?_) (fun xv h39 => ?_)
      · subst h39
        refine zr_lload_n dX11_digest_81 rfl ?_
        refine zr_lret dX11_digest_82 rfl ?_
        exact hq0 L (hN.2 rfl)
      · subst h39
        obtain ⟨hv, hvl⟩ := hN.1 xv rfl
        have hjl := vis_len hv
        obtain ⟨p0, hp0⟩ : ∃ p0, P[xv]? = some p0 := ⟨_, List.getElem?_eq_getElem hjl⟩
        have hlen := hvl.len
        refine zr_aload_n dX11_digest_42 rfl ?_
        refine zr_getR dX11_digest_43 lkX11_12 (by decide) (by decide) rfl (hL.K 0 12) (hL.R 352 0 1) ?_
        refine zr_lload_n dX11_digest_46 rfl ?_
        refine zr_aload_n dX11_digest_47 rfl ?_
        refine zr_getR dX11_digest_48 lkX11_70 (by decide) (by decide) rfl (hL.K 0 12) (hL.R 361 0 23) ?_
        refine zr_getR dX11_digest_51 lkX11_246 (by decide) (by decide) rfl (hL.K 23 8) (hL.R 225 23 24) ?_
        refine zr_iload dX11_digest_54 rfl ?_
        refine zr_ialdN dX11_digest_56 (hL.K 24 15) (hL.N 24 2048) (by omega) (by omega) ?_
        refine zr_as (y := (nI p0)) (hRs.2.2 _ p0 hp0) ?_
        refine zr_callV (md' := mX1_mix) (As := [.long ((dgs L)), .int (nI p0)]) dX11_digest_57 mlX11_250 okX1_mix rfl inX1_mix slX1_mix (by decide) (hL.K 1 2) rfl (by omega) (Nat.le_of_ble_eq_true rfl) hcb (c_Disk_mix (d := d - 1) (p := p0) (by omega) hcb (Lay.dk hL) (by have := (hE p0 (List.mem_of_getElem? hp0)).1; omega)) (fun k M1 h => by cases h.1) (fun v M9 hq => ?_)
        obtain ⟨e0, e9⟩ := hq
        cases e0
        rw [e9, zmx_mx, ← dgs_snoc]
        have hvl2 := hvl.hit hv hp0
        refine zr_lstore_n (lv' := [some (.ref ((ad 0))), some (.int s0), some (.int (nI w)), some (.long ((dgs (L ++ [(eky (zA M (ad 2)) p0, eva (zA M (ad 2)) p0)])))), none, some (.int (nI xv)), some (.int (nI L.length))]) dX11_digest_60 (Nat.le_of_ble_eq_true rfl) (Nat.le_of_ble_eq_true rfl) rfl rfl ?_
        refine zr_aload_n dX11_digest_61 rfl ?_
        refine zr_getR dX11_digest_62 lkX11_70 (by decide) (by decide) rfl (hL.K 0 12) (hL.R 361 0 23) ?_
        refine zr_iload dX11_digest_65 rfl ?_
        refine zr_iconst (v := nI 1) dX11_digest_67 (by decide) ?_
        refine zr_iaddN dX11_digest_68 ?_
        refine zr_iload_n dX11_digest_69 rfl ?_
        refine zr_callV (md' := mX7_firstSeen) (As := [.int (nI (xv + 1)), .int (nI w)]) dX11_digest_70 mlX11_243 okX7_firstSeen rfl inX7_firstSeen slX7_firstSeen (by decide) (hL.K 23 8) rfl (by omega) (Nat.le_of_ble_eq_true rfl) hcb (c_Rows_firstSeen (d := d - 1) (P := P) (st := xv + 1) (w := w) (by omega) hcb hL hRs hE hwb (by omega)) (fun k M9 h => by obtain ⟨-, x, h, -⟩ := h; cases h) (fun v M9 hq => ?_)
        obtain ⟨e9, y, e0, hy1, hy2⟩ := hq
        cases e0
        rw [e9]
        have hN2 := Nx.of hvl2 (by omega) hy1 hy2
        refine zr_istore (lv' := [some (.ref ((ad 0))), some (.int s0), some (.int (nI w)), some (.long ((dgs (L ++ [(eky (zA M (ad 2)) p0, eva (zA M (ad 2)) p0)])))), none, some (.int (zvi y)), some (.int (nI L.length))]) dX11_digest_73 (Nat.le_of_ble_eq_true rfl) (Nat.le_of_ble_eq_true rfl) rfl rfl ?_
        refine zr_iincN (n := 1) (lv' := [some (.ref ((ad 0))), some (.int s0), some (.int (nI w)), some (.long ((dgs (L ++ [(eky (zA M (ad 2)) p0, eva (zA M (ad 2)) p0)])))), none, some (.int (zvi y)), some (.int (nI (L.length + 1)))]) dX11_digest_75 (Nat.le_of_ble_eq_true rfl) (Nat.le_of_ble_eq_true rfl) rfl rfl rfl ?_
        refine zr_goto 28 dX11_digest_78 (by decide) ?_
        rw [show L.length + 1 = (L ++ [(eky (zA M (ad 2)) p0, eva (zA M (ad 2)) p0)]).length from by rw [List.length_append]; rfl]
        exact ih _ (by rw [List.length_append, List.length_singleton]; omega) y (L ++ [(eky (zA M (ad 2)) p0, eva (zA M (ad 2)) p0)]) rfl hN2
set_option maxRecDepth 100000 in
set_option maxHeartbeats 4000000 in
theorem t_digest6 {G : zG} {ad : Nat → Nat} {d k0 n0 c n gm fl w : Nat} {s0 : Int32} {E : List Nat} {Ls : Nat → List zF} {m sn : Mp} {M : zM} {Q : zOut → zM → Prop} (hd : 6 ≤ d) (hcb : zC M ≤ 600128 ∧ zS M ≤ 7301098) (hL : Lay ad M) (hOn : Onn ad M E Ls c n gm fl m) (hn : n ≤ 64) (hwb : w < 2 ^ 31) (hsn : Srt sn) (hsv : ∀ k v, vw ((up E Ls 3).map (ent (zA M (ad 2)))) w k v ↔ (k, v) ∈ sn) (hq0 : ∀ M' : zM, Fl ad 0 [132, 133, 227, 228] [24, 25] [] M M' → Q (.inl (some (.long (dgs sn)))) M') : zw G mX11_digest d k0 n0 Q 6 [some (.ref ((ad 0))), some (.int s0), some (.int (nI w)), none, none, none, none] [] M := by
  obtain ⟨ar, us, to, to2, g, cm, rs, hO, hU, hB⟩ := id hOn
  have hul := hU.2.2.2.1.2.2.2.1
  refine zr_aload_n dX11_digest_6 rfl ?_
  refine zr_callV (md' := mX11_gatherAll) (As := []) dX11_digest_7 mlX11_238 okX11_gatherAll rfl inX11_gatherAll slX11_gatherAll (by decide) (hL.K 0 12) rfl (by omega) (Nat.le_of_ble_eq_true rfl) hcb (c_gatherAll (d := d - 1) (by omega) hcb hL hO.1 hU.2.2.2.1.1 (by rw [pks_all 1 E Ls rfl]; omega)) (fun k M9 h => by cases h.1) (fun v M2 hq => ?_)
  obtain ⟨e0, M1, P, hp1, hG⟩ := hq
  cases e0
  have hF2 : Fl ad 0 [132, 133, 227, 228] [24, 25] [] M M2 := hp1.1.mono.trans0 hG.1.mono
  have hL2 := hF2.lay hL
  have hcb2 := hF2.cb hcb
  have eD1 : zA M1 (ad 2) = zA M (ad 2) := hp1.1.rA (by decide) (by decide)
  have hPs := hG.2.2.1
  rw [eD1] at hPs
  have hPp := hG.2.2.2.1
  rw [pks_all 1 E Ls rfl] at hPp
  have hpl : P.length ≤ 64 := by have := hPp.length_eq; omega
  have hE0 : Eb (zA M (ad 2)) P := fun q hq => up_eb hO.1 (Nat.le_refl _) (hPp.mem_iff.mp hq)
  have eD2 : zA M2 (ad 2) = zA M (ad 2) := hF2.rA (by decide) (by decide)
  refine zr_ldc2 dX11_digest_10 ctX11_241 ?_
  refine zr_lstore_n (lv' := [some (.ref ((ad 0))), some (.int s0), some (.int (nI w)), some (.long 7), none, none, none]) dX11_digest_13 (Nat.le_of_ble_eq_true rfl) (Nat.le_of_ble_eq_true rfl) rfl rfl ?_
  have hRs2 := hG.2.1
  have hE2 : Eb (zA M2 (ad 2)) P := by rw [eD2]; exact hE0
  refine zr_aload_n dX11_digest_14 rfl ?_
  refine zr_getR dX11_digest_15 lkX11_70 (by decide) (by decide) rfl (hL2.K 0 12) (hL2.R 361 0 23) ?_
  refine zr_iconst (v := nI 0) dX11_digest_18 (by decide) ?_
  refine zr_iload_n dX11_digest_19 rfl ?_
  refine zr_callV (md' := mX7_firstSeen) (As := [.int (nI 0), .int (nI w)]) dX11_digest_20 mlX11_243 okX7_firstSeen rfl inX7_firstSeen slX7_firstSeen (by decide) (hL2.K 23 8) rfl (by omega) (Nat.le_of_ble_eq_true rfl) hcb2 (c_Rows_firstSeen (d := d - 1) (P := P) (st := 0) (w := w) (by omega) hcb2 hL2 hRs2 hE2 hwb (by omega)) (fun k M9 h => by obtain ⟨-, x, h, -⟩ := h; cases h) (fun v M9 hq => ?_)
  obtain ⟨e9, y, e0, hy1, hy2⟩ := hq
  cases e0
  rw [e9]
  rw [eD2] at hy1 hy2
  refine zr_istore (lv' := [some (.ref ((ad 0))), some (.int s0), some (.int (nI w)), some (.long 7), none, some (.int (zvi y)), none]) dX11_digest_23 (Nat.le_of_ble_eq_true rfl) (Nat.le_of_ble_eq_true rfl) rfl rfl ?_
  refine zr_iconst (v := nI 0) dX11_digest_25 (by decide) ?_
  refine zr_istore (lv' := [some (.ref ((ad 0))), some (.int s0), some (.int (nI w)), some (.long 7), none, some (.int (zvi y)), some (.int (nI 0))]) dX11_digest_26 (Nat.le_of_ble_eq_true rfl) (Nat.le_of_ble_eq_true rfl) rfl rfl ?_
  refine zr_asL (lv' := [some (.ref ((ad 0))), some (.int s0), some (.int (nI w)), some (.long ((dgs []))), none, some (.int (zvi y)), some (.int (nI 0))]) rfl ?_
  refine l_digest (P := P) (by omega) hcb2 hL2 hG.2.1 (by rw [eD2]; exact hE0) hpl hwb (fun L h2 => ?_) _ y [] rfl (by rw [eD2]; exact Nx.of (a := 0) (show VsL _ _ _ 0 [] from rfl) (Nat.zero_le _) hy1 hy2)
  rw [eD2] at h2
  have eL : L = sn := h2.end hPs hPp hsn hsv
  subst eL
  exact hq0 M2 hF2
