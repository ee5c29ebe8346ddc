/-! ===== LsmStore.finish ===== -/
/-- frame of a call that leaves key and value as they are; of any call of the store -/
def Fs (ad : Nat → Nat) (c : Nat) (M M' : zM) : Prop := Fr ad c (fun f i => f < 384 ∧ (f = 193 → i = 8)) (fun i => (i < 38 ∨ 64 ≤ i) ∧ i ≠ 5 ∧ i ≠ 7) (fun i => i ≠ 20 ∧ i ≠ 22) M M'
def Fk (ad : Nat → Nat) (c : Nat) (M M' : zM) : Prop := Fr ad c (fun f _ => f < 384) (fun i => i < 38 ∨ 64 ≤ i) (fun i => i ≠ 20 ∧ i ≠ 22) M M'
theorem Fs.fk {ad : Nat → Nat} {c : Nat} {M M1 : zM} (h : Fs ad c M M1) : Fk ad c M M1 := Fr.mono h (fun _ _ z => z.1) (fun _ z => z.1) (fun _ z => z)
theorem Fl.fs {ad : Nat → Nat} {c : Nat} {LF LA LB : List Nat} {M M1 : zM} (h : Fl ad c LF LA LB M M1) (h1 : ∀ f ∈ LF, f < 384 ∧ f ≠ 193 := by decide) (h2 : ∀ i ∈ LA, (i < 38 ∨ i = 64) ∧ i ≠ 5 ∧ i ≠ 7 := by decide) (h3 : ∀ i ∈ LB, i ≠ 20 ∧ i ≠ 22 := by decide) : Fs ad c M M1 :=
  Fr.mono h (fun f i z => ⟨(h1 f z).1, fun e => absurd e (h1 f z).2⟩) (fun i z => by have := h2 _ z; omega) (fun i z => h3 i z)
theorem Fw.fs {ad : Nat → Nat} {M M1 : zM} (h : Fw ad M M1) : Fs ad 0 M M1 := Fr.mono h (fun f i z => by rcases z with ⟨z1, z2⟩ | z | z <;> omega) (fun i z => by subst z; decide) (fun i z => z.elim)
theorem Fs.trans {ad : Nat → Nat} {c1 c2 : Nat} {M M1 M2 : zM} (h : Fs ad c1 M M1) (g : Fs ad c2 M1 M2) : Fs ad (c1 + c2) M M2 := Fr.trans h g
theorem Fs.trans0 {ad : Nat → Nat} {c : Nat} {M M1 M2 : zM} (h : Fs ad 0 M M1) (g : Fs ad c M1 M2) : Fs ad c M M2 := by have := Fr.trans h g; rwa [Nat.zero_add] at this
theorem Fk.trans0 {ad : Nat → Nat} {c : Nat} {M M1 M2 : zM} (h : Fk ad 0 M M1) (g : Fk ad c M1 M2) : Fk ad c M M2 := by have := Fr.trans h g; rwa [Nat.zero_add] at this
theorem Fs.refl (ad : Nat → Nat) (M : zM) : Fs ad 0 M M := Fr.refl _ _ _ _ _
theorem Fk.lay {ad : Nat → Nat} {c : Nat} {M M1 : zM} (h : Fk ad c M M1) (hL : Lay ad M) : Lay ad M1 := Fr.lay h hL (fun z => z.1 rfl) (fun z => z.2 rfl)
theorem Fk.cs {ad : Nat → Nat} {c : Nat} {M M1 : zM} (h : Fk ad c M M1) : zC M1 = zC M + c ∧ zS M1 = zS M + 6 * c := h.2.2.2.2.2.2.2
/-- a map that a run of n calls may make -/
def Mw (n : Nat) (m : Mp) : Prop := Srt m ∧ m.length ≤ n ∧ ∀ a ∈ m, 1 ≤ a.1.length ∧ a.1.length ≤ 32 ∧ a.2.length ≤ 200 ∧ (∀ b ∈ a.1, b < 256) ∧ ∀ b ∈ a.2, b < 256
theorem Mw.sz {n : Nat} {m : Mp} (h : Mw n m) : msz m ≤ 240 * n := by
  have key : ∀ l : Mp, (∀ a ∈ l, a.1.length ≤ 32 ∧ a.2.length ≤ 200) → msz l ≤ 240 * l.length := by
    intro l
    induction l with
    | nil => intro _; exact Nat.le_refl _
    | cons a l ih =>
      intro hl
      have h1 := ih (fun x hx => hl x (List.mem_cons_of_mem _ hx))
      have h2 := hl a List.mem_cons_self
      rw [msz_cons, List.length_cons]
      omega
  have h1 := key m (fun a ha => ⟨(h.2.2 a ha).2.1, (h.2.2 a ha).2.2.1⟩)
  have h2 := h.2.1
  omega
theorem insM_fl {ad : Nat → Nat} {M : zM} (hL : Lay ad M) (g : Nat → Int32) (c : Nat) : Fl ad 0 [162] [16] [] M (insM ad M g c) := ((Fl.refl ad _ _ _ M).setA hL (i := 16)).put hL (f := 162) (i := 15)
theorem apM_fl {ad : Nat → Nat} {M : zM} (hL : Lay ad M) (D : Nat → Int32) (lf cn us to : Nat) (g : Nat → Int32) (c : Nat) : Fl ad 0 [36, 39, 162, 163, 165] [2, 16] [] M (apM ad M D lf cn us to g c) :=
  ((((((Fl.refl ad _ _ _ M).setA hL (i := 2)).put hL (f := 36) (i := 1)).put hL (f := 39) (i := 1)).put hL (f := 163) (i := 15)).put hL (f := 165) (i := 15)).setA hL (i := 16) |>.put hL (f := 162) (i := 15)
theorem apM_D {ad : Nat → Nat} {M : zM} (hL : Lay ad M) (D : Nat → Int32) (lf cn us to : Nat) (g : Nat → Int32) (c : Nat) : zA (apM ad M D lf cn us to g c) (ad 2) = D := by
  unfold apM
  rw [insM_A (by exact ((hL.pw D lf cn).put 163 (ad 15) (nI us)).put 165 (ad 15) (nI to)) g c (by decide) (by decide)]
  exact pwM_hit ad M D lf cn
theorem apM_us {ad : Nat → Nat} {M : zM} (D : Nat → Int32) (lf cn us to : Nat) (g : Nat → Int32) (c : Nat) : zI (apM ad M D lf cn us to g c) 163 (ad 15) = nI us ∧ zI (apM ad M D lf cn us to g c) 165 (ad 15) = nI to := ⟨zput_ms (f := 162) (by decide) (show zI (zput (zput (pwM ad M D lf cn) 163 (ad 15) (nI us)) 165 (ad 15) (nI to)) 163 (ad 15) = nI us from zput_ms (f := 165) (by decide) (zput_hit _ _ _ _)), zput_ms (f := 162) (by decide) (show zI (zput (zput (pwM ad M D lf cn) 163 (ad 15) (nI us)) 165 (ad 15) (nI to)) 165 (ad 15) = nI to from zput_hit _ _ _ _)⟩
theorem off_I (ad : Nat → Nat) (M : zM) : zI (zthr (zput (zput M 34 (ad 1) (nI 0)) 35 (ad 1) (nI 3))) 34 (ad 1) = nI 0 ∧ zI (zthr (zput (zput M 34 (ad 1) (nI 0)) 35 (ad 1) (nI 3))) 35 (ad 1) = nI 3 := ⟨show zI (zput (zput M 34 (ad 1) (nI 0)) 35 (ad 1) (nI 3)) 34 (ad 1) = nI 0 from zput_ms (f := 35) (by decide) (zput_hit _ _ _ _), show zI (zput (zput M 34 (ad 1) (nI 0)) 35 (ad 1) (nI 3)) 35 (ad 1) = nI 3 from zput_hit _ _ _ _⟩
/-- behind a finish: it is on (0), or off with the old (1) or the new (2) map -/
def FnA (ad : Nat → Nat) (M M' : zM) (E : List Nat) (Ls : Nat → List zF) (v : Nat → Option Nat) (wh c n gm tr : Nat) (m m' : Mp) (o : zOut) : Prop :=
  (o = .inl (some (.int (nI (msz m')))) ∧ 2 ≤ wh ∧ Fs ad 0 M M' ∧ (∃ (E' : List Nat) (Ls' : Nat → List zF), Onn ad M' E' Ls' (c + 1) n (gm + 600) 1 m' ∧ ∀ i w, i < 8 → v i = some w → ∀ k x, vw ((up E' Ls' 3).map (ent (zA M' (ad 2)))) w k x ↔ vw ((up E Ls 3).map (ent (zA M (ad 2)))) w k x) ∧ (∃ lf ct du cn, Pw ad M' 1 wh lf ct du cn) ∧ zI M' 364 (ad 0) = nI (msz m') ∧ zI M' 365 (ad 0) = nI m'.length ∧ (∃ t, t ≤ tr + 600 ∧ zI M' 369 (ad 0) = nI t) ∧ (∃ pl, pl ≤ 32 ∧ zI M' 193 (ad 8) = nI pl) ∧ zA M' (ad 14) = zA M (ad 14) ∧ zI M' 4 (ad 10) = zI M 4 (ad 10)) ∨
  (o = .inr 2 ∧ Fs ad 1 M M' ∧ ((wh = 0 ∧ Ofn ad M' c n (gm + 600) m) ∨ (wh = 1 ∧ Ofn ad M' (c + 1) n (gm + 600) m')) ∧ (∃ lf ct du cn, Pw ad M' 0 3 lf ct du cn) ∧ (∃ t, t ≤ tr + 600 ∧ zI M' 369 (ad 0) = nI t) ∧ (∃ pl, pl ≤ 32 ∧ zI M' 193 (ad 8) = nI pl) ∧ zA M' (ad 14) = zA M (ad 14))
set_option maxRecDepth 100000 in
set_option maxHeartbeats 4000000 in
theorem c_finish {G : zG} {ad : Nat → Nat} {d wh lf ct du cn c n n1 gm tr len pl : Nat} {E offs : List Nat} {Ls : Nat → List zF} {m m1 : Mp} {v : Nat → Option Nat} {M : zM} (hd : 11 ≤ d) (hcb : zC M ≤ 600128 ∧ zS M ≤ 7301098) (hcx : zC M + 1 ≤ 600128 ∧ zS M + 6 ≤ 7301098) (hL : Lay ad M) (hOn : Onn ad M E Ls c n gm 1 m) (hP : Pw ad M 1 wh lf ct du cn) (hvw : zVw M (ad 13) (ad 14) v) (hvc : ∀ i w, v i = some w → w ≤ c) (hgm : gm + 600 ≤ 2 ^ 28) (htr0 : tr + 600 ≤ 2 ^ 28) (htr : zI M 369 (ad 0) = nI tr) (hBt : Bt ad M offs len) (h364 : zI M 364 (ad 0) = nI (msz m)) (h365 : zI M 365 (ad 0) = nI m.length) (hpl : pl ≤ 32) (hpr : zI M 193 (ad 8) = nI pl) (hms : MSets m (offs.map (esp (zA M (ad 11)))) m1) (hsm : Srt m) (hm16 : msz m1 ≤ 16000) (hn1 : n1 ≤ 64) (hc1 : offs.length + n ≤ n1) (hc2 : n + 1 ≤ n1) (hc3 : 3 + 240 * offs.length ≤ 243 * (n1 - n))  : zMet G mX11_finish d [.ref ((ad 0))] M (fun o M' => FnA ad M M' E Ls v wh c n1 gm tr m m1 o) := by
  refine zMet_of (by decide +kernel) (Nat.le_of_ble_eq_true rfl) rfl hcb ?_
  show zw G mX11_finish d _ _ _ 0 [some (.ref ((ad 0)))] [] M
  obtain ⟨ar, us, to, to2, g, cm, rs, hO, hU, hB⟩ := id hOn
  obtain ⟨o1, o2, o3, o4, o5, o163, o164, o165, o166, o100, o102, o366, oto, oto2⟩ := id hO
  have hus := hU.2.2.1.2.2.2.2.1
  have hcn9 : c ≤ n := hU.2.2.2.2.2.1
  have har := hU.1.1
  have hbl := hB.1 rfl
  have hlen1 := hBt.2.2.2.2.1.le.1
  have hlen2 := hBt.2.2.2.2.1.len hBt.2.2.2.2.2
  have hEl := (hU.sz (by omega)).2.2.2
  refine zr_aload_n dX11_finish_0 rfl ?_
  refine zr_callV (md' := mX11_weigh) (As := []) dX11_finish_1 mlX11_278 okX11_weigh rfl inX11_weigh slX11_weigh (by decide) (hL.K 0 12) rfl (by omega) (Nat.le_of_ble_eq_true rfl) hcb (c_weigh (d := d - 1) (by omega) hcb hL hBt o1 hU.2.2.2.1.1 hU.2.2.2.1.2.1 hU.2.2.2.1.2.2.2.2 hsm (fun q hq => (hU.2.2.2.1.2.2.1 q hq).1) h364 h365 hpl hpr) (fun k M9 h => by cases h.1) (fun v M1 hq => ?_)
  obtain ⟨e0, hF1, mi, pl1, hmi, h367, h368, hpl1, hpr1⟩ := hq
  cases e0
  have emi : mi = m1 := lsts_all hsm hms (by rw [List.length_map]; exact hmi)
  subst emi
  have hL1 := hF1.fl.lay hL
  have hcb1 := hF1.fl.cb hcb
  have hB1 := hBt.fl hF1.fl
  have hO1 := hO.fl hF1.fl (hm := o5.fl hF1.fl)
  have hP1 := hP.fl hF1.fl
  have eD1 : zA M1 (ad 2) = zA M (ad 2) := hF1.fl.rA (by decide) (by decide)
  have eR1 : zA M1 (ad 11) = zA M (ad 11) := hF1.fl.rA (by decide) (by decide)
  refine zr_aload_n dX11_finish_4 rfl ?_
  refine zr_getI dX11_finish_5 lkX11_281 (by decide) (by decide) rfl (hL1.K 0 12) ?_
  refine zr_as (y := (nI (msz mi))) h367 ?_
  refine zr_sipush (v := nI 16000) dX11_finish_8 (by decide) ?_
  refine zr_icmp_leN 25 dX11_finish_11 (by decide) (by omega) (by omega) (fun h11 => ?_) (fun h11 => ?_)
  · refine zr_aload_n dX11_finish_25 rfl ?_
    refine zr_getR dX11_finish_26 lkX11_50 (by decide) (by decide) rfl (hL1.K 0 12) (hL1.R 358 0 15) ?_
    refine zr_aload_n dX11_finish_29 rfl ?_
    refine zr_getR dX11_finish_30 lkX11_34 (by decide) (by decide) rfl (hL1.K 0 12) (hL1.R 356 0 10) ?_
    refine zr_callV (md' := mX5_hasRoom) (As := [.ref ((ad 10))]) dX11_finish_33 mlX11_286 okX5_hasRoom rfl inX5_hasRoom slX5_hasRoom (by decide) (hL1.K 15 6) rfl (by omega) (Nat.le_of_ble_eq_true rfl) hcb1 (c_Log_hasRoom (d := d - 1) (cn := E.length) (us := us) (st := offs.length) (len := len) hcb1 hL1 hO1.1.1.1 hO1.2.2.2.2.2.1 hB1.1 hB1.2.2.1 (by omega) (by omega) (by omega) (by omega)) (fun k M9 h => by obtain ⟨-, t, -, h, -⟩ := h; cases h) (fun v M9 hq => ?_)
    obtain ⟨e9, t9, ht1, e0, ht2⟩ := hq
    cases e0
    rw [e9]
    have ht9 : t9 = 1 := ht2.mpr ⟨by omega, by omega⟩
    subst ht9
    refine zr_if_ne 50 dX11_finish_36 (by decide) (fun h36 => ?_) (fun h36 => absurd h36 (by decide))
    refine zr_aload_n dX11_finish_50 rfl ?_
    refine zr_getR dX11_finish_51 lkX11_12 (by decide) (by decide) rfl (hL1.K 0 12) (hL1.R 352 0 1) ?_
    refine zr_iconst (v := nI 1) dX11_finish_54 (by decide) ?_
    refine zr_callV (md' := mX1_enter) (As := [.int (nI 1)]) dX11_finish_55 mlX11_190 okX1_enter rfl inX1_enter slX1_enter (by decide) (hL1.K 1 2) rfl (by omega) (Nat.le_of_ble_eq_true rfl) hcb1 (c_Disk_enter (d := d - 1) (cm := 1) hcb1 hL1 hP1 (by decide)) (fun k M9 h => by cases h.1) (fun v M2 hq => ?_)
    obtain ⟨e0, x, y, e2, hx, hx1, hy, hy1⟩ := hq
    cases e0
    have hy0 : y = 0 := by rcases Nat.eq_zero_or_pos y with z | z; exact z; exact absurd (hy.mp (by omega)).1 (by decide)
    subst hy0
    have hx2 : x = 1 ↔ wh ≤ 1 := hx.trans ⟨fun z => z.elim And.right (fun w => absurd w.1 (by decide)), fun z => Or.inl ⟨rfl, z⟩⟩
    have hF2 : Fl ad 0 [38, 39] [] [] M1 M2 := by rw [e2]; exact ((Fl.refl ad _ _ _ M1).put hL1 (f := 38) (i := 1)).put hL1 (f := 39) (i := 1)
    have hL2 := hF2.lay hL1
    have hcb2 := hF2.cb hcb1
    have hO2 := hO1.fl hF2 (hm := hO1.msc.fl hF2)
    have hB2 := hB1.fl hF2
    have hP2 : Pw ad M2 1 wh lf ct x 0 := by
      obtain ⟨p1, p2, p3, p4, p5, p6, p7, p8, p9, p10, p11, p12⟩ := hP1
      rw [e2]
      exact ⟨zput_ms (f := 39) (by decide) (zput_ms (f := 38) (by decide) p1), zput_ms (f := 39) (by decide) (zput_ms (f := 38) (by decide) p2), zput_ms (f := 39) (by decide) (zput_ms (f := 38) (by decide) p3), zput_ms (f := 39) (by decide) (zput_ms (f := 38) (by decide) p4), zput_ms (f := 39) (by decide) (zput_hit _ _ _ _), zput_hit _ _ _ _, p7, p8, p9, p10, hx1, by decide⟩
    have h366b : zI M2 366 (ad 0) = nI c := hO2.2.2.2.2.2.2.2.2.2.2.2.1
    have eR2 : zA M2 (ad 11) = zA M (ad 11) := (hF2.rA (by decide) (by decide)).trans eR1
    refine zr_aload_n dX11_finish_58 rfl ?_
    refine zr_getR dX11_finish_59 lkX11_34 (by decide) (by decide) rfl (hL2.K 0 12) (hL2.R 356 0 10) ?_
    refine zr_aload_n dX11_finish_62 rfl ?_
    refine zr_getI dX11_finish_63 lkX11_137 (by decide) (by decide) rfl (hL2.K 0 12) ?_
    refine zr_as (y := (nI c)) h366b ?_
    refine zr_iconst (v := nI 1) dX11_finish_66 (by decide) ?_
    refine zr_iaddN dX11_finish_67 ?_
    refine zr_callV (md' := mX0_seal) (As := [.int (nI (c + 1))]) dX11_finish_68 mlX11_292 okX0_seal rfl inX0_seal slX0_seal (by decide) (hL2.K 10 1) rfl (by omega) (Nat.le_of_ble_eq_true rfl) hcb2 (c_Batch_seal (d := d - 1) (c := c + 1) hcb2 hL2 hB2) (fun k M1 h => by cases h.1) (fun v M3 hq => ?_)
    obtain ⟨e0, e3⟩ := hq
    cases e0
    rw [eR2] at e3
    obtain ⟨R, hR⟩ : ∃ z, z = seaR (zA M (ad 11)) (c + 1) len offs := ⟨_, rfl⟩
    rw [← hR] at e3
    obtain ⟨s1, s2, s3⟩ := seaR_spec (R := (zA M (ad 11))) (c := c + 1) hBt.2.2.2.2.1 (by omega) (by omega)
    rw [← hR] at s1 s2 s3
    have hF3 : Fl ad 0 [3] [11] [] M2 M3 := by rw [e3]; exact ((Fl.refl ad _ _ _ M2).setA hL2 (i := 11)).put hL2 (f := 3) (i := 10)
    have hL3 := hF3.lay hL2
    have hcb3 := hF3.cb hcb2
    have hO3 := hO2.fl hF3 (hm := hO2.msc.fl hF3)
    have hP3 := hP2.fl hF3
    have e11 : zA M3 (ad 11) = R := by rw [e3]; exact zsetA_hit _ _ _
    have h3 : zI M3 3 (ad 10) = nI (len + 1) := by rw [e3]; exact zput_hit _ _ _ _
    have hcx3 : zC M3 + 1 ≤ 600128 ∧ zS M3 + 6 ≤ 7301098 := by have a1 := hF1.fl.cs; have a2 := hF2.cs; have a3 := hF3.cs; omega
    have hch : Chn R 2 offs len := hBt.2.2.2.2.1.same (fun q hq => (s1 q hq).1)
    have hwR : ∀ q ∈ offs, Ewf R q ∧ ecm R q = c + 1 := fun q hq => ⟨(s1 q hq).1.eW (hBt.2.2.2.2.2 q hq), (s1 q hq).2⟩
    have hesp : offs.map (esp R) = offs.map (esp (zA M (ad 11))) := List.map_congr_left (fun q hq => (s1 q hq).1.eS)
    have hF03 : Fs ad 0 M M3 := ((hF1.fs.trans0 hF2.fs).trans0 hF3.fs)
    have eD3 : zA M3 (ad 2) = zA M (ad 2) := (hF3.rA (by decide) (by decide)).trans ((hF2.rA (by decide) (by decide)).trans eD1)
    have h14 : zA M3 (ad 14) = zA M (ad 14) := (hF3.rA (by decide) (by decide)).trans ((hF2.rA (by decide) (by decide)).trans (hF1.fl.rA (by decide) (by decide)))
    have hpr3 : zI M3 193 (ad 8) = nI pl1 := (hF3.rI (by decide) (by decide)).trans ((hF2.rI (by decide) (by decide)).trans hpr1)
    have htr3 : zI M3 369 (ad 0) = nI tr := (hF3.rI (by decide) (by decide)).trans ((hF2.rI (by decide) (by decide)).trans ((hF1.fl.rI (by decide) (by decide)).trans htr))
    have h367c : zI M3 367 (ad 0) = nI (msz mi) := (hF3.rI (by decide) (by decide)).trans ((hF2.rI (by decide) (by decide)).trans h367)
    have h368c : zI M3 368 (ad 0) = nI mi.length := (hF3.rI (by decide) (by decide)).trans ((hF2.rI (by decide) (by decide)).trans h368)
    have h4c : zI M3 4 (ad 10) = zI M 4 (ad 10) := (hF3.rI (by decide) (by decide)).trans ((hF2.rI (by decide) (by decide)).trans (hF1.fl.rI (by decide) (by decide)))
    have hxa : ∀ r lf9 cn9 : Nat, r < len + 1 → x = 1 → wh = 0 → lf9 ≤ 400 → cn9 ≤ 1 → FnA ad M (cutM ad M3 (va_cpy (zA M3 (ad 11)) (zA M3 (ad 2)) 0 (4096 + ar * 18432 + us) r) lf9 cn9) E Ls v wh c n1 gm tr m mi (.inr 2) := by
      intro r lf9 cn9 g1 g2 g3 g4 g5
      have hFc := cutM_fl hL3 (va_cpy (zA M3 (ad 11)) (zA M3 (ad 2)) 0 (4096 + ar * 18432 + us) r) lf9 cn9
      refine Or.inr ⟨rfl, hF03.trans0 hFc.fs, Or.inl ⟨g3, ⟨⟨g, ar, us, cm, Ls, rs, E, ?_⟩, hO3.msc.fl hFc, (hFc.rI (by decide) (by decide)).trans hO3.2.2.2.2.2.2.2.2.2.2.2.1⟩⟩, ⟨lf9, ct, x, cn9, hP3.off (hFc.rI (by decide) (by decide)) (hFc.rI (by decide) (by decide)) (cutM_off _ _ _ _ _).1 (cutM_off _ _ _ _ _).2 (cutM_lf _ _ _ _ _).1 (cutM_lf _ _ _ _ _).2 g4 g5⟩, ⟨tr, by omega, (hFc.rI (by decide) (by decide)).trans htr3⟩, ⟨pl1, hpl1, (hFc.rI (by decide) (by decide)).trans hpr3⟩, (hFc.rA (by decide) (by decide)).trans h14⟩
      rw [cutM_D, e11, eD3]
      exact (cut_pure hU (by omega) hbl (by omega) (by omega) s2 g1).mono (by omega) (by omega)
    refine zr_aload_n dX11_finish_71 rfl ?_
    refine zr_getR dX11_finish_72 lkX11_50 (by decide) (by decide) rfl (hL3.K 0 12) (hL3.R 358 0 15) ?_
    refine zr_aload_n dX11_finish_75 rfl ?_
    refine zr_getR dX11_finish_76 lkX11_34 (by decide) (by decide) rfl (hL3.K 0 12) (hL3.R 356 0 10) ?_
    refine zr_callV (md' := mX5_append) (As := [.ref ((ad 10))]) dX11_finish_79 mlX11_295 okX5_append rfl inX5_append slX5_append (by decide) (hL3.K 15 6) rfl (by omega) (Nat.le_of_ble_eq_true rfl) hcb3 (c_Log_append (d := d - 1) (len := len + 1) (ar := ar) (us := us) (to := to) (E := E) (offs := offs) (by omega) hcb3 hcx3 hL3 hO3.1.1 h3 hP3 har (by omega) (by omega) (by omega) hO3.2.2.2.2.2.1 hO3.2.2.2.2.2.2.1 hO3.2.2.2.2.2.2.2.1 oto (by rw [e11, Nat.add_sub_cancel]; exact hch) (by rw [e11]; exact fun q hq => by rw [(hwR q hq).2]; omega) (by omega) hO3.1.2.1 hO3.1.2.2.1 (by rw [eD3]; exact fun q hq => (hU.2.2.1.in q hq).2)) (fun k M9 h => zt_out rfl (by rcases h with ⟨_, _, _, _, _, _, _, _, h, _⟩ | ⟨r9, l9, c9, v1, v2, v3, v4, v5, h, v6⟩; exact absurd h (by simp); cases h; rw [v6]; exact hxa _ _ _ v1 v2 v3 v4 v5)) (fun v M4 hq => ?_)
    rcases hq with ⟨lf4, cn4, gi, E1, v1, v2, v3, v4, e0, e4, v6, v7⟩ | ⟨r9, l9, c9, _, _, _, _, _, e0, _⟩
    rotate_left
    · cases e0
    cases e0
    rw [e11, eD3] at v6
    obtain ⟨D1, hD1⟩ : ∃ z, z = va_cpy R (zA M (ad 2)) 0 (4096 + ar * 18432 + us) (len + 1) := ⟨_, rfl⟩
    rw [e11, eD3] at e4
    rw [← hD1] at e4
    obtain ⟨hU4, hvs⟩ := commit_pure (n' := n1) hU (by omega) hn1 hbl (by omega) hc1 hc2 (by omega) hch hwR s2 s3 (by rw [hesp]; exact hms) v6
    rw [← hD1] at hU4 hvs v6
    have hF4 : Fl ad 0 [36, 39, 162, 163, 165] [2, 16] [] M3 M4 := by rw [e4]; exact apM_fl hL3 _ _ _ _ _ _ _
    have hL4 := hF4.lay hL3
    have hcb4 := hF4.cb hcb3
    have eD4 : zA M4 (ad 2) = D1 := by rw [e4]; exact apM_D hL3 _ _ _ _ _ _ _
    have hP4 : Pw ad M4 1 wh lf4 ct x cn4 := by
      rw [e4]
      exact (hP3.pw D1 v1 v2).fl (((((Fl.refl ad [162, 163, 165] [16] [] _).put (hL3.pw _ _ _) (f := 163) (i := 15)).put (hL3.pw _ _ _) (f := 165) (i := 15)).setA (hL3.pw _ _ _) (i := 16)).put (hL3.pw _ _ _) (f := 162) (i := 15))
    have h366d : zI M4 366 (ad 0) = nI c := (hF4.rI (by decide) (by decide)).trans hO3.2.2.2.2.2.2.2.2.2.2.2.1
    have h367d := (hF4.rI (f := 367) (i := 0) (by decide) (by decide)).trans h367c
    have h368d := (hF4.rI (f := 368) (i := 0) (by decide) (by decide)).trans h368c
    refine zr_aload_n dX11_finish_82 rfl ?_
    refine zr_dup dX11_finish_83 rfl ?_
    refine zr_getI dX11_finish_84 lkX11_137 (by decide) (by decide) rfl (hL4.K 0 12) ?_
    refine zr_as (y := (nI c)) h366d ?_
    refine zr_iconst (v := nI 1) dX11_finish_87 (by decide) ?_
    refine zr_iaddN dX11_finish_88 ?_
    refine zr_putI dX11_finish_89 lkX11_137 (by decide) (by decide) rfl rfl (hL4.K 0 12) ?_
    refine zr_aload_n dX11_finish_92 rfl ?_
    refine zr_aload_n dX11_finish_93 rfl ?_
    refine zr_getI dX11_finish_94 lkX11_281 (by decide) (by decide) rfl (hL4.K 0 12) ?_
    refine zr_as (y := (nI (msz mi))) (zput_ms (by decide) h367d) ?_
    refine zr_putI dX11_finish_97 lkX11_227 (by decide) (by decide) rfl rfl (hL4.K 0 12) ?_
    refine zr_aload_n dX11_finish_100 rfl ?_
    refine zr_aload_n dX11_finish_101 rfl ?_
    refine zr_getI dX11_finish_102 lkX11_298 (by decide) (by decide) rfl (hL4.K 0 12) ?_
    refine zr_as (y := (nI mi.length)) (zput_ms (by decide) (zput_ms (by decide) h368d)) ?_
    refine zr_putI dX11_finish_105 lkX11_230 (by decide) (by decide) rfl rfl (hL4.K 0 12) ?_
    obtain ⟨M5, e5⟩ : ∃ z, z = (zput (zput (zput M4 366 (ad 0) (nI (c + 1))) 364 (ad 0) (nI (msz mi))) 365 (ad 0) (nI mi.length)) := ⟨_, rfl⟩
    rw [← e5]
    have hF5 : Fl ad 0 [364, 365, 366] [] [] M4 M5 := by rw [e5]; exact (((Fl.refl ad _ _ _ M4).put hL4 (f := 366) (i := 0)).put hL4 (f := 364) (i := 0)).put hL4 (f := 365) (i := 0)
    have hL5 := hF5.lay hL4
    have hcb5 := hF5.cb hcb4
    have hF45 : Fl ad 0 [36, 39, 162, 163, 165, 364, 365, 366] [2, 16] [] M3 M5 := hF4.mono.trans0 hF5.mono
    have hcx5 : zC M5 + 1 ≤ 600128 ∧ zS M5 + 6 ≤ 7301098 := by have a1 := hF45.cs; omega
    have e5a : zI M5 366 (ad 0) = nI (c + 1) := by rw [e5]; exact zput_ms (f := 365) (by decide) (zput_ms (f := 364) (by decide) (zput_hit _ _ _ _))
    have e5b : zI M5 364 (ad 0) = nI (msz mi) := by rw [e5]; exact zput_ms (f := 365) (by decide) (zput_hit _ _ _ _)
    have e5c : zI M5 365 (ad 0) = nI mi.length := by rw [e5]; exact zput_hit _ _ _ _
    have eD5 : zA M5 (ad 2) = D1 := (hF5.rA (by decide) (by decide)).trans eD4
    obtain ⟨f1, f2, f3⟩ := hU4.2.2.1.2.2.2.1.facts (fun q hq => by cases hq) List.Pairwise.nil hU4.2.2.1.2.2.1
    have hE1l := (hU4.sz hn1).2.2.2
    have hO5 : Om ad M5 E1 Ls ar (us + (len + 1)) (max to ((us + (len + 1) + 512 - 1) / 512)) to2 g cm (c + 1) := by
      refine ⟨⟨?_, by rw [eD5]; exact f1, by rw [eD5]; exact f2, fun l hl => ⟨((hO3.1.2.2.2 l hl).1.fl hF45 hl), by rw [eD5]; exact (hU4.2.1.1 l hl).1⟩⟩, ?_, ?_, hO3.2.2.2.1.fl hF45, hO3.msc.fl hF45, ?_, (hF45.rI (by decide) (by decide)).trans hO3.2.2.2.2.2.2.1, ?_, (hF45.rI (by decide) (by decide)).trans hO3.2.2.2.2.2.2.2.2.1, (hF45.rI (by decide) (by decide)).trans hO3.2.2.2.2.2.2.2.2.2.1, (hF45.rI (by decide) (by decide)).trans hO3.2.2.2.2.2.2.2.2.2.2.1, e5a, by omega, oto2⟩
      · have h9 : Lg ad M4 E1 := by rw [e4]; exact insM_lg v7 (by omega)
        exact ⟨(hF5.rI (by decide) (by decide)).trans h9.1, h9.2.1, fun i q hq => (congrFun (hF5.rA (i := 16) (by decide) (by decide)) i).trans (h9.2.2 i q hq)⟩
      · obtain ⟨tk, t1, t2⟩ := hO3.2.1
        exact ⟨tk, t1.fl hF45, t2⟩
      · obtain ⟨uu, t1, t2⟩ := hO3.2.2.1
        exact ⟨uu, t1.fl hF45, t2⟩
      · exact (hF5.rI (by decide) (by decide)).trans (by rw [e4]; exact (apM_us _ _ _ _ _ _ _).1)
      · exact (hF5.rI (by decide) (by decide)).trans (by rw [e4]; exact (apM_us _ _ _ _ _ _ _).2)
    have hB5 : Blk D1 ar (us + (len + 1)) (max to ((us + (len + 1) + 512 - 1) / 512)) to2 1 := by
      refine ⟨fun _ q h1 h2 => ?_, fun z => absurd rfl z, by omega, fun q h1 h2 => ?_⟩
      · rw [hD1, pk_cpy_out (by omega)]; exact hbl q (by omega) h2
      · rw [hD1, pk_cpy_out (by omega)]; exact hB.2.2.2 q h1 h2
    have hOn5 : Onn ad M5 E1 Ls (c + 1) n1 gm 1 mi := ⟨ar, _, _, to2, g, cm, _, hO5, by rw [eD5]; exact hU4, by rw [eD5]; exact hB5⟩
    have hP5 := hP4.fl hF5
    have hvw5 : zVw M5 (ad 13) (ad 14) v := (((hvw.fl hF1.fl).fl hF2).fl hF3).fl hF45
    have htr5 : zI M5 369 (ad 0) = nI tr := (hF45.rI (by decide) (by decide)).trans htr3
    have hF05 : Fs ad 0 M M5 := hF03.trans0 hF45.fs
    have hpr5 : zI M5 193 (ad 8) = nI pl1 := (hF45.rI (by decide) (by decide)).trans hpr3
    have h145 : zA M5 (ad 14) = zA M (ad 14) := (hF45.rA (by decide) (by decide)).trans h14
    have h45 : zI M5 4 (ad 10) = zI M 4 (ad 10) := (hF45.rI (by decide) (by decide)).trans h4c
    have hw1 : x = 1 → wh = 1 := fun z => by have a1 := hx2.mp z; rcases (show wh = 0 ∨ wh = 1 by omega) with q | q; exact absurd ⟨z, q⟩ v4; exact q
    refine zr_aload_n dX11_finish_108 rfl ?_
    refine zr_sipush (v := nI 2048) dX11_finish_109 (by decide) ?_
    refine zr_callV (md' := mX11_settle) (As := [.int (nI 2048)]) dX11_finish_112 mlX11_194 okX11_settle rfl inX11_settle slX11_settle (by decide) (hL5.K 0 12) rfl (by omega) (Nat.le_of_ble_eq_true rfl) hcb5 (c_settle (d := d - 1) (lm := 2048) (tr0 := tr) (fl := 1) (by omega) hcb5 hcx5 hL5 hvw5 hn1 hgm htr0 hOn5 hP5 htr5 (by decide)) (fun k M9 h => zt_out rfl (by rcases h with ⟨h, -⟩ | ⟨h, z0, z1, z2, ⟨lf9, cn9, z3⟩, z4⟩; exact absurd h (by simp); cases h; exact Or.inr ⟨rfl, hF05.trans0 z1.fs, Or.inr ⟨hw1 (v3.mp z0), z2⟩, ⟨_, _, _, _, z3⟩, z4, ⟨pl1, hpl1, (z1.rI (by decide) (by decide)).trans hpr5⟩, (z1.rA (by decide) (by decide)).trans h145⟩)) (fun v M6 hq => ?_)
    rcases hq with ⟨e0, E6, Ls6, fl6, tr6, y1, ⟨lf6, cn6, y2, y2b⟩, y3, y4, y5, y6, y7⟩ | ⟨e0, -, -⟩
    rotate_left
    · cases e0
    cases e0
    have hfl6 := y5 rfl
    subst hfl6
    have hL6 := y1.lay hL5
    have hcb6 := y1.cb hcb5
    have hcx6 : zC M6 + 1 ≤ 600128 ∧ zS M6 + 6 ≤ 7301098 := by have a1 := y1.cs; omega
    have h364f : zI M6 364 (ad 0) = nI (msz mi) := (y1.rI (by decide) (by decide)).trans e5b
    refine zr_aload_n dX11_finish_115 rfl ?_
    refine zr_getR dX11_finish_116 lkX11_12 (by decide) (by decide) rfl (hL6.K 0 12) (hL6.R 352 0 1) ?_
    refine zr_callV (md' := mX1_leave) (As := []) dX11_finish_119 mlX11_197 okX1_leave rfl inX1_leave slX1_leave (by decide) (hL6.K 1 2) rfl (by omega) (Nat.le_of_ble_eq_true rfl) hcb6 (c_Disk_leave (d := d - 1) (by omega) hcb6 hcx6 hL6 y2) (fun k M9 h => zt_out rfl (by rcases h with ⟨_, h, _⟩ | ⟨hx9, h, e9⟩; exact absurd h (by simp); cases h; have hF9 : Fl ad 1 [34, 35] [] [] M6 M9 := by { rw [e9]; exact Fr.thr (((Fl.refl ad [34, 35] [] [] M6).put hL6 (f := 34) (i := 1)).put hL6 (f := 35) (i := 1)) }; have hof := y3.off; refine Or.inr ⟨rfl, (hF05.trans0 y1.fs).trans0 hF9.fs, Or.inr ⟨hw1 hx9, ⟨?_, hof.2.1.fl hF9, (hF9.rI (by decide) (by decide)).trans hof.2.2⟩⟩, ⟨lf6, ct, x, cn6, y2.off (hF9.rI (by decide) (by decide)) (hF9.rI (by decide) (by decide)) (by rw [e9]; exact (off_I _ _).1) (by rw [e9]; exact (off_I _ _).2) ((hF9.rI (by decide) (by decide)).trans y2.2.2.1) ((hF9.rI (by decide) (by decide)).trans y2.2.2.2.2.2.1) y2.2.2.2.2.2.2.2.2.1 y2.2.2.2.2.2.2.2.2.2.2.2⟩, ⟨tr6, by omega, (hF9.rI (by decide) (by decide)).trans y6⟩, ⟨pl1, hpl1, (hF9.rI (by decide) (by decide)).trans ((y1.rI (by decide) (by decide)).trans hpr5)⟩, (hF9.rA (by decide) (by decide)).trans ((y1.rA (by decide) (by decide)).trans h145)⟩; rw [hF9.rA (i := 2) (by decide) (by decide)]; exact hof.1)) (fun v M7 hq => ?_)
    rcases hq with ⟨hx9, e0, e9⟩ | ⟨_, e0, _⟩
    rotate_left
    · cases e0
    cases e0
    rw [e9]
    refine zr_aload_n dX11_finish_122 rfl ?_
    refine zr_getI dX11_finish_123 lkX11_227 (by decide) (by decide) rfl (hL6.K 0 12) ?_
    refine zr_as (y := (nI (msz mi))) h364f ?_
    refine zr_iret dX11_finish_126 rfl ?_
    have hw2 : 2 ≤ wh := by
      rcases Nat.lt_or_ge wh 2 with z | z
      · have := hx2.mpr (by omega); omega
      · exact z
    refine Or.inl ⟨rfl, hw2, hF05.trans0 y1.fs, ⟨E6, Ls6, y3, fun i w hi hw k xx => ?_⟩, ⟨_, _, _, _, y2⟩, h364f, (y1.rI (by decide) (by decide)).trans e5c, ⟨tr6, y7, y6⟩, ⟨pl1, hpl1, (y1.rI (by decide) (by decide)).trans hpr5⟩, (y1.rA (by decide) (by decide)).trans h145, (y1.rI (by decide) (by decide)).trans h45⟩
    have a1 := y4 w (Or.inr ⟨i, hi, hw⟩) k xx
    rw [eD5] at a1
    exact a1.trans (hvs w (hvc i w hw) k xx)
  · exfalso; omega
