/-! ===== LsmStore: calls (7) ===== -/
/-- fields and rows that work on the files changes; that a reopen changes -/
abbrev LW : List Nat := [34, 35, 36, 38, 39, 68, 69, 70, 71, 98, 100, 101, 102, 131, 132, 133, 162, 163, 164, 165, 166, 227, 228, 258, 259, 260, 325, 326, 327, 369]
abbrev LWA : List Nat := [2, 18, 24, 25, 27, 28, 31, 64]
abbrev LWB : List Nat := [21, 29, 35, 36, 37]
abbrev LX : List Nat := [4, 34, 35, 36, 37, 38, 39, 68, 69, 70, 71, 98, 99, 100, 101, 102, 131, 132, 133, 162, 163, 164, 165, 166, 227, 228, 258, 259, 260, 325, 326, 327, 364, 365, 366, 369]
abbrev LXA : List Nat := [2, 14, 16, 18, 24, 25, 27, 28, 31, 64]
theorem Sa.wk {ad : Nat → Nat} {n n1 lf ct du cn t : Nat} {M M1 : zM} {A : As} {E E' : List Nat} {Ls Ls' : Nat → List zF} {v : Nat → Option Nat} (hS : Sa ad M A n) (hon : aF A = 0) (hF : Fl ad 0 LW LWA LWB M M1) (a2 : n1 + (aS A).length ≤ n) (hvw : zVw M (ad 13) (ad 14) v) (hVs : Vws (zA M (ad 2)) E Ls v (aN A) (aC A)) (hOn : Onn ad M1 E' Ls' (aC A) n1 (600 * n + 600) 1 (aM A)) (hsm : Vsm (zA M (ad 2)) (zA M1 (ad 2)) E E' Ls Ls' v) (hPw : Pw ad M1 1 (aW A) lf ct du cn) (ht : t ≤ 600 * n + 600) (ht2 : zI M1 369 (ad 0) = nI t) : Sa ad M1 A (n + 1) := by
  obtain ⟨⟨s1, s2, s3, s4, ⟨pl, s5, s5'⟩, s6, s7, s8, s9⟩, h2⟩ := hS
  have hcs := hF.cs
  refine ⟨⟨hF.lay s1 (by decide) (by decide), by omega, s3.fl hF, s4.fl hF, ⟨pl, s5, (hF.rI (by decide) (by decide)).trans s5'⟩, ⟨t, by omega, ht2⟩, ⟨lf, ct, du, cn, by rw [show 1 - aF A = 1 by omega]; exact hPw⟩, ⟨s8.1, Nat.le_succ_of_le s8.2.1, s8.2.2⟩, Nat.le_succ_of_le s9⟩, ?_⟩
  rcases h2 with ⟨a0, -, a5, a6, a7, a8, a9, a10⟩ | ⟨a0, -⟩
  · refine Or.inl ⟨a0, ⟨E', Ls', n1, v, hOn.mono (Nat.le_refl _) (by omega), by omega, hvw.fl hF, hVs.1, fun i hi => ?_⟩, (hF.rI (by decide) (by decide)).trans a5, (hF.rI (by decide) (by decide)).trans a6, (hF.rI (by decide) (by decide)).trans a7, a8, fun ho => ?_, a10⟩
    · rcases hVs.2 i hi with z | ⟨w, ms, b1, b2, b3, b4⟩
      · exact Or.inl z
      · exact Or.inr ⟨w, ms, b1, b2, b3, fun k x => (hsm w (Or.inr ⟨i, hi, b1⟩) k x).trans (b4 k x)⟩
    · obtain ⟨offs, len, b1, b2⟩ := a9 ho
      exact ⟨offs, len, b1.fl hF, by rw [hF.rA (i := 11) (by decide) (by decide)]; exact b2⟩
  · omega
theorem Sa.of {ad : Nat → Nat} {n n1 gm lf ct du cn t : Nat} {M M1 : zM} {A : As} {v : Nat → Option Nat} (hS : Sa ad M A n) (hF : Fl ad 1 LX LXA LWB M M1) (hvw : zVw M1 (ad 13) (ad 14) v) (hO : Ofn ad M1 (aC A) n1 gm (aM A)) (hn1 : n1 ≤ n + 1) (hgm : gm ≤ 600 * (n + 1)) (hPw : Pw ad M1 0 3 lf ct du cn) (ht : t ≤ 600 * n + 600) (ht2 : zI M1 369 (ad 0) = nI t) : Sa ad M1 (fell A) (n + 1) := by
  obtain ⟨⟨s1, s2, s3, s4, ⟨pl, s5, s5'⟩, s6, s7, s8, s9⟩, h2⟩ := hS
  have hcs := hF.cs
  exact ⟨⟨hF.lay s1 (by decide) (by decide), by omega, s3.fl hF, s4.fl hF, ⟨pl, s5, (hF.rI (by decide) (by decide)).trans s5'⟩, ⟨t, by omega, ht2⟩, ⟨lf, ct, du, cn, hPw⟩, ⟨s8.1, Nat.le_succ_of_le s8.2.1, s8.2.2⟩, Nat.le_succ_of_le s9⟩, Or.inr ⟨rfl, hO.mono hn1 hgm, ⟨v, hvw⟩, rfl, rfl, fun _ => rfl⟩⟩
theorem Sa.re {ad : Nat → Nat} {n n1 lf ct du cn t : Nat} {M M1 : zM} {A : As} {E' : List Nat} {Ls' : Nat → List zF} (hS : Sa ad M A n) (hF : Fl ad 0 LX LXA LWB M M1) (hvw : zVw M1 (ad 13) (ad 14) (fun _ => none)) (hOn : Onn ad M1 E' Ls' (aC A) n1 (600 * n + 600) 1 (aM A)) (hn1 : n1 ≤ n + 1) (hPw : Pw ad M1 1 3 lf ct du cn) (ht : t ≤ 600 * n + 600) (ht2 : zI M1 369 (ad 0) = nI t) (h4 : zI M1 4 (ad 10) = nI 0) (h364 : zI M1 364 (ad 0) = nI (msz (aM A))) (h365 : zI M1 365 (ad 0) = nI (aM A).length) : Sa ad M1 (aM A, aK A, aV A, [], 0, 0, 3, aC A, fun _ => none) (n + 1) := by
  obtain ⟨⟨s1, s2, s3, s4, ⟨pl, s5, s5'⟩, s6, s7, s8, s9⟩, h2⟩ := hS
  have hcs := hF.cs
  exact ⟨⟨hF.lay s1 (by decide) (by decide), by omega, s3.fl hF, s4.fl hF, ⟨pl, s5, (hF.rI (by decide) (by decide)).trans s5'⟩, ⟨t, by omega, ht2⟩, ⟨lf, ct, du, cn, hPw⟩, ⟨s8.1, Nat.le_succ_of_le s8.2.1, s8.2.2⟩, Nat.le_succ_of_le s9⟩, Or.inl ⟨rfl, ⟨E', Ls', n1, fun _ => none, hOn.mono (Nat.le_refl _) (by omega), hn1, hvw, fun i w h => (by cases h), fun i hi => Or.inl ⟨rfl, rfl⟩⟩, h364, h365, h4, by show 0 ≤ 1; decide, fun z => (by cases z), fun _ => rfl⟩⟩
/-- leave puts it off -/
theorem lev_off {ad : Nat → Nat} {M M1 : zM} {on wh lf ct du cn c n gm : Nat} {m : Mp} (hL : Lay ad M) (hP : Pw ad M on wh lf ct du cn) (hO : Ofn ad M c n gm m) (e : M1 = zthr (zput (zput M 34 (ad 1) (nI 0)) 35 (ad 1) (nI 3))) : Fl ad 1 [34, 35] [] [] M M1 ∧ Pw ad M1 0 3 lf ct du cn ∧ Ofn ad M1 c n gm m := by
  have hF : Fl ad 1 [34, 35] [] [] M M1 := by rw [e]; exact Fr.thr (((Fl.refl ad _ _ _ M).put hL (f := 34) (i := 1)).put hL (f := 35) (i := 1))
  obtain ⟨p1, p2, p3, p4, p5, p6, p7, p8, p9, p10, p11, p12⟩ := hP
  exact ⟨hF, ⟨by rw [e]; exact (off_I ad M).1, by rw [e]; exact (off_I ad M).2, (hF.rI (by decide) (by decide)).trans p3, (hF.rI (by decide) (by decide)).trans p4, (hF.rI (by decide) (by decide)).trans p5, (hF.rI (by decide) (by decide)).trans p6, by decide, by decide, p9, p10, p11, p12⟩, hO.fl hF (by decide) (by decide) (hO.2.1.fl hF)⟩
theorem ent_pw {ad : Nat → Nat} {M M1 : zM} {on wh lf ct du cn x y : Nat} (hL : Lay ad M) (hP : Pw ad M on wh lf ct du cn) (e : M1 = zput (zput M 38 (ad 1) (nI x)) 39 (ad 1) (nI y)) (hx : x ≤ 1) (hy : y ≤ 1) : Fl ad 0 [38, 39] [] [] M M1 ∧ Pw ad M1 on wh lf ct x y := by
  have hF : Fl ad 0 [38, 39] [] [] M M1 := by rw [e]; exact ((Fl.refl ad _ _ _ M).put hL (f := 38) (i := 1)).put hL (f := 39) (i := 1)
  obtain ⟨p1, p2, p3, p4, p5, p6, p7, p8, p9, p10, p11, p12⟩ := hP
  exact ⟨hF, (hF.rI (by decide) (by decide)).trans p1, (hF.rI (by decide) (by decide)).trans p2, (hF.rI (by decide) (by decide)).trans p3, (hF.rI (by decide) (by decide)).trans p4, by rw [e]; exact zput_ms (f := 39) (by decide) (zput_hit _ _ _ _), by rw [e]; exact zput_hit _ _ _ _, p7, p8, p9, p10, hx, hy⟩
/-- work on the files ends: it is off -/
theorem wk_x {ad : Nat → Nat} {n n1 lf ct du cn t : Nat} {M M1 : zM} {A : As} {v : Nat → Option Nat} (hS : Sa ad M A n) (hon : aF A = 0) (hF : Fl ad 1 LW LWA LWB M M1) (hvw : zVw M (ad 13) (ad 14) v) (hO : Ofn ad M1 (aC A) n1 (600 * n + 600) (aM A)) (hn1 : n1 ≤ n) (hw : aW A = 2) (hPw : Pw ad M1 0 3 lf ct du cn) (ht : t ≤ 600 * n + 600) (ht2 : zI M1 369 (ad 0) = nI t) : Pst ad M n (sWork A) (.inr 2) M1 := by
  have e9 : sWork A = (fell A, .inr 2) := by unfold sWork; rw [if_neg (by omega), if_pos hw]
  rw [e9]
  exact ⟨rfl, hS.of hF.mono (hvw.fl hF) hO (by omega) (by omega) hPw ht ht2, 1, hF.mono0⟩
theorem wk_ok {ad : Nat → Nat} {n n1 lf ct du cn t : Nat} {M M1 : zM} {A : As} {E E' : List Nat} {Ls Ls' : Nat → List zF} {v : Nat → Option Nat} (hS : Sa ad M A n) (hon : aF A = 0) (hF : Fl ad 0 LW LWA LWB M M1) (a2 : n1 + (aS A).length ≤ n) (hvw : zVw M (ad 13) (ad 14) v) (hVs : Vws (zA M (ad 2)) E Ls v (aN A) (aC A)) (hOn : Onn ad M1 E' Ls' (aC A) n1 (600 * n + 600) 1 (aM A)) (hsm : Vsm (zA M (ad 2)) (zA M1 (ad 2)) E E' Ls Ls' v) (hPw : Pw ad M1 1 (aW A) lf ct du cn) (ht : t ≤ 600 * n + 600) (ht2 : zI M1 369 (ad 0) = nI t) (hw : aW A ≠ 2) : Pst ad M n (sWork A) (.inl none) M1 := by
  have e9 : sWork A = (A, .inl none) := by unfold sWork; rw [if_neg (by omega), if_neg hw]
  rw [e9]
  exact ⟨rfl, hS.wk hon hF a2 hvw hVs hOn hsm hPw ht ht2, 0, hF.mono0⟩
set_option maxRecDepth 100000 in
set_option maxHeartbeats 4000000 in
theorem a_flush {G : zG} {ad : Nat → Nat} {d n : Nat} {A : As} {M : zM} (hd : 12 ≤ d) (hS : Sa ad M A n) (hn : n < 64)  : zMet G mX11_flush d [.ref ((ad 0))] M (Pst ad M n (sWork A)) := by
  obtain ⟨hcb, hcx⟩ := hS.cb (by omega)
  obtain ⟨⟨hL, hrm, hK, hV, ⟨pl, hpl, hpr⟩, ⟨tr, htr, htr9⟩, ⟨lf, ct, du, cn, hP⟩, hMw, hcn⟩, hcase⟩ := id hS
  have hoff : aF A = 1 → Pst ad M n (sWork A) (.inr 0) (zthr M) := fun z => by
    have e9 : (sWork A) = (A, .inr 0) := by
      unfold sWork; exact if_pos z
    rw [e9]
    exact ⟨rfl, hS.thr, 1, thr_fk ad M⟩
  refine zMet_of (by decide +kernel) (Nat.le_of_ble_eq_true rfl) rfl hcb ?_
  show zw G mX11_flush d _ _ _ 0 [some (.ref ((ad 0)))] [] M
  refine zr_aload_n dX11_flush_0 rfl ?_
  refine zr_callV (md' := mX11_requireOn) (As := []) dX11_flush_1 mlX11_108 okX11_requireOn rfl inX11_requireOn slX11_requireOn (by decide) (hL.K 0 12) rfl (by omega) (Nat.le_of_ble_eq_true rfl) hcb (c_requireOn (d := d - 1) (on9 := 1 - aF A) (by omega) hcb hcx hL hP.1 (by omega)) (fun k M9 h => zt_out rfl (by rcases h with ⟨_, h, _⟩ | ⟨h0, h, e9⟩; exact absurd h (by simp); cases h; rw [e9]; exact hoff (by omega))) (fun v M9 hq => ?_)
  rcases hq with ⟨h0, e0, e9⟩ | ⟨_, e0, _⟩
  rotate_left
  · cases e0
  cases e0
  rw [e9]
  have hon : aF A = 0 := by have := hS.on; omega
  have hc9 := hcase.resolve_right (fun z => by have := z.1; omega)
  obtain ⟨E, Ls, n1, v, a1, a2, hvw, hVs⟩ := id hc9.2.1
  rw [show 1 - aF A = 1 by omega] at hP
  refine zr_aload_n dX11_flush_4 rfl ?_
  refine zr_getR dX11_flush_5 lkX11_12 (by decide) (by decide) rfl (hL.K 0 12) (hL.R 352 0 1) ?_
  refine zr_iconst (v := nI 0) dX11_flush_8 (by decide) ?_
  refine zr_callV (md' := mX1_enter) (As := [.int (nI 0)]) dX11_flush_9 mlX11_190 okX1_enter rfl inX1_enter slX1_enter (by decide) (hL.K 1 2) rfl (by omega) (Nat.le_of_ble_eq_true rfl) hcb (c_Disk_enter (d := d - 1) (cm := 0) hcb hL hP (by decide)) (fun k M1 h => by cases h.1) (fun v M1 hq => ?_)
  obtain ⟨e0, x, y, e1, hx, hx1, hy, hy1⟩ := hq
  cases e0
  obtain ⟨hF1, hP1⟩ := ent_pw hL hP e1 hx1 hy1
  have hL1 := hF1.lay hL
  have hcb1 := hF1.cb hcb
  have hcx1 : zC M1 + 1 ≤ 600128 ∧ zS M1 + 6 ≤ 7301098 := by have := hF1.cs; omega
  have eD1 : zA M1 (ad 2) = zA M (ad 2) := hF1.rA (by decide) (by decide)
  have htr1 : zI M1 369 (ad 0) = nI tr := (hF1.rI (by decide) (by decide)).trans htr9
  refine zr_aload_n dX11_flush_12 rfl ?_
  refine zr_iconst (v := nI 0) dX11_flush_13 (by decide) ?_
  refine zr_callV (md' := mX11_settle) (As := [.int (nI 0)]) dX11_flush_14 mlX11_194 okX11_settle rfl inX11_settle slX11_settle (by decide) (hL1.K 0 12) rfl (by omega) (Nat.le_of_ble_eq_true rfl) hcb1 (c_settle (d := d - 1) (lm := 0) (tr0 := tr) (by omega) hcb1 hcx1 hL1 (hvw.fl hF1) (by omega) (by omega) (by omega) (a1.fl hF1) hP1 htr1 (by decide)) (fun k M9 h => zt_out rfl (by rcases h with ⟨h, _⟩ | ⟨h, hc, hX, hO, ⟨lf9, cn9, hP9⟩, t9, ht9, ht8⟩; cases h; cases h; exact wk_x hS hon (hF1.mono.trans0 hX.mono) hvw hO (by omega) ((hy.mp hc).2) hP9 (by omega) ht8)) (fun v M2 hq => ?_)
  rcases hq with ⟨e0, E2, Ls2, fl2, tr2, hF12, ⟨lf2, cn2, hP2, hcn2⟩, hOn2, hsm2, hfl2, ht2, ht2b⟩ | ⟨e0, _⟩
  rotate_left
  · cases e0
  cases e0
  have hf9 := hfl2 rfl
  subst hf9
  rw [eD1] at hsm2
  have hF2 : Fl ad 0 LW LWA LWB M M2 := hF1.mono.trans0 hF12.mono
  have hL2 := hF2.lay hL (by decide) (by decide)
  have hcb2 := hF2.cb hcb
  have hcx2 : zC M2 + 1 ≤ 600128 ∧ zS M2 + 6 ≤ 7301098 := by have := hF2.cs; omega
  refine zr_aload_n dX11_flush_17 rfl ?_
  refine zr_getR dX11_flush_18 lkX11_12 (by decide) (by decide) rfl (hL2.K 0 12) (hL2.R 352 0 1) ?_
  refine zr_callV (md' := mX1_leave) (As := []) dX11_flush_21 mlX11_197 okX1_leave rfl inX1_leave slX1_leave (by decide) (hL2.K 1 2) rfl (by omega) (Nat.le_of_ble_eq_true rfl) hcb2 (c_Disk_leave (d := d - 1) (by omega) hcb2 hcx2 hL2 hP2) (fun k M9 h => zt_out rfl (by rcases h with ⟨_, h, _⟩ | ⟨hd9, h, e9⟩; cases h; cases h; obtain ⟨g1, g2, g3⟩ := lev_off hL2 hP2 hOn2.off e9; exact wk_x hS hon (hF2.trans0 g1.mono) hvw g3 (by omega) (by rcases hx.mp hd9 with z | z; exact absurd z.1 (by decide); exact z.2) g2 (by omega) ((g1.rI (by decide) (by decide)).trans ht2))) (fun v M9 hq => ?_)
  rcases hq with ⟨hd9, e0, e9⟩ | ⟨_, e0, _⟩
  rotate_left
  · cases e0
  cases e0
  rw [e9]
  refine zr_vret dX11_flush_24 rfl ?_
  exact wk_ok hS hon hF2 a2 hvw hVs hOn2 hsm2 hP2 (by omega) ht2 (fun z => by have := hx.mpr (Or.inr ⟨rfl, z⟩); omega)
set_option maxRecDepth 100000 in
set_option maxHeartbeats 4000000 in
theorem l_compact {G : zG} {ad : Nat → Nat} {d k0 n0 : Nat} {E : List Nat} {Ls : Nat → List zF} {M : zM} {Q : zOut → zM → Prop} (hd : 1 ≤ d) (hcb : zC M ≤ 600128 ∧ zS M ≤ 7301098) (hL : Lay ad M) (hS9 : Sto ad M E Ls) (hk : ∀ M' : zM, Pks ad M M' 3 (fun _ => 0) (fun l => (Ls l).length) → zw G mX11_compact d k0 n0 Q 34 [some (.ref ((ad 0))), some (.int (nI 3))] [] M') : ∀ (m i : Nat) (M1 : zM), 3 - i = m → i ≤ 3 → Pks ad M M1 i (fun _ => 0) (fun l => (Ls l).length) → zw G mX11_compact d k0 n0 Q 14 [some (.ref ((ad 0))), some (.int (nI i))] [] M1 := by
  intro m
  induction m using Nat.strongRecOn with
  | _ m ih =>
    intro i M1 hm hn hp
    have hL1 := hp.1.lay hL
    have hcb1 := hp.1.cb hcb
    refine zr_iload_n dX11_compact_14 rfl ?_
    refine zr_iconst (v := nI 3) dX11_compact_15 (by decide) ?_
    refine zr_icmp_geN 34 dX11_compact_16 (by decide) (by omega) (by omega) (fun h16 => ?_) (fun h16 => ?_)
    · have e9 : i = 3 := by omega
      subst e9
      exact hk M1 hp
    · refine zr_aload_n dX11_compact_19 rfl ?_
      refine zr_getR dX11_compact_20 lkX11_63 (by decide) (by decide) rfl (hL1.K 0 12) (hL1.R 360 0 22) ?_
      refine zr_iload_n dX11_compact_23 rfl ?_
      refine zr_aaldK dX11_compact_24 (Or.inl (hL1.K 22 18)) (hL1.N 22 3) (by omega) (by omega) (hL1.lv (by omega)) ?_
      refine zr_callV (md' := mX4_pickAll) (As := []) dX11_compact_25 mlX11_200 okX4_pickAll rfl inX4_pickAll slX4_pickAll (by decide) (hL1.Kl (by omega)) rfl (by omega) (Nat.le_of_ble_eq_true rfl) hcb1 (c_Level_pickAll (d := d - 1) (l := i) hcb1 hL1 (by omega) ((hS9.2.2.2 i (by omega)).1.fl hp.1 (by omega))) (fun k M1 h => by cases h.1) (fun v M2 hq => ?_)
      obtain ⟨e0, e2⟩ := hq
      cases e0
      refine zr_iincN (n := 1) (lv' := [some (.ref ((ad 0))), some (.int (nI (i + 1)))]) dX11_compact_28 (Nat.le_of_ble_eq_true rfl) (Nat.le_of_ble_eq_true rfl) rfl rfl rfl ?_
      refine zr_goto 14 dX11_compact_31 (by decide) ?_
      exact ih _ (by omega) (i + 1) M2 rfl (by omega) (hp.add hL1 (by omega) e2)
set_option maxRecDepth 100000 in
set_option maxHeartbeats 4000000 in
theorem a_compact {G : zG} {ad : Nat → Nat} {d n : Nat} {A : As} {M : zM} (hd : 12 ≤ d) (hS : Sa ad M A n) (hn : n < 64)  : zMet G mX11_compact d [.ref ((ad 0))] M (Pst ad M n (sWork A)) := by
  obtain ⟨hcb, hcx⟩ := hS.cb (by omega)
  obtain ⟨⟨hL, hrm, hK, hV, ⟨pl, hpl, hpr⟩, ⟨tr, htr, htr9⟩, ⟨lf, ct, du, cn, hP⟩, hMw, hcn⟩, hcase⟩ := id hS
  have hoff : aF A = 1 → Pst ad M n (sWork A) (.inr 0) (zthr M) := fun z => by
    have e9 : (sWork A) = (A, .inr 0) := by
      unfold sWork; exact if_pos z
    rw [e9]
    exact ⟨rfl, hS.thr, 1, thr_fk ad M⟩
  refine zMet_of (by decide +kernel) (Nat.le_of_ble_eq_true rfl) rfl hcb ?_
  show zw G mX11_compact d _ _ _ 0 [some (.ref ((ad 0))), none] [] M
  refine zr_aload_n dX11_compact_0 rfl ?_
  refine zr_callV (md' := mX11_requireOn) (As := []) dX11_compact_1 mlX11_108 okX11_requireOn rfl inX11_requireOn slX11_requireOn (by decide) (hL.K 0 12) rfl (by omega) (Nat.le_of_ble_eq_true rfl) hcb (c_requireOn (d := d - 1) (on9 := 1 - aF A) (by omega) hcb hcx hL hP.1 (by omega)) (fun k M9 h => zt_out rfl (by rcases h with ⟨_, h, _⟩ | ⟨h0, h, e9⟩; exact absurd h (by simp); cases h; rw [e9]; exact hoff (by omega))) (fun v M9 hq => ?_)
  rcases hq with ⟨h0, e0, e9⟩ | ⟨_, e0, _⟩
  rotate_left
  · cases e0
  cases e0
  rw [e9]
  have hon : aF A = 0 := by have := hS.on; omega
  have hc9 := hcase.resolve_right (fun z => by have := z.1; omega)
  obtain ⟨E, Ls, n1, v, a1, a2, hvw, hVs⟩ := id hc9.2.1
  rw [show 1 - aF A = 1 by omega] at hP
  refine zr_aload_n dX11_compact_4 rfl ?_
  refine zr_getR dX11_compact_5 lkX11_12 (by decide) (by decide) rfl (hL.K 0 12) (hL.R 352 0 1) ?_
  refine zr_iconst (v := nI 0) dX11_compact_8 (by decide) ?_
  refine zr_callV (md' := mX1_enter) (As := [.int (nI 0)]) dX11_compact_9 mlX11_190 okX1_enter rfl inX1_enter slX1_enter (by decide) (hL.K 1 2) rfl (by omega) (Nat.le_of_ble_eq_true rfl) hcb (c_Disk_enter (d := d - 1) (cm := 0) hcb hL hP (by decide)) (fun k M1 h => by cases h.1) (fun v M1 hq => ?_)
  obtain ⟨e0, x, y, e1, hx, hx1, hy, hy1⟩ := hq
  cases e0
  obtain ⟨hF1, hP1⟩ := ent_pw hL hP e1 hx1 hy1
  have hL1 := hF1.lay hL
  have hcb1 := hF1.cb hcb
  have hcx1 : zC M1 + 1 ≤ 600128 ∧ zS M1 + 6 ≤ 7301098 := by have := hF1.cs; omega
  have eD1 : zA M1 (ad 2) = zA M (ad 2) := hF1.rA (by decide) (by decide)
  have htr1 : zI M1 369 (ad 0) = nI tr := (hF1.rI (by decide) (by decide)).trans htr9
  refine zr_iconst (v := nI 0) dX11_compact_12 (by decide) ?_
  refine zr_istore_n (lv' := [some (.ref ((ad 0))), some (.int (nI 0))]) dX11_compact_13 (Nat.le_of_ble_eq_true rfl) (Nat.le_of_ble_eq_true rfl) rfl rfl ?_
  obtain ⟨ar, us, to, to2, g, cm, rs, hO, hU, hB⟩ := id a1
  refine l_compact (by omega) hcb1 hL1 (hO.1.fl hF1) (fun M5 hp => ?_) _ 0 M1 rfl (by omega) ⟨Fl.refl _ _ _ _ _, fun l hl => by omega⟩
  have hF5 : Fl ad 0 [38, 39, 132, 133] [] [] M M5 := hF1.mono.trans0 hp.1.mono
  have hL5 := hF5.lay hL
  have hcb5 := hF5.cb hcb
  have hcx5 : zC M5 + 1 ≤ 600128 ∧ zS M5 + 6 ≤ 7301098 := by have := hF5.cs; omega
  have eD5 : zA M5 (ad 2) = zA M (ad 2) := hF5.rA (by decide) (by decide)
  have htr5 : zI M5 369 (ad 0) = nI tr := (hF5.rI (by decide) (by decide)).trans htr9
  have hO5 := hO.fl hF5 (hm := hO.2.2.2.2.1.fl hF5)
  have h163 := hO5.2.2.2.2.2.1
  have hus : us ≤ 18432 := by have := hB.2.2.1; have := hO.2.2.2.2.2.2.2.2.2.2.2.2.1; omega
  refine zr_aload_n dX11_compact_34 rfl ?_
  refine zr_iconst (v := nI 2) dX11_compact_35 (by decide) ?_
  refine zr_aload_n dX11_compact_36 rfl ?_
  refine zr_getR dX11_compact_37 lkX11_50 (by decide) (by decide) rfl (hL5.K 0 12) (hL5.R 358 0 15) ?_
  refine zr_getI dX11_compact_40 lkX11_203 (by decide) (by decide) rfl (hL5.K 15 6) ?_
  refine zr_as (y := (nI us)) h163 ?_
  refine zr_if_leN 50 dX11_compact_43 (by decide) (by omega) (fun h43 => ?_) (fun h43 => ?_)
  · refine zr_iconst (v := nI 0) dX11_compact_50 (by decide) ?_
    refine zr_callV (md' := mX11_join) (As := [.int (nI 2), .int (nI 0)]) dX11_compact_51 mlX11_206 okX11_join rfl inX11_join slX11_join (by decide) (hL5.K 0 12) rfl (by omega) (Nat.le_of_ble_eq_true rfl) hcb5 (c_join0 (d := d - 1) (wl := 0) (t := 2) (fl := 1) (lo := fun _ => 0) (hi := fun l => (Ls l).length) (v := v) (by omega) hcb5 hcx5 hL5 hO5 (by rw [eD5]; exact hU) (by rw [eD5]; exact hB) (hP1.fl hp.1) (by omega) (by omega) (by decide) (by decide) (fun l _ => Nat.zero_le _) (fun l _ => Nat.le_refl _) hp.2 (pok_all (fun _ => rfl) (fun l _ => rfl)) (hvw.fl hF5)) (fun k M9 h => zt_out rfl (by rcases h with ⟨_, _, _, _, h, _⟩ | ⟨h, hc, hX, hO9, lf9, cn9, hP9⟩; cases h; cases h; exact wk_x hS hon (hF5.mono.trans0 hX.mono) hvw (hO9.mono (Nat.le_refl _) (by omega)) (by omega) ((hy.mp hc).2) hP9 (by omega) ((hX.rI (by decide) (by decide)).trans htr5))) (fun v M2 hq => ?_)
    rcases hq with ⟨r9, E2, Ls2, fl2, e0, hr9, hF12, ⟨lf2, cn2, hP2, hcn2⟩, hOn3, hsm2, hfl2, _⟩ | ⟨e0, _⟩
    rotate_left
    · cases e0
    cases e0
    have hf9 := hfl2 rfl
    subst hf9
    rw [eD5] at hsm2
    have hOn2 := hOn3.mono (Nat.le_refl n1) (show 600 * n + 1 ≤ 600 * n + 600 by omega)
    have hF2 : Fl ad 0 LW LWA LWB M M2 := hF5.mono.trans0 hF12.mono
    have hL2 := hF2.lay hL (by decide) (by decide)
    have hcb2 := hF2.cb hcb
    have hcx2 : zC M2 + 1 ≤ 600128 ∧ zS M2 + 6 ≤ 7301098 := by have := hF2.cs; omega
    have ht2 : zI M2 369 (ad 0) = nI tr := (hF12.rI (by decide) (by decide)).trans htr5
    refine zr_pop dX11_compact_54 rfl ?_
    refine zr_aload_n dX11_compact_55 rfl ?_
    refine zr_getR dX11_compact_56 lkX11_12 (by decide) (by decide) rfl (hL2.K 0 12) (hL2.R 352 0 1) ?_
    refine zr_callV (md' := mX1_leave) (As := []) dX11_compact_59 mlX11_197 okX1_leave rfl inX1_leave slX1_leave (by decide) (hL2.K 1 2) rfl (by omega) (Nat.le_of_ble_eq_true rfl) hcb2 (c_Disk_leave (d := d - 1) (by omega) hcb2 hcx2 hL2 hP2) (fun k M9 h => zt_out rfl (by rcases h with ⟨_, h, _⟩ | ⟨hd9, h, e9⟩; cases h; cases h; obtain ⟨g1, g2, g3⟩ := lev_off hL2 hP2 hOn2.off e9; exact wk_x hS hon (hF2.trans0 g1.mono) hvw g3 (by omega) (by rcases hx.mp hd9 with z | z; exact absurd z.1 (by decide); exact z.2) g2 (by omega) ((g1.rI (by decide) (by decide)).trans ht2))) (fun v M9 hq => ?_)
    rcases hq with ⟨hd9, e0, e9⟩ | ⟨_, e0, _⟩
    rotate_left
    · cases e0
    cases e0
    rw [e9]
    refine zr_vret dX11_compact_62 rfl ?_
    exact wk_ok hS hon hF2 a2 hvw hVs hOn2 hsm2 hP2 (by omega) ht2 (fun z => by have := hx.mpr (Or.inr ⟨rfl, z⟩); omega)
  · refine zr_iconst (v := nI 1) dX11_compact_46 (by decide) ?_
    refine zr_goto 51 dX11_compact_47 (by decide) ?_
    refine zr_callV (md' := mX11_join) (As := [.int (nI 2), .int (nI 1)]) dX11_compact_51 mlX11_206 okX11_join rfl inX11_join slX11_join (by decide) (hL5.K 0 12) rfl (by omega) (Nat.le_of_ble_eq_true rfl) hcb5 (c_join0 (d := d - 1) (wl := 1) (t := 2) (fl := 1) (lo := fun _ => 0) (hi := fun l => (Ls l).length) (v := v) (by omega) hcb5 hcx5 hL5 hO5 (by rw [eD5]; exact hU) (by rw [eD5]; exact hB) (hP1.fl hp.1) (by omega) (by omega) (by decide) (by decide) (fun l _ => Nat.zero_le _) (fun l _ => Nat.le_refl _) hp.2 (pok_all (fun _ => rfl) (fun l _ => rfl)) (hvw.fl hF5)) (fun k M9 h => zt_out rfl (by rcases h with ⟨_, _, _, _, h, _⟩ | ⟨h, hc, hX, hO9, lf9, cn9, hP9⟩; cases h; cases h; exact wk_x hS hon (hF5.mono.trans0 hX.mono) hvw (hO9.mono (Nat.le_refl _) (by omega)) (by omega) ((hy.mp hc).2) hP9 (by omega) ((hX.rI (by decide) (by decide)).trans htr5))) (fun v M2 hq => ?_)
    rcases hq with ⟨r9, E2, Ls2, fl2, e0, hr9, hF12, ⟨lf2, cn2, hP2, hcn2⟩, hOn3, hsm2, hfl2, _⟩ | ⟨e0, _⟩
    rotate_left
    · cases e0
    cases e0
    have hf9 := hfl2 rfl
    subst hf9
    rw [eD5] at hsm2
    have hOn2 := hOn3.mono (Nat.le_refl n1) (show 600 * n + 1 ≤ 600 * n + 600 by omega)
    have hF2 : Fl ad 0 LW LWA LWB M M2 := hF5.mono.trans0 hF12.mono
    have hL2 := hF2.lay hL (by decide) (by decide)
    have hcb2 := hF2.cb hcb
    have hcx2 : zC M2 + 1 ≤ 600128 ∧ zS M2 + 6 ≤ 7301098 := by have := hF2.cs; omega
    have ht2 : zI M2 369 (ad 0) = nI tr := (hF12.rI (by decide) (by decide)).trans htr5
    refine zr_pop dX11_compact_54 rfl ?_
    refine zr_aload_n dX11_compact_55 rfl ?_
    refine zr_getR dX11_compact_56 lkX11_12 (by decide) (by decide) rfl (hL2.K 0 12) (hL2.R 352 0 1) ?_
    refine zr_callV (md' := mX1_leave) (As := []) dX11_compact_59 mlX11_197 okX1_leave rfl inX1_leave slX1_leave (by decide) (hL2.K 1 2) rfl (by omega) (Nat.le_of_ble_eq_true rfl) hcb2 (c_Disk_leave (d := d - 1) (by omega) hcb2 hcx2 hL2 hP2) (fun k M9 h => zt_out rfl (by rcases h with ⟨_, h, _⟩ | ⟨hd9, h, e9⟩; cases h; cases h; obtain ⟨g1, g2, g3⟩ := lev_off hL2 hP2 hOn2.off e9; exact wk_x hS hon (hF2.trans0 g1.mono) hvw g3 (by omega) (by rcases hx.mp hd9 with z | z; exact absurd z.1 (by decide); exact z.2) g2 (by omega) ((g1.rI (by decide) (by decide)).trans ht2))) (fun v M9 hq => ?_)
    rcases hq with ⟨hd9, e0, e9⟩ | ⟨_, e0, _⟩
    rotate_left
    · cases e0
    cases e0
    rw [e9]
    refine zr_vret dX11_compact_62 rfl ?_
    exact wk_ok hS hon hF2 a2 hvw hVs hOn2 hsm2 hP2 (by omega) ht2 (fun z => by have := hx.mpr (Or.inr ⟨rfl, z⟩); omega)
set_option maxRecDepth 100000 in
set_option maxHeartbeats 4000000 in
theorem a_reopen {G : zG} {ad : Nat → Nat} {d n : Nat} {A : As} {M : zM} (hd : 12 ≤ d) (hS : Sa ad M A n) (hn : n < 64)  : zMet G mX11_reopen d [.ref ((ad 0))] M (Pst ad M n (sReo A)) := by
  obtain ⟨hcb, hcx⟩ := hS.cb (by omega)
  obtain ⟨⟨hL, hrm, hK, hV, ⟨pl, hpl, hpr⟩, ⟨tr, htr, htr9⟩, ⟨lf, ct, du, cn, hP⟩, hMw, hcn⟩, hcase⟩ := id hS
  have hOf : Ofn ad M (aC A) n (600 * n) (aM A) := by
    rcases hcase with ⟨_, ⟨E, Ls, n1, v, a1, a2, _⟩, _⟩ | ⟨_, h, _⟩
    · exact a1.off.mono (by omega) (Nat.le_refl _)
    · exact h
  obtain ⟨v0, hvw0⟩ : ∃ v, zVw M (ad 13) (ad 14) v := by
    rcases hcase with ⟨_, ⟨E, Ls, n1, v, a1, a2, a3, _⟩, _⟩ | ⟨_, _, h, _⟩
    · exact ⟨v, a3⟩
    · exact h
  refine zMet_of (by decide +kernel) (Nat.le_of_ble_eq_true rfl) rfl hcb ?_
  show zw G mX11_reopen d _ _ _ 0 [some (.ref ((ad 0)))] [] M
  refine zr_aload_n dX11_reopen_0 rfl ?_
  refine zr_getR dX11_reopen_1 lkX11_34 (by decide) (by decide) rfl (hL.K 0 12) (hL.R 356 0 10) ?_
  refine zr_iconst (v := nI 0) dX11_reopen_4 (by decide) ?_
  refine zr_putZ dX11_reopen_5 lkX11_111 (by decide) (by decide) rfl rfl (Or.inl rfl) (hL.K 10 1) ?_
  obtain ⟨M1, e1⟩ : ∃ z, z = zput M 4 (ad 10) (nI 0) := ⟨_, rfl⟩
  rw [← e1]
  have hF1 : Fl ad 0 [4] [] [] M M1 := by rw [e1]; exact (Fl.refl ad _ _ _ M).put hL (f := 4) (i := 10)
  have hL1 := hF1.lay hL
  have hcb1 := hF1.cb hcb
  have h41 : zI M1 4 (ad 10) = nI 0 := by rw [e1]; exact zput_hit _ _ _ _
  refine zr_aload_n dX11_reopen_8 rfl ?_
  refine zr_getR dX11_reopen_9 lkX11_41 (by decide) (by decide) rfl (hL1.K 0 12) (hL1.R 357 0 13) ?_
  refine zr_callV (md' := mX9_clear) (As := []) dX11_reopen_12 mlX11_215 okX9_clear rfl inX9_clear slX9_clear (by decide) (hL1.K 13 10) rfl (by omega) (Nat.le_of_ble_eq_true rfl) hcb1 (c_Views_clear (d := d - 1) hcb1 (hvw0.fl hF1)) (fun k M1 h => by cases h.1) (fun v M2 hq => ?_)
  obtain ⟨e0, e2⟩ := hq
  cases e0
  have hF12 : Fl ad 0 [] [14] [] M1 M2 := by rw [e2]; exact (Fl.refl ad _ _ _ M1).setA hL1 (i := 14)
  have hF2 : Fl ad 0 [4] [14] [] M M2 := hF1.mono.trans0 hF12.mono
  have hL2 := hF2.lay hL
  have hcb2 := hF2.cb hcb
  have h42 := (hF12.rI (f := 4) (i := 10) (by decide) (by decide)).trans h41
  have hvw2 : zVw M2 (ad 13) (ad 14) (fun _ => none) := by
    obtain ⟨c1, c2, c3, c4, c5, c6⟩ := hvw0.fl hF1
    rw [e2]
    refine ⟨c1, c2, c3, c4, fun j hj => ?_, fun j c9 hj => (by cases hj)⟩
    rw [show zA (zsetA M1 (ad 14) (zclr (zA M1 (ad 14)) 8)) (ad 14) = zclr (zA M1 (ad 14)) 8 from zsetA_hit _ _ _]
    unfold zclr
    rw [if_pos hj]
    rfl
  have hOf2 := hOf.fl hF2 (by decide) (by decide) (hOf.2.1.fl hF2)
  obtain ⟨⟨g0, ar0, us0, cm0, Ls0, rs0, E0, hU0⟩, hm0, h3660⟩ := hOf2
  refine zr_aload_n dX11_reopen_15 rfl ?_
  refine zr_callV (md' := mX11_load) (As := []) dX11_reopen_16 mlX11_218 okX11_load rfl inX11_load slX11_load (by decide) (hL2.K 0 12) rfl (by omega) (Nat.le_of_ble_eq_true rfl) hcb2 (c_load (d := d - 1) (by omega) hcb2 hL2 hU0 hm0 (by omega) (by omega)) (fun k M1 h => by cases h.1) (fun v M3 hq => ?_)
  obtain ⟨e0, hF23, E, Ls, hOn3⟩ := hq
  cases e0
  have hF3 : Fl ad 0 LX LXA LWB M M3 := hF2.mono.trans0 hF23.mono
  have hL3 := hF3.lay hL (by decide) (by decide)
  have hcb3 := hF3.cb hcb
  have h43 := (hF23.rI (f := 4) (i := 10) (by decide) (by decide)).trans h42
  have hvw3 := hvw2.fl hF23
  refine zr_aload_n dX11_reopen_19 rfl ?_
  refine zr_callV (md' := mX11_recount) (As := []) dX11_reopen_20 mlX11_221 okX11_recount rfl inX11_recount slX11_recount (by decide) (hL3.K 0 12) rfl (by omega) (Nat.le_of_ble_eq_true rfl) hcb3 (c_recount (d := d - 1) (by omega) hcb3 hL3 hOn3 (by omega) hMw.1) (fun k M1 h => by cases h.1) (fun v M4 hq => ?_)
  obtain ⟨e0, hF34, h364, h365⟩ := hq
  cases e0
  have hF4 : Fl ad 0 LX LXA LWB M M4 := hF3.trans0 hF34.mono
  have hL4 := hF4.lay hL (by decide) (by decide)
  have hcb4 := hF4.cb hcb
  have h44 := (hF34.rI (f := 4) (i := 10) (by decide) (by decide)).trans h43
  have hvw4 := hvw3.fl hF34
  have hOn4 := hOn3.fl hF34
  have hPa : Pw ad M4 (1 - aF A) (aW A) lf ct du cn := ((hP.fl hF2).fl hF23).fl hF34
  have htr4 : zI M4 369 (ad 0) = nI tr := (hF34.rI (by decide) (by decide)).trans ((hF23.rI (by decide) (by decide)).trans ((hF2.rI (by decide) (by decide)).trans htr9))
  refine zr_aload_n dX11_reopen_23 rfl ?_
  refine zr_getR dX11_reopen_24 lkX11_12 (by decide) (by decide) rfl (hL4.K 0 12) (hL4.R 352 0 1) ?_
  refine zr_iconst (v := nI 1) dX11_reopen_27 (by decide) ?_
  refine zr_putZ dX11_reopen_28 lkX11_224 (by decide) (by decide) rfl rfl (Or.inr rfl) (hL4.K 1 2) ?_
  obtain ⟨M5, e5⟩ : ∃ z, z = zput M4 34 (ad 1) (nI 1) := ⟨_, rfl⟩
  rw [← e5]
  have hF45 : Fl ad 0 [34] [] [] M4 M5 := by rw [e5]; exact (Fl.refl ad _ _ _ M4).put hL4 (f := 34) (i := 1)
  have hF5 : Fl ad 0 LX LXA LWB M M5 := hF4.trans0 hF45.mono
  have hL5 := hF5.lay hL (by decide) (by decide)
  have hcb5 := hF5.cb hcb
  have hP5 : Pw ad M5 1 (aW A) lf ct du cn := by
    obtain ⟨p1, p2, p3, p4, p5, p6, p7, p8⟩ := hPa
    exact ⟨by rw [e5]; exact zput_hit _ _ _ _, (hF45.rI (by decide) (by decide)).trans p2, (hF45.rI (by decide) (by decide)).trans p3, (hF45.rI (by decide) (by decide)).trans p4, (hF45.rI (by decide) (by decide)).trans p5, (hF45.rI (by decide) (by decide)).trans p6, by decide, p8⟩
  refine zr_aload_n dX11_reopen_31 rfl ?_
  refine zr_getR dX11_reopen_32 lkX11_12 (by decide) (by decide) rfl (hL5.K 0 12) (hL5.R 352 0 1) ?_
  refine zr_iconst (v := nI 0) dX11_reopen_35 (by decide) ?_
  refine zr_callV (md' := mX1_enter) (As := [.int (nI 0)]) dX11_reopen_36 mlX11_190 okX1_enter rfl inX1_enter slX1_enter (by decide) (hL5.K 1 2) rfl (by omega) (Nat.le_of_ble_eq_true rfl) hcb5 (c_Disk_enter (d := d - 1) (cm := 0) hcb5 hL5 hP5 (by decide)) (fun k M1 h => by cases h.1) (fun v M6 hq => ?_)
  obtain ⟨e0, x, y, e6, hx, hx1, hy, hy1⟩ := hq
  cases e0
  obtain ⟨hF56, hP6⟩ := ent_pw hL5 hP5 e6 hx1 hy1
  have hF46 : Fl ad 0 [34, 38, 39] [] [] M4 M6 := hF45.mono.trans0 hF56.mono
  have hF6 : Fl ad 0 LX LXA LWB M M6 := hF4.trans0 hF46.mono
  have hL6 := hF6.lay hL (by decide) (by decide)
  have hcb6 := hF6.cb hcb
  have hcx6 : zC M6 + 1 ≤ 600128 ∧ zS M6 + 6 ≤ 7301098 := by have := hF6.cs; omega
  have htr6 : zI M6 369 (ad 0) = nI tr := (hF46.rI (by decide) (by decide)).trans htr4
  have e9 : aW A = 2 → sReo A = (fell A, .inr 2) := fun z => if_pos z
  refine zr_aload_n dX11_reopen_39 rfl ?_
  refine zr_iconst (v := -1) dX11_reopen_40 (by decide) ?_
  refine zr_callV (md' := mX11_settle) (As := [.int ((-1))]) dX11_reopen_41 mlX11_194 okX11_settle rfl inX11_settle slX11_settle (by decide) (hL6.K 0 12) rfl (by omega) (Nat.le_of_ble_eq_true rfl) hcb6 (c_settleM (d := d - 1) (tr0 := tr) (by omega) hcb6 hcx6 hL6 (hvw4.fl hF46) (by omega) (by omega) (by omega) (hOn4.fl hF46) hP6 htr6 (fun _ _ => rfl)) (fun k M9 h => zt_out rfl (by rcases h with ⟨h, _⟩ | ⟨h, hc, hX, hO, ⟨lf9, cn9, hP9⟩, t9, ht9, ht8⟩; cases h; cases h; rw [e9 (hy.mp hc).2]; exact ⟨rfl, hS.of (hF6.trans0 hX.mono) ((hvw4.fl hF46).fl hX) hO (by omega) (by omega) hP9 (by omega) ht8, 1, (hF6.trans0 hX.mono).mono0⟩)) (fun v M7 hq => ?_)
  rcases hq with ⟨e0, E2, Ls2, fl2, tr2, hF67, ⟨lf2, cn2, hP2, hcn2⟩, hOn2, hsm2, hfl2, ht2, ht2b⟩ | ⟨e0, _⟩
  rotate_left
  · cases e0
  cases e0
  have hf9 := hfl2 rfl
  subst hf9
  have hF7 : Fl ad 0 LX LXA LWB M M7 := hF6.trans0 hF67.mono
  have hL7 := hF7.lay hL (by decide) (by decide)
  have hcb7 := hF7.cb hcb
  have hcx7 : zC M7 + 1 ≤ 600128 ∧ zS M7 + 6 ≤ 7301098 := by have := hF7.cs; omega
  refine zr_aload_n dX11_reopen_44 rfl ?_
  refine zr_getR dX11_reopen_45 lkX11_12 (by decide) (by decide) rfl (hL7.K 0 12) (hL7.R 352 0 1) ?_
  refine zr_callV (md' := mX1_leave) (As := []) dX11_reopen_48 mlX11_197 okX1_leave rfl inX1_leave slX1_leave (by decide) (hL7.K 1 2) rfl (by omega) (Nat.le_of_ble_eq_true rfl) hcb7 (c_Disk_leave (d := d - 1) (by omega) hcb7 hcx7 hL7 hP2) (fun k M9 h => zt_out rfl (by rcases h with ⟨_, h, _⟩ | ⟨hd9, h, e8⟩; cases h; cases h; obtain ⟨g1, g2, g3⟩ := lev_off hL7 hP2 hOn2.off e8; rw [e9 (by rcases hx.mp hd9 with z | z; exact absurd z.1 (by decide); exact z.2)]; exact ⟨rfl, hS.of (hF7.trans0 g1.mono) (((hvw4.fl hF46).fl hF67).fl g1) g3 (by omega) (by omega) g2 (by omega) ((g1.rI (by decide) (by decide)).trans ht2), 1, (hF7.trans0 g1.mono).mono0⟩)) (fun v M9 hq => ?_)
  rcases hq with ⟨hd9, e0, e8⟩ | ⟨_, e0, _⟩
  rotate_left
  · cases e0
  cases e0
  rw [e8]
  have hw2 : aW A ≠ 2 := fun z => by have := hx.mpr (Or.inr ⟨rfl, z⟩); omega
  refine zr_aload_n dX11_reopen_51 rfl ?_
  refine zr_getR dX11_reopen_52 lkX11_12 (by decide) (by decide) rfl (hL7.K 0 12) (hL7.R 352 0 1) ?_
  refine zr_iconst (v := nI 3) dX11_reopen_55 (by decide) ?_
  refine zr_iconst (v := nI 0) dX11_reopen_56 (by decide) ?_
  refine zr_iconst (v := nI 0) dX11_reopen_57 (by decide) ?_
  refine zr_callV (md' := mX1_plan) (As := [.int (nI 3), .int (nI 0), .int (nI 0)]) dX11_reopen_58 mlX11_211 okX1_plan rfl inX1_plan slX1_plan (by decide) (hL7.K 1 2) rfl (by omega) (Nat.le_of_ble_eq_true rfl) hcb7 (c_Disk_plan (d := d - 1) (x := 3) (y := 0) (z := 0) hcb7 hL7 hP2) (fun k M1 h => by cases h.1) (fun v M8 hq => ?_)
  obtain ⟨e0, e8⟩ := hq
  cases e0
  have hF78 : Fl ad 0 [35, 36, 37] [] [] M7 M8 := by rw [e8]; exact (((Fl.refl ad _ _ _ M7).put hL7 (f := 35) (i := 1)).put hL7 (f := 36) (i := 1)).put hL7 (f := 37) (i := 1)
  have hF8 : Fl ad 0 LX LXA LWB M M8 := hF7.trans0 hF78.mono
  have hL8 := hF8.lay hL (by decide) (by decide)
  have h368 : zI M8 364 (ad 0) = nI (msz (aM A)) := (hF78.rI (by decide) (by decide)).trans ((hF67.rI (by decide) (by decide)).trans ((hF46.rI (by decide) (by decide)).trans h364))
  have h369 : zI M8 365 (ad 0) = nI (aM A).length := (hF78.rI (by decide) (by decide)).trans ((hF67.rI (by decide) (by decide)).trans ((hF46.rI (by decide) (by decide)).trans h365))
  have h48 : zI M8 4 (ad 10) = nI 0 := (hF78.rI (by decide) (by decide)).trans ((hF67.rI (by decide) (by decide)).trans ((hF46.rI (by decide) (by decide)).trans h44))
  have hP8 : Pw ad M8 1 3 0 0 x cn2 := by
    obtain ⟨p1, p2, p3, p4, p5, p6, p7, p8, p9, p10, p11, p12⟩ := hP2
    exact ⟨(hF78.rI (by decide) (by decide)).trans p1, by rw [e8]; exact zput_ms (f := 37) (by decide) (zput_ms (f := 36) (by decide) (zput_hit _ _ _ _)), by rw [e8]; exact zput_ms (f := 37) (by decide) (zput_hit _ _ _ _), by rw [e8]; exact zput_hit _ _ _ _, (hF78.rI (by decide) (by decide)).trans p5, (hF78.rI (by decide) (by decide)).trans p6, p7, by decide, by decide, by decide, p11, p12⟩
  refine zr_aload_n dX11_reopen_61 rfl ?_
  refine zr_getI dX11_reopen_62 lkX11_227 (by decide) (by decide) rfl (hL8.K 0 12) ?_
  refine zr_as (y := (nI (msz (aM A)))) h368 ?_
  refine zr_iret dX11_reopen_65 rfl ?_
  have e7 : sReo A = ((aM A, aK A, aV A, [], 0, 0, 3, aC A, fun _ => none), .inl (some (.int (nI (msz (aM A)))))) := if_neg hw2
  rw [e7]
  exact ⟨rfl, hS.re hF8 (((hvw4.fl hF46).fl hF67).fl hF78) (hOn2.fl hF78) (by omega) hP8 (show tr2 ≤ 600 * n + 600 by omega) ((hF78.rI (by decide) (by decide)).trans ht2) h48 h368 h369, 0, hF8.mono0⟩
