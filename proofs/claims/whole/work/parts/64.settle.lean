/-! ===== LsmStore.settle ===== -/
theorem LB_bk : ∀ (fs : List zF), LB fs = (bk fs).length
  | [] => rfl
  | f :: fs => by
    show f.2.1.length + LB fs = (f.2.1 ++ bk fs).length
    rw [List.length_append, LB_bk fs]
theorem bk_le {Ls : Nat → List zF} {l : Nat} (hl : l < 3) : (bk (Ls l)).length ≤ (bks Ls 3).length := by
  have h1 : (bk (Ls l)).Sublist (bks Ls (l + 1)) := List.sublist_append_right _ _
  exact (h1.trans (bks_le (show l + 1 ≤ 3 by omega))).length_le
/-- settle under way: k joins were tried -/
def SSt (ad : Nat → Nat) (M M1 : zM) (E0 : List Nat) (Ls0 : Nat → List zF) (v : Nat → Option Nat) (on wh ct du cn0 c n gm fl0 tr0 k : Nat) (m : Mp) : Prop := ∃ (E : List Nat) (Ls : Nat → List zF) (fl tr : Nat), Fl ad 0 [34, 35, 36, 39, 68, 69, 70, 71, 98, 100, 101, 102, 131, 132, 133, 162, 163, 164, 165, 166, 227, 228, 258, 259, 260, 325, 326, 327, 369] [2, 18, 24, 25, 27, 28, 31, 64] [21, 29, 35, 36, 37] M M1 ∧ (∃ lf cn, Pw ad M1 on wh lf ct du cn ∧ (cn = 1 ↔ cn0 = 1)) ∧ Onn ad M1 E Ls c n (gm + k) fl m ∧ Vsm (zA M (ad 2)) (zA M1 (ad 2)) E0 E Ls0 Ls v ∧ (fl0 = 1 → fl = 1) ∧ zI M1 369 (ad 0) = nI tr ∧ tr ≤ tr0 + k
theorem SSt.mono {ad : Nat → Nat} {M M1 : zM} {E0 : List Nat} {Ls0 : Nat → List zF} {v : Nat → Option Nat} {on wh ct du cn0 c n gm fl0 tr0 k k' : Nat} {m : Mp} (h : SSt ad M M1 E0 Ls0 v on wh ct du cn0 c n gm fl0 tr0 k m) (hk : k ≤ k') : SSt ad M M1 E0 Ls0 v on wh ct du cn0 c n gm fl0 tr0 k' m := by
  obtain ⟨E, Ls, fl, tr, a1, a2, a3, a4, a5, a6, a7⟩ := h
  exact ⟨E, Ls, fl, tr, a1, a2, a3.mono (Nat.le_refl _) (by omega), a4, a5, a6, by omega⟩
set_option maxRecDepth 100000 in
set_option maxHeartbeats 4000000 in
theorem l_settle57 {G : zG} {ad : Nat → Nat} {d k0 n0 on wh ct du cn0 c n gm fl0 tr0 : Nat} {lim : Int32} {E0 : List Nat} {Ls0 : Nat → List zF} {m : Mp} {v : Nat → Option Nat} {M : zM} {Q : zOut → zM → Prop} {i kk : Nat} (hd : 10 ≤ d) (hcb : zC M ≤ 600128 ∧ zS M ≤ 7301098) (hcx : zC M + 1 ≤ 600128 ∧ zS M + 6 ≤ 7301098) (hL : Lay ad M) (hvw : zVw M (ad 13) (ad 14) v) (hn : n ≤ 64) (hgm : gm + 600 ≤ 2 ^ 28) (htr0 : tr0 + 600 ≤ 2 ^ 28) (hqX : ∀ M' : zM, cn0 = 1 → Fl ad 1 [34, 35, 36, 39, 68, 69, 70, 71, 98, 100, 101, 102, 131, 132, 133, 162, 163, 164, 165, 166, 227, 228, 258, 259, 260, 325, 326, 327, 369] [2, 18, 24, 25, 27, 28, 31, 64] [21, 29, 35, 36, 37] M M' → Ofn ad M' c n (gm + 600) m → (∃ lf cn, Pw ad M' 0 3 lf ct du cn) → (∃ tr, tr ≤ tr0 + 600 ∧ zI M' 369 (ad 0) = nI tr) → Q (.inr 2) M') (hi2 : i < 2) (hkk : kk ≤ 300) (hk : ∀ (M' : zM) (j jn : Nat), SSt ad M M' E0 Ls0 v on wh ct du cn0 c n gm fl0 tr0 (kk + 256) m → zw G mX11_settle d k0 n0 Q 181 [some (.ref ((ad 0))), some (.int lim), some (.int (nI i)), some (.int (nI jn)), some (.int (nI j)), none] [] M') : ∀ (z j jn : Nat) (M1 : zM), 256 - j = z → j ≤ 256 → jn ≤ 1 → SSt ad M M1 E0 Ls0 v on wh ct du cn0 c n gm fl0 tr0 (kk + j) m → zw G mX11_settle d k0 n0 Q 57 [some (.ref ((ad 0))), some (.int lim), some (.int (nI i)), some (.int (nI jn)), some (.int (nI j)), none] [] M1 := by
  intro z
  induction z using Nat.strongRecOn with
  | _ z ih =>
    intro j jn M1 hz hj hjn hS
    refine zr_iload dX11_settle_57 rfl ?_
    refine zr_sipush (v := nI 256) dX11_settle_59 (by decide) ?_
    refine zr_icmp_geN 181 dX11_settle_62 (by decide) (by omega) (by omega) (fun h62 => ?_) (fun h62 => ?_)
    · exact hk M1 j jn (hS.mono (by omega))
    · refine zr_iload_n dX11_settle_65 rfl ?_
      refine zr_if_eqN 181 dX11_settle_66 (by decide) (by omega) (fun h66 => ?_) (fun h66 => ?_)
      · exact hk M1 j jn (hS.mono (by omega))
      · obtain ⟨E, Ls, fl, tr, hF1, ⟨lf1, cn1, hP1, hcn1⟩, hOn, hVs, hfl, htr, htr2⟩ := id hS
        obtain ⟨ar, us, to, to2, g, cm, rs, hO, hU, hB⟩ := id hOn
        have hL1 := hF1.lay hL
        have hcb1 := hF1.cb hcb
        have hcx1 : zC M1 + 1 ≤ 600128 ∧ zS M1 + 6 ≤ 7301098 := by have := hF1.cs; omega
        have hi3 : i < 3 := by omega
        have hV1 := (hO.1.2.2.2 i hi3).1
        have hLB : LB (Ls i) ≤ 128 := by rw [LB_bk]; exact Nat.le_trans (bk_le hi3) (hU.sz hn).2.2.1
        refine zr_aload_n dX11_settle_69 rfl ?_
        refine zr_getR dX11_settle_70 lkX11_63 (by decide) (by decide) rfl (hL1.K 0 12) (hL1.R 360 0 22) ?_
        refine zr_iload_n dX11_settle_73 rfl ?_
        refine zr_aaldK dX11_settle_74 (Or.inl (hL1.K 22 18)) (hL1.N 22 3) (by omega) (by omega) (hL1.lv (by omega)) ?_
        refine zr_callV (md' := mX4_blocks) (As := []) dX11_settle_75 mlX11_367 okX4_blocks rfl inX4_blocks slX4_blocks (by decide) (hL1.Kl (by omega)) rfl (by omega) (Nat.le_of_ble_eq_true rfl) hcb1 (c_Level_blocks (d := d - 1) (l := i) (by omega) hcb1 hL1 hi3 hV1) (fun k M1 h => by cases h.1) (fun v M9 hq => ?_)
        obtain ⟨e0, e9⟩ := hq
        cases e0
        rw [e9]
        refine zr_gets dX11_settle_78 lkX11_370 ?_
        refine zr_iload_n dX11_settle_81 rfl ?_
        refine zr_fldN dX11_settle_82 (by omega) ?_
        refine zr_icmp_leN 181 dX11_settle_83 (by decide) (by omega) (by split <;> decide) (fun h83 => ?_) (fun h83 => ?_)
        · exact hk M1 j jn (hS.mono (by omega))
        · refine zr_aload_n dX11_settle_86 rfl ?_
          refine zr_callV (md' := mX11_pickNone) (As := []) dX11_settle_87 mlX11_354 okX11_pickNone rfl inX11_pickNone slX11_pickNone (by decide) (hL1.K 0 12) rfl (by omega) (Nat.le_of_ble_eq_true rfl) hcb1 (c_pickNone (d := d - 1) (by omega) hcb1 hL1) (fun k M9 h => by cases h.1) (fun v M2 hq => ?_)
          obtain ⟨e0, hp2⟩ := hq
          cases e0
          have hL2 := hp2.1.lay hL1
          have hcb2 := hp2.1.cb hcb1
          have h369 : zI M2 369 (ad 0) = nI tr := (hp2.1.rI (by decide) (by decide)).trans htr
          have h131 : zI M2 131 (ad (32 + i)) = nI (Ls i).length := (hp2.1.rI (by decide) (by omega)).trans hV1.1
          have hlen : (Ls i).length ≤ 256 := hV1.2.1
          refine zr_aload_n dX11_settle_90 rfl ?_
          refine zr_getI dX11_settle_91 lkX11_373 (by decide) (by decide) rfl (hL2.K 0 12) ?_
          refine zr_as (y := (nI tr)) h369 ?_
          refine zr_iconst (v := nI 1) dX11_settle_94 (by decide) ?_
          refine zr_aload_n dX11_settle_95 rfl ?_
          refine zr_getR dX11_settle_96 lkX11_63 (by decide) (by decide) rfl (hL2.K 0 12) (hL2.R 360 0 22) ?_
          refine zr_iload_n dX11_settle_99 rfl ?_
          refine zr_aaldK dX11_settle_100 (Or.inl (hL2.K 22 18)) (hL2.N 22 3) (by omega) (by omega) (hL2.lv (by omega)) ?_
          refine zr_getI dX11_settle_101 lkX11_376 (by decide) (by decide) rfl (hL2.Kl (by omega)) ?_
          refine zr_as (y := (nI ((Ls i).length))) h131 ?_
          refine zr_callS (md' := mJ9_max_7cf53) (As := [.int (nI 1), .int (nI ((Ls i).length))]) dX11_settle_104 mlX11_379 okJ9_max_7cf53 rfl stJ9_max_7cf53 rfl (by omega) (Nat.le_of_ble_eq_true rfl) hcb2 (c_max (d := d - 1) hcb2 (by decide) (by omega)) (fun k M1 h => by cases h.1) (fun v M9 hq => ?_)
          obtain ⟨e0, e9⟩ := hq
          cases e0
          rw [e9]
          refine zr_callS (md' := mJ9_floorMod_7cf53) (As := [.int (nI tr), .int (nI (max 1 (Ls i).length))]) dX11_settle_107 mlX11_384 okJ9_floorMod_7cf53 rfl stJ9_floorMod_7cf53 rfl (by omega) (Nat.le_of_ble_eq_true rfl) hcb2 (c_floorMod (d := d - 1) hcb2 (by omega) (by omega) (by omega)) (fun k M1 h => by cases h.1) (fun v M9 hq => ?_)
          obtain ⟨e0, e9⟩ := hq
          cases e0
          rw [e9]
          obtain ⟨one, hone⟩ : ∃ z, z = tr % max 1 (Ls i).length := ⟨_, rfl⟩
          rw [← hone]
          have hol : one < (Ls i).length := by have h1 := Nat.mod_lt tr (show max 1 (Ls i).length > 0 by omega); have h2 : (Ls i).length ≠ 0 := fun z => by { have h3 := List.length_eq_zero_iff.mp z; rw [h3] at h83; exact Nat.not_lt_zero _ h83 }; omega
          obtain ⟨f0, hf0⟩ : ∃ f0, (Ls i)[one]? = some f0 := ⟨_, List.getElem?_eq_getElem hol⟩
          refine zr_istore (lv' := [some (.ref ((ad 0))), some (.int lim), some (.int (nI i)), some (.int (nI jn)), some (.int (nI j)), some (.int (nI one))]) dX11_settle_110 (Nat.le_of_ble_eq_true rfl) (Nat.le_of_ble_eq_true rfl) rfl rfl ?_
          refine zr_aload_n dX11_settle_112 rfl ?_
          refine zr_dup dX11_settle_113 rfl ?_
          refine zr_getI dX11_settle_114 lkX11_373 (by decide) (by decide) rfl (hL2.K 0 12) ?_
          refine zr_as (y := (nI tr)) h369 ?_
          refine zr_iconst (v := nI 1) dX11_settle_117 (by decide) ?_
          refine zr_iaddN dX11_settle_118 ?_
          refine zr_putI dX11_settle_119 lkX11_373 (by decide) (by decide) rfl rfl (hL2.K 0 12) ?_
          obtain ⟨M3, e3⟩ : ∃ z, z = zput M2 369 (ad 0) (nI (tr + 1)) := ⟨_, rfl⟩
          rw [← e3]
          have hF23 : Fl ad 0 [369] [] [] M2 M3 := by rw [e3]; exact (Fl.refl ad _ _ _ M2).put hL2 (f := 369) (i := 0)
          have hL3 := hF23.lay hL2
          have hcb3 := hF23.cb hcb2
          have hF13 : Fl ad 0 [132, 133, 369] [] [] M1 M3 := hp2.1.mono.trans0 hF23.mono
          have hV3 := hV1.fl hF13 hi3
          refine zr_aload_n dX11_settle_122 rfl ?_
          refine zr_getR dX11_settle_123 lkX11_63 (by decide) (by decide) rfl (hL3.K 0 12) (hL3.R 360 0 22) ?_
          refine zr_iload_n dX11_settle_126 rfl ?_
          refine zr_aaldK dX11_settle_127 (Or.inl (hL3.K 22 18)) (hL3.N 22 3) (by omega) (by omega) (hL3.lv (by omega)) ?_
          refine zr_iload dX11_settle_128 rfl ?_
          refine zr_callV (md' := mX4_pickOne) (As := [.int (nI one)]) dX11_settle_130 mlX11_387 okX4_pickOne rfl inX4_pickOne slX4_pickOne (by decide) (hL3.Kl (by omega)) rfl (by omega) (Nat.le_of_ble_eq_true rfl) hcb3 (c_Level_pickOne (d := d - 1) (l := i) (i := one) (by omega) hcb3 hL3 hi3 hV3 hol) (fun k M1 h => by cases h.1) (fun v M4 hq => ?_)
          obtain ⟨e0, e4⟩ := hq
          cases e0
          have hF34 : Fl ad 0 [132, 133] [] [] M3 M4 := by rw [e4]; exact pkM_fl hL3 hi3 _ _
          have hL4 := hF34.lay hL3
          have hcb4 := hF34.cb hcb3
          have hF14 : Fl ad 0 [132, 133, 369] [] [] M1 M4 := hF13.trans0 hF34.mono
          have hS4 := hO.1.fl hF14
          have hC4 := (hS4.2.2.2 i hi3)
          have hC14 := (hS4.2.2.2 (i + 1) (by omega))
          have eD4 : zA M4 (ad 2) = zA M1 (ad 2) := hF14.rA (by decide) (by decide)
          have hTC := hC4.2.1 f0 (List.mem_of_getElem? hf0)
          obtain ⟨fi, a1, a2, a3, a4, a5, a6⟩ := hTC.fst
          obtain ⟨la, b1, b2, b3, b4, b5, b6, b7⟩ := hTC.lst
          refine zr_aload_n dX11_settle_133 rfl ?_
          refine zr_getR dX11_settle_134 lkX11_63 (by decide) (by decide) rfl (hL4.K 0 12) (hL4.R 360 0 22) ?_
          refine zr_iload_n dX11_settle_137 rfl ?_
          refine zr_iconst (v := nI 1) dX11_settle_138 (by decide) ?_
          refine zr_iaddN dX11_settle_139 ?_
          refine zr_aaldK dX11_settle_140 (Or.inl (hL4.K 22 18)) (hL4.N 22 3) (by omega) (by omega) (hL4.lv (by omega)) ?_
          refine zr_aload_n dX11_settle_141 rfl ?_
          refine zr_getR dX11_settle_142 lkX11_63 (by decide) (by decide) rfl (hL4.K 0 12) (hL4.R 360 0 22) ?_
          refine zr_iload_n dX11_settle_145 rfl ?_
          refine zr_aaldK dX11_settle_146 (Or.inl (hL4.K 22 18)) (hL4.N 22 3) (by omega) (by omega) (hL4.lv (by omega)) ?_
          refine zr_iload dX11_settle_147 rfl ?_
          refine zr_callV (md' := mX4_firstOf) (As := [.int (nI one)]) dX11_settle_149 mlX11_390 okX4_firstOf rfl inX4_firstOf slX4_firstOf (by decide) (hL4.Kl (by omega)) rfl (by omega) (Nat.le_of_ble_eq_true rfl) hcb4 (c_Level_firstOf (d := d - 1) (l := i) (i := one) (by omega) hcb4 hL4 hi3 hC4.1 hC4.2 hf0) (fun k M1 h => by cases h.1) (fun v M9 hq => ?_)
          obtain ⟨e0, e9⟩ := hq
          cases e0
          rw [e9, a1]
          refine zr_as (y := nI fi) rfl ?_
          refine zr_aload_n dX11_settle_152 rfl ?_
          refine zr_getR dX11_settle_153 lkX11_63 (by decide) (by decide) rfl (hL4.K 0 12) (hL4.R 360 0 22) ?_
          refine zr_iload_n dX11_settle_156 rfl ?_
          refine zr_aaldK dX11_settle_157 (Or.inl (hL4.K 22 18)) (hL4.N 22 3) (by omega) (by omega) (hL4.lv (by omega)) ?_
          refine zr_iload dX11_settle_158 rfl ?_
          refine zr_callV (md' := mX4_lastOf) (As := [.int (nI one)]) dX11_settle_160 mlX11_393 okX4_lastOf rfl inX4_lastOf slX4_lastOf (by decide) (hL4.Kl (by omega)) rfl (by omega) (Nat.le_of_ble_eq_true rfl) hcb4 (c_Level_lastOf (d := d - 1) (l := i) (i := one) (by omega) hcb4 hL4 hi3 hC4.1 hC4.2 hf0) (fun k M1 h => by cases h.1) (fun v M9 hq => ?_)
          obtain ⟨e0, e9⟩ := hq
          cases e0
          rw [e9, show (fE f0).getLast? = some la from b1]
          refine zr_as (y := nI la) rfl ?_
          refine zr_callV (md' := mX4_pickOver) (As := [.int (nI fi), .int (nI la)]) dX11_settle_163 mlX11_363 okX4_pickOver rfl inX4_pickOver slX4_pickOver (by decide) (hL4.Kl (by omega)) rfl (by omega) (Nat.le_of_ble_eq_true rfl) hcb4 (c_Level_pickOver (d := d - 1) (l := i + 1) (p := fi) (q := la) (by omega) hcb4 hL4 (by omega) hC14.1 hC14.2 a4 b3) (fun k M9 h => by cases h.1) (fun v M5 hq => ?_)
          obtain ⟨e0, la5, ha5, e5, hl5, hh5, hov⟩ := hq
          cases e0
          rw [eD4] at hov
          have hF45 : Fl ad 0 [132, 133] [] [] M4 M5 := by rw [e5]; exact pkM_fl hL4 (by omega) _ _
          have hL5 := hF45.lay hL4
          have hcb5 := hF45.cb hcb4
          have hF15 : Fl ad 0 [132, 133, 369] [] [] M1 M5 := hF14.trans0 hF45.mono
          have hcx5 : zC M5 + 1 ≤ 600128 ∧ zS M5 + 6 ≤ 7301098 := by have := hF15.cs; omega
          have eD5 : zA M5 (ad 2) = zA M1 (ad 2) := hF15.rA (by decide) (by decide)
          have hF05 : Fl ad 0 [34, 35, 36, 39, 68, 69, 70, 71, 98, 100, 101, 102, 131, 132, 133, 162, 163, 164, 165, 166, 227, 228, 258, 259, 260, 325, 326, 327, 369] [2, 18, 24, 25, 27, 28, 31, 64] [21, 29, 35, 36, 37] M M5 := hF1.trans0 hF15.mono
          obtain ⟨lo, hlo⟩ : ∃ lo : Nat → Nat, ∀ l, lo l = if l = i then one else if l = i + 1 then la5 else 0 := ⟨fun l => if l = i then one else if l = i + 1 then la5 else 0, fun _ => rfl⟩
          obtain ⟨hi, hhi⟩ : ∃ hi : Nat → Nat, ∀ l, hi l = if l = i then one + 1 else if l = i + 1 then ha5 else 0 := ⟨fun l => if l = i then one + 1 else if l = i + 1 then ha5 else 0, fun _ => rfl⟩
          have hpk5 : ∀ l, l < 3 → Pk ad M5 l (lo l) (hi l) := fun l hl => by
            rw [hlo, hhi]
            by_cases e : l = i + 1
            · rw [if_neg (show ¬ l = i by omega), if_neg (show ¬ l = i by omega), if_pos e, if_pos e, e, e5]; exact pkM_pk _ _ _ _ _
            · rw [if_neg e, if_neg e, e5]
              refine pkM_ne hL4 ?_ hl (by omega) e
              by_cases e2 : l = i
              · rw [if_pos e2, if_pos e2, e2, e4]; exact pkM_pk _ _ _ _ _
              · rw [if_neg e2, if_neg e2, e4]
                exact pkM_ne hL3 ((hp2.2 l hl).fl hF23 hl) hl hi3 e2
          have hlh5 : ∀ l, l < 3 → lo l ≤ hi l := fun l hl => by
            rw [hlo, hhi]
            by_cases e : l = i
            · rw [if_pos e, if_pos e]; omega
            · rw [if_neg e, if_neg e]
              by_cases e2 : l = i + 1
              · rw [if_pos e2, if_pos e2]; exact hl5
              · rw [if_neg e2, if_neg e2]; exact Nat.le_refl _
          have hhl5 : ∀ l, l < 3 → hi l ≤ (Ls l).length := fun l hl => by
            rw [hhi]
            by_cases e : l = i
            · rw [if_pos e, e]; omega
            · rw [if_neg e]
              by_cases e2 : l = i + 1
              · rw [if_pos e2, e2]; exact hh5
              · rw [if_neg e2]; exact Nat.zero_le _
          rw [eD4] at a6 b5
          have hok5 : ∀ P, P.Perm (pks 0 E Ls lo hi 3) → Pok (zA M5 (ad 2)) Ls lo hi (i + 1) P := by rw [eD5]; exact pok_lvl (by omega) hlo hhi (fun l hl => (hO.1.2.2.2 l hl).2) hU.2.2.2.1.1 hl5 hf0 a6 b5 hov
          have htr5 : zI M5 369 (ad 0) = nI (tr + 1) := (hF45.rI (by decide) (by decide)).trans ((hF34.rI (by decide) (by decide)).trans (by rw [e3]; exact zput_hit _ _ _ _))
          have hxj : ∀ M9 : zM, cn1 = 1 → Fl ad 1 [34, 35, 36, 39, 68, 69, 70, 71, 98, 100, 101, 102, 131, 133, 162, 163, 164, 165, 166, 227, 228, 258, 259, 260, 325, 326, 327] [2, 18, 24, 25, 27, 28, 31, 64] [21, 29, 35, 36, 37] M5 M9 → Ofn ad M9 c n (gm + (kk + j) + 1) m → (∃ lf cn, Pw ad M9 0 3 lf ct du cn) → Q (.inr 2) M9 := fun M9 z0 z1 z2 z3 => hqX M9 (hcn1.mp z0) (hF05.trans0 z1.mono) (z2.mono (Nat.le_refl _) (by omega)) z3 ⟨tr + 1, by omega, (z1.rI (by decide) (by decide)).trans htr5⟩
          have hO5 := hO.fl hF15 (hm := hO.msc.fl hF15)
          have hU5 : Dur (zA M5 (ad 2)) g ar us cm c n (gm + (kk + j)) Ls rs E m := by rw [eD5]; exact hU
          have hB5 : Blk (zA M5 (ad 2)) ar us to to2 fl := by rw [eD5]; exact hB
          refine zr_aload_n dX11_settle_166 rfl ?_
          refine zr_iload_n dX11_settle_167 rfl ?_
          refine zr_iconst (v := nI 1) dX11_settle_168 (by decide) ?_
          refine zr_iaddN dX11_settle_169 ?_
          refine zr_iconst (v := nI 0) dX11_settle_170 (by decide) ?_
          refine zr_callV (md' := mX11_join) (As := [.int (nI (i + 1)), .int (nI 0)]) dX11_settle_171 mlX11_206 okX11_join rfl inX11_join slX11_join (by decide) (hL5.K 0 12) rfl (by omega) (Nat.le_of_ble_eq_true rfl) hcb5 (c_join0 (d := d - 1) (t := i + 1) (wl := 0) (by omega) hcb5 hcx5 hL5 hO5 hU5 hB5 (hP1.fl hF15) hn (by omega) (by decide) (by omega) hlh5 hhl5 hpk5 hok5 (hvw.fl hF05)) (fun k M9 h => zt_out rfl (by rcases h with ⟨_, _, _, _, h, _⟩ | ⟨h, z0, z1, z2, z3⟩; exact absurd h (by simp); cases h; exact hxj _ z0 z1 z2 z3)) (fun v M6 hq => ?_)
          rcases hq with ⟨r, E6, Ls6, fl6, e0, hr1, y1, ⟨lf6, cn6, y2, y2b⟩, y3, y4, y5, y6, y7⟩ | ⟨e0, -⟩
          rotate_left
          · cases e0
          cases e0
          rw [eD5] at y4
          have hS6 : SSt ad M M6 E0 Ls0 v on wh ct du cn0 c n gm fl0 tr0 (kk + (j + 1)) m := ⟨E6, Ls6, fl6, tr + 1, hF05.trans0 y1.mono, ⟨lf6, cn6, y2, y2b.trans hcn1⟩, y3.mono (Nat.le_refl _) (by omega), hVs.trans y4, fun z => y5 (hfl z), (y1.rI (by decide) (by decide)).trans htr5, by omega⟩
          refine zr_istore_n (lv' := [some (.ref ((ad 0))), some (.int lim), some (.int (nI i)), some (.int (nI r)), some (.int (nI j)), some (.int (nI one))]) dX11_settle_174 (Nat.le_of_ble_eq_true rfl) (Nat.le_of_ble_eq_true rfl) rfl rfl ?_
          refine zr_iincN (n := 1) (lv' := [some (.ref ((ad 0))), some (.int lim), some (.int (nI i)), some (.int (nI r)), some (.int (nI (j + 1))), some (.int (nI one))]) dX11_settle_175 (Nat.le_of_ble_eq_true rfl) (Nat.le_of_ble_eq_true rfl) rfl rfl rfl ?_
          refine zr_goto 57 dX11_settle_178 (by decide) ?_
          refine zr_drop 5 rfl ?_
          exact ih _ (by omega) (j + 1) r M6 rfl (by omega) (by omega) hS6
set_option maxRecDepth 100000 in
set_option maxHeartbeats 4000000 in
theorem t_settle47_2 {G : zG} {ad : Nat → Nat} {d k0 n0 on wh ct du cn0 c n gm fl0 tr0 : Nat} {lim : Int32} {E0 : List Nat} {Ls0 : Nat → List zF} {m : Mp} {v : Nat → Option Nat} {M : zM} {Q : zOut → zM → Prop} {M1 : zM} (hd : 10 ≤ d) (hcb : zC M ≤ 600128 ∧ zS M ≤ 7301098) (hcx : zC M + 1 ≤ 600128 ∧ zS M + 6 ≤ 7301098) (hL : Lay ad M) (hvw : zVw M (ad 13) (ad 14) v) (hn : n ≤ 64) (hgm : gm + 600 ≤ 2 ^ 28) (htr0 : tr0 + 600 ≤ 2 ^ 28) (hqX : ∀ M' : zM, cn0 = 1 → Fl ad 1 [34, 35, 36, 39, 68, 69, 70, 71, 98, 100, 101, 102, 131, 132, 133, 162, 163, 164, 165, 166, 227, 228, 258, 259, 260, 325, 326, 327, 369] [2, 18, 24, 25, 27, 28, 31, 64] [21, 29, 35, 36, 37] M M' → Ofn ad M' c n (gm + 600) m → (∃ lf cn, Pw ad M' 0 3 lf ct du cn) → (∃ tr, tr ≤ tr0 + 600 ∧ zI M' 369 (ad 0) = nI tr) → Q (.inr 2) M') (hq0 : ∀ M' : zM, SSt ad M M' E0 Ls0 v on wh ct du cn0 c n gm fl0 tr0 600 m → Q (.inl none) M') (hS : SSt ad M M1 E0 Ls0 v on wh ct du cn0 c n gm fl0 tr0 513 m) : zw G mX11_settle d k0 n0 Q 47 [some (.ref ((ad 0))), some (.int lim), some (.int (nI 2)), none, none, none] [] M1 := by
  refine zr_iload_n dX11_settle_47 rfl ?_
  refine zr_iconst (v := nI 2) dX11_settle_48 (by decide) ?_
  refine zr_icmp_geN 187 dX11_settle_49 (by decide) (by omega) (by omega) (fun h49 => ?_) (fun h49 => ?_)
  · refine zr_vret dX11_settle_187 rfl ?_
    exact hq0 M1 (hS.mono (by decide))
  · exact absurd h49 (by decide)
set_option maxRecDepth 100000 in
set_option maxHeartbeats 4000000 in
theorem t_settle47_1 {G : zG} {ad : Nat → Nat} {d k0 n0 on wh ct du cn0 c n gm fl0 tr0 : Nat} {lim : Int32} {E0 : List Nat} {Ls0 : Nat → List zF} {m : Mp} {v : Nat → Option Nat} {M : zM} {Q : zOut → zM → Prop} {M1 : zM} (hd : 10 ≤ d) (hcb : zC M ≤ 600128 ∧ zS M ≤ 7301098) (hcx : zC M + 1 ≤ 600128 ∧ zS M + 6 ≤ 7301098) (hL : Lay ad M) (hvw : zVw M (ad 13) (ad 14) v) (hn : n ≤ 64) (hgm : gm + 600 ≤ 2 ^ 28) (htr0 : tr0 + 600 ≤ 2 ^ 28) (hqX : ∀ M' : zM, cn0 = 1 → Fl ad 1 [34, 35, 36, 39, 68, 69, 70, 71, 98, 100, 101, 102, 131, 132, 133, 162, 163, 164, 165, 166, 227, 228, 258, 259, 260, 325, 326, 327, 369] [2, 18, 24, 25, 27, 28, 31, 64] [21, 29, 35, 36, 37] M M' → Ofn ad M' c n (gm + 600) m → (∃ lf cn, Pw ad M' 0 3 lf ct du cn) → (∃ tr, tr ≤ tr0 + 600 ∧ zI M' 369 (ad 0) = nI tr) → Q (.inr 2) M') (hq0 : ∀ M' : zM, SSt ad M M' E0 Ls0 v on wh ct du cn0 c n gm fl0 tr0 600 m → Q (.inl none) M') (hS : SSt ad M M1 E0 Ls0 v on wh ct du cn0 c n gm fl0 tr0 257 m) : zw G mX11_settle d k0 n0 Q 47 [some (.ref ((ad 0))), some (.int lim), some (.int (nI 1)), none, none, none] [] M1 := by
  refine zr_iload_n dX11_settle_47 rfl ?_
  refine zr_iconst (v := nI 2) dX11_settle_48 (by decide) ?_
  refine zr_icmp_geN 187 dX11_settle_49 (by decide) (by omega) (by omega) (fun h49 => ?_) (fun h49 => ?_)
  · exact absurd h49 (by decide)
  · refine zr_iconst (v := nI 1) dX11_settle_52 (by decide) ?_
    refine zr_istore_n (lv' := [some (.ref ((ad 0))), some (.int lim), some (.int (nI 1)), some (.int (nI 1)), none, none]) dX11_settle_53 (Nat.le_of_ble_eq_true rfl) (Nat.le_of_ble_eq_true rfl) rfl rfl ?_
    refine zr_iconst (v := nI 0) dX11_settle_54 (by decide) ?_
    refine zr_istore (lv' := [some (.ref ((ad 0))), some (.int lim), some (.int (nI 1)), some (.int (nI 1)), some (.int (nI 0)), none]) dX11_settle_55 (Nat.le_of_ble_eq_true rfl) (Nat.le_of_ble_eq_true rfl) rfl rfl ?_
    refine l_settle57 (kk := 257) hd hcb hcx hL hvw hn hgm htr0 hqX (by decide) (by decide) (fun M' j jn h => ?_) _ 0 1 M1 rfl (by omega) (by omega) hS
    refine zr_iincN (n := 1) (lv' := [some (.ref ((ad 0))), some (.int lim), some (.int (nI (1 + 1))), some (.int (nI jn)), some (.int (nI j)), none]) dX11_settle_181 (Nat.le_of_ble_eq_true rfl) (Nat.le_of_ble_eq_true rfl) rfl rfl rfl ?_
    refine zr_goto 47 dX11_settle_184 (by decide) ?_
    refine zr_drop 3 rfl ?_
    refine zr_drop 4 rfl ?_
    exact t_settle47_2 hd hcb hcx hL hvw hn hgm htr0 hqX hq0 h
set_option maxRecDepth 100000 in
set_option maxHeartbeats 4000000 in
theorem t_settle47_0 {G : zG} {ad : Nat → Nat} {d k0 n0 on wh ct du cn0 c n gm fl0 tr0 : Nat} {lim : Int32} {E0 : List Nat} {Ls0 : Nat → List zF} {m : Mp} {v : Nat → Option Nat} {M : zM} {Q : zOut → zM → Prop} {M1 : zM} (hd : 10 ≤ d) (hcb : zC M ≤ 600128 ∧ zS M ≤ 7301098) (hcx : zC M + 1 ≤ 600128 ∧ zS M + 6 ≤ 7301098) (hL : Lay ad M) (hvw : zVw M (ad 13) (ad 14) v) (hn : n ≤ 64) (hgm : gm + 600 ≤ 2 ^ 28) (htr0 : tr0 + 600 ≤ 2 ^ 28) (hqX : ∀ M' : zM, cn0 = 1 → Fl ad 1 [34, 35, 36, 39, 68, 69, 70, 71, 98, 100, 101, 102, 131, 132, 133, 162, 163, 164, 165, 166, 227, 228, 258, 259, 260, 325, 326, 327, 369] [2, 18, 24, 25, 27, 28, 31, 64] [21, 29, 35, 36, 37] M M' → Ofn ad M' c n (gm + 600) m → (∃ lf cn, Pw ad M' 0 3 lf ct du cn) → (∃ tr, tr ≤ tr0 + 600 ∧ zI M' 369 (ad 0) = nI tr) → Q (.inr 2) M') (hq0 : ∀ M' : zM, SSt ad M M' E0 Ls0 v on wh ct du cn0 c n gm fl0 tr0 600 m → Q (.inl none) M') (hS : SSt ad M M1 E0 Ls0 v on wh ct du cn0 c n gm fl0 tr0 1 m) : zw G mX11_settle d k0 n0 Q 47 [some (.ref ((ad 0))), some (.int lim), some (.int (nI 0)), none, none, none] [] M1 := by
  refine zr_iload_n dX11_settle_47 rfl ?_
  refine zr_iconst (v := nI 2) dX11_settle_48 (by decide) ?_
  refine zr_icmp_geN 187 dX11_settle_49 (by decide) (by omega) (by omega) (fun h49 => ?_) (fun h49 => ?_)
  · exact absurd h49 (by decide)
  · refine zr_iconst (v := nI 1) dX11_settle_52 (by decide) ?_
    refine zr_istore_n (lv' := [some (.ref ((ad 0))), some (.int lim), some (.int (nI 0)), some (.int (nI 1)), none, none]) dX11_settle_53 (Nat.le_of_ble_eq_true rfl) (Nat.le_of_ble_eq_true rfl) rfl rfl ?_
    refine zr_iconst (v := nI 0) dX11_settle_54 (by decide) ?_
    refine zr_istore (lv' := [some (.ref ((ad 0))), some (.int lim), some (.int (nI 0)), some (.int (nI 1)), some (.int (nI 0)), none]) dX11_settle_55 (Nat.le_of_ble_eq_true rfl) (Nat.le_of_ble_eq_true rfl) rfl rfl ?_
    refine l_settle57 (kk := 1) hd hcb hcx hL hvw hn hgm htr0 hqX (by decide) (by decide) (fun M' j jn h => ?_) _ 0 1 M1 rfl (by omega) (by omega) hS
    refine zr_iincN (n := 1) (lv' := [some (.ref ((ad 0))), some (.int lim), some (.int (nI (0 + 1))), some (.int (nI jn)), some (.int (nI j)), none]) dX11_settle_181 (Nat.le_of_ble_eq_true rfl) (Nat.le_of_ble_eq_true rfl) rfl rfl rfl ?_
    refine zr_goto 47 dX11_settle_184 (by decide) ?_
    refine zr_drop 3 rfl ?_
    refine zr_drop 4 rfl ?_
    exact t_settle47_1 hd hcb hcx hL hvw hn hgm htr0 hqX hq0 h
