/-! ===== LsmStore$Writer: open ===== -/
theorem Us.fj {ad : Nat → Nat} {c j : Nat} {LF LA LB : List Nat} {M M1 : zM} {us : List Nat} (h : Us ad M us) (hF : Fl ad c LF LA LB M M1) (h1 : 70 ∉ LF := by decide) (h2 : 260 ∉ LF := by decide) : Us ad M1 us := h.fl hF h1 h2
theorem tt_fj {ad : Nat → Nat} {M : zM} (hL : Lay ad M) {j n : Nat} (hj : j < 256) : Fj ad 0 j [70] [] [] M (ttM ad M j n) := ((((Fj.refl ad j _ _ _ M).putT hL (f := 260) (by omega)).putT hL (f := 258) (by omega)).putT hL (f := 259) (by omega)).put hL (f := 70) (i := 17)
theorem tt_tb {ad : Nat → Nat} {M : zM} (hL : Lay ad M) {j n : Nat} : Tb ad (ttM ad M j n) j [] none := ⟨zput_ms (f := 70) (by decide) (zput_ms (f := 259) (by decide) (zput_hit _ _ _ _)), by decide, fun i q hi => by simp at hi, zput_ms (f := 70) (by decide) (zput_hit _ _ _ _)⟩
theorem Fj.trans {ad : Nat → Nat} {j : Nat} {LF LA LB : List Nat} {M M1 M2 : zM} (h : Fj ad 0 j LF LA LB M M1) (g : Fj ad 0 j LF LA LB M1 M2) : Fj ad 0 j LF LA LB M M2 := by
  have := Fr.trans h g
  exact this
theorem Fj.mono {ad : Nat → Nat} {c j : Nat} {LF LA LB LF1 LA1 LB1 : List Nat} {M M1 : zM} (h : Fj ad c j LF LA LB M M1) (hF : LF ⊆ LF1 := by decide) (hA : LA ⊆ LA1 := by decide) (hB : LB ⊆ LB1 := by decide) : Fj ad c j LF1 LA1 LB1 M M1 :=
  Fr.mono h (fun f i z => z.imp (fun y => hF y) id) (fun i z => z.imp (fun y => ⟨y.1, hA y.2⟩) id) (fun i z => hB z)
theorem Fj.lay {ad : Nat → Nat} {c j : Nat} {LF LA LB : List Nat} {M M1 : zM} (h : Fj ad c j LF LA LB M M1) (hL : Lay ad M) (h20 : 20 ∉ LB := by decide) (h22 : 22 ∉ LB := by decide) : Lay ad M1 := Fr.lay h hL h20 h22
theorem Fj.cb {ad : Nat → Nat} {j : Nat} {LF LA LB : List Nat} {M M1 : zM} (h : Fj ad 0 j LF LA LB M M1) (hcb : zC M ≤ 600128 ∧ zS M ≤ 7301098) : zC M1 ≤ 600128 ∧ zS M1 ≤ 7301098 := by
  have : zC M1 = zC M + 0 ∧ zS M1 = zS M + 6 * 0 := h.2.2.2.2.2.2.2
  omega
theorem zsetB_fj {ad : Nat → Nat} {M : zM} (hL : Lay ad M) (j n c : Nat) : Fj ad 0 j [325] [] [29] M (zput (zsetB M (ad 29) (va_up (zB M (ad 29)) n (some (ad (tA j))))) 325 (ad 26) (nI c)) := ((Fj.refl ad j _ _ _ M).setB hL (i := 29)).put hL (f := 325) (i := 26)
theorem setA_fj {ad : Nat → Nat} {M : zM} (hL : Lay ad M) (j q : Nat) (g : Nat → Int32) (hq : q < 64) : Fj ad 0 j [] [q] [] M (zsetA M (ad q) g) := (Fj.refl ad j _ _ _ M).setA hL (i := q) ⟨hq, List.mem_singleton.mpr rfl⟩ (by omega)
theorem zfil_in {f : Nat → Int32} {n k : Nat} (h : k < n) : zfil f n k = 0 := if_pos h
set_option maxRecDepth 100000 in
set_option maxHeartbeats 4000000 in
theorem c_Writer_open2 {G : zG} {ad : Nat → Nat} {d cnt : Nat} {us : List Nat} {M : zM} (hd : 2 ≤ d) (hcb : zC M ≤ 600128 ∧ zS M ≤ 7301098) (hL : Lay ad M) (hU : Us ad M us) (hul : us.length < 256) (hc : zI M 325 (ad 26) = nI cnt) (hc2 : cnt < 256)  : zMet G mX10_open d [.ref ((ad 26)), .int (nI 2)] M (fun o M' => ∃ j, o = .inl none ∧ j ∉ us ∧ j < 256 ∧ Fj ad 0 j [70, 325] [27, 28] [29] M M' ∧ Us ad M' (j :: us) ∧ Tb ad M' j [] none ∧ zI M' 325 (ad 26) = nI (cnt + 1) ∧ zB M' (ad 29) cnt = some (ad (tA j)) ∧ (∀ k, k ≠ cnt → zB M' (ad 29) k = zB M (ad 29) k) ∧ (∀ k, k < 512 → zA M' (ad 27) k = 0) ∧ ∀ k, k < 512 → zA M' (ad 28) k = 0) := by
  refine zMet_of (by decide +kernel) (Nat.le_of_ble_eq_true rfl) rfl hcb ?_
  show zw G mX10_open d _ _ _ 0 [some (.ref ((ad 26))), some (.int (nI 2)), none] [] M
  refine zr_iload_n dX10_open_0 rfl ?_
  refine zr_iconst (v := nI 2) dX10_open_1 (by decide) ?_
  refine zr_icmp_neN 55 dX10_open_2 (by decide) (by omega) (by omega) (fun h2 => ?_) (fun h2 => ?_)
  · exact absurd rfl h2
  · refine zr_aload_n dX10_open_5 rfl ?_
    refine zr_getR dX10_open_6 lkX10_15 (by decide) (by decide) rfl (hL.K 26 11) (hL.R 323 26 28) ?_
    refine zr_iconst (v := nI 0) dX10_open_9 (by decide) ?_
    refine zr_callS (md' := mJ7_fill_031fb) (As := [.ref ((ad 28)), .int (nI 0)]) dX10_open_10 mlX10_89 okJ7_fill_031fb rfl stJ7_fill_031fb rfl (by omega) (Nat.le_of_ble_eq_true rfl) hcb (c_fill (d := d - 1) hcb (hL.K 28 14) (hL.N 28 512) (by decide)) (fun k M1 h => by cases h.1) (fun v M1 hq => ?_)
    obtain ⟨e0, e1⟩ := hq
    cases e0
    have hF1 : Fl ad 0 [] [28] [] M M1 := by rw [e1]; exact (Fl.refl ad _ _ _ M).setA hL (i := 28)
    have hL1 := hF1.lay hL
    have hcb1 := hF1.cb hcb
    have hU1 := hU.fl hF1
    have hc1 : zI M1 325 (ad 26) = nI cnt := (hF1.rI (by decide) (by decide)).trans hc
    have h28 : ∀ k, k < 512 → zA M1 (ad 28) k = 0 := fun k hk => by rw [e1, zsetA_hit]; exact zfil_in hk
    refine zr_aload_n dX10_open_13 rfl ?_
    refine zr_getR dX10_open_14 lkX10_28 (by decide) (by decide) rfl (hL1.K 26 11) (hL1.R 321 26 17) ?_
    refine zr_callV (md' := mX2_takeTable) (As := []) dX10_open_17 mlX10_94 okX2_takeTable rfl inX2_takeTable slX2_takeTable (by decide) (hL1.K 17 3) rfl (by omega) (Nat.le_of_ble_eq_true rfl) hcb1 (c_Files_takeTable (d := d - 1) (by omega) hcb1 hL1 hU1 hul) (fun k M2 h => by obtain ⟨b, h, -⟩ := h; cases h) (fun v M2 hq => ?_)
    obtain ⟨j, e0, hj1, hj2, e2⟩ := hq
    cases e0
    have hF2 : Fj ad 0 j [70] [] [] M1 M2 := by rw [e2]; exact tt_fj hL1 hj2
    have hL2 := hF2.lay hL1
    have hcb2 := hF2.cb hcb1
    have hc2 : zI M2 325 (ad 26) = nI cnt := (hF2.rI (by decide) (by decide)).trans hc1
    have hT2 : Tb ad M2 j [] none := by rw [e2]; exact tt_tb hL1
    have hU2 : Us ad M2 (j :: us) := by rw [e2]; exact hU1.add hL1 hj1 hj2 rfl
    refine zr_astore_n (lv' := [some (.ref ((ad 26))), some (.int (nI 2)), some (.ref ((ad (tA j))))]) dX10_open_20 (Nat.le_of_ble_eq_true rfl) (Nat.le_of_ble_eq_true rfl) rfl rfl ?_
    refine zr_aload_n dX10_open_21 rfl ?_
    refine zr_ifnull dX10_open_22 ?_
    refine zr_aload_n dX10_open_25 rfl ?_
    refine zr_getI dX10_open_26 lkX10_74 (by decide) (by decide) rfl (hL2.K 26 11) ?_
    refine zr_as (y := (nI cnt)) hc2 ?_
    refine zr_sipush (v := nI 256) dX10_open_29 (by decide) ?_
    refine zr_icmp_geN 55 dX10_open_32 (by decide) (by omega) (by omega) (fun h32 => ?_) (fun h32 => ?_)
    · exfalso; omega
    · refine zr_aload_n dX10_open_35 rfl ?_
      refine zr_getR dX10_open_36 lkX10_20 (by decide) (by decide) rfl (hL2.K 26 11) (hL2.R 324 26 29) ?_
      refine zr_aload_n dX10_open_39 rfl ?_
      refine zr_getI dX10_open_40 lkX10_74 (by decide) (by decide) rfl (hL2.K 26 11) ?_
      refine zr_as (y := (nI cnt)) hc2 ?_
      refine zr_aload_n dX10_open_43 rfl ?_
      refine zr_aastN dX10_open_44 (Or.inr ⟨hL2.K 29 19, hL2.Kt (by omega)⟩) (hL2.N 29 256) (by omega) (by omega) ?_
      refine zr_aload_n dX10_open_45 rfl ?_
      refine zr_dup dX10_open_46 rfl ?_
      refine zr_getI dX10_open_47 lkX10_74 (by decide) (by decide) rfl (hL2.K 26 11) ?_
      refine zr_as (y := (nI cnt)) hc2 ?_
      refine zr_iconst (v := nI 1) dX10_open_50 (by decide) ?_
      refine zr_iaddN dX10_open_51 ?_
      refine zr_putI dX10_open_52 lkX10_74 (by decide) (by decide) rfl rfl (hL2.K 26 11) ?_
      refine zr_iload_n dX10_open_55 rfl ?_
      refine zr_if_eqN 67 dX10_open_56 (by decide) (by omega) (fun h56 => ?_) (fun h56 => ?_)
      · refine zr_vret dX10_open_67 rfl ?_
        exact absurd h56 (by decide)
      · refine zr_aload_n dX10_open_59 rfl ?_
        refine zr_getR dX10_open_60 lkX10_9 (by decide) (by decide) rfl (hL2.K 26 11) (hL2.R 322 26 27) ?_
        refine zr_iconst (v := nI 0) dX10_open_63 (by decide) ?_
        refine zr_callS (md' := mJ7_fill_031fb) (As := [.ref ((ad 27)), .int (nI 0)]) dX10_open_64 mlX10_89 okJ7_fill_031fb rfl stJ7_fill_031fb rfl (by omega) (Nat.le_of_ble_eq_true rfl) hcb2 (c_fill (d := d - 1) (M := (zput (zsetB M2 (ad 29) (va_up (zB M2 (ad 29)) cnt (some (ad (tA j))))) 325 (ad 26) (nI (cnt + 1)))) hcb2 (hL2.K 27 14) (hL2.N 27 512) (by decide)) (fun k M1 h => by cases h.1) (fun v M3 hq => ?_)
        obtain ⟨e0, e3⟩ := hq
        cases e0
        have hF3 : Fj ad 0 j [325] [27] [29] M2 M3 := by rw [e3]; exact ((zsetB_fj hL2 j cnt (cnt + 1)).mono).setA hL2 (i := 27)
        refine zr_vret dX10_open_67 rfl ?_
        have hF3l : Fl ad 0 [325] [27] [29] M2 M3 := by rw [e3]; exact (((Fl.refl ad _ _ _ M2).setB hL2 (i := 29)).put hL2 (f := 325) (i := 26)).setA hL2 (i := 27)
        refine ⟨j, rfl, hj1, hj2, ?_, ?_, ?_, ?_, ?_, ?_, ?_, ?_⟩
        · have a1 : Fj ad 0 j [70, 325] [27, 28] [29] M M1 := by rw [e1]; exact (setA_fj hL j 28 _ (by decide)).mono
          exact (a1.trans hF2.mono).trans hF3.mono
        · exact hU2.fl hF3l
        · exact hT2.fl hF3l (by omega)
        · rw [e3]; exact zput_hit _ _ _ _
        · rw [e3]; exact (congrFun (zsetB_hit _ _ _) cnt).trans (va_up_self _ _ _)
        · intro k hk
          have hb : zB M2 (ad 29) k = zB M (ad 29) k := (congrFun (hF2.rB (by decide) (by decide)) k).trans (congrFun (hF1.rB (by decide) (by decide)) k)
          rw [e3]
          exact ((congrFun (zsetB_hit _ _ _) k).trans (va_up_ne _ _ hk)).trans hb
        · intro k hk
          rw [e3, zsetA_hit]
          exact zfil_in hk
        · intro k hk
          exact ((congrFun (hF3.rA (by decide) (by decide)) k).trans (congrFun (hF2.rA (by decide) (by decide)) k)).trans (h28 k hk)
set_option maxRecDepth 100000 in
set_option maxHeartbeats 4000000 in
theorem c_Writer_open1 {G : zG} {ad : Nat → Nat} {d : Nat} {M : zM} (hd : 1 ≤ d) (hcb : zC M ≤ 600128 ∧ zS M ≤ 7301098) (hL : Lay ad M)  : zMet G mX10_open d [.ref ((ad 26)), .int (nI 1)] M (fun o M' => o = .inl none ∧ M' = zsetA M (ad 27) (zfil (zA M (ad 27)) 512)) := by
  refine zMet_of (by decide +kernel) (Nat.le_of_ble_eq_true rfl) rfl hcb ?_
  show zw G mX10_open d _ _ _ 0 [some (.ref ((ad 26))), some (.int (nI 1)), none] [] M
  refine zr_iload_n dX10_open_0 rfl ?_
  refine zr_iconst (v := nI 2) dX10_open_1 (by decide) ?_
  refine zr_icmp_neN 55 dX10_open_2 (by decide) (by omega) (by omega) (fun h2 => ?_) (fun h2 => ?_)
  · refine zr_iload_n dX10_open_55 rfl ?_
    refine zr_if_eq 67 dX10_open_56 (by decide) (fun h56 => absurd h56 (by decide)) (fun h56 => ?_)
    refine zr_aload_n dX10_open_59 rfl ?_
    refine zr_getR dX10_open_60 lkX10_9 (by decide) (by decide) rfl (hL.K 26 11) (hL.R 322 26 27) ?_
    refine zr_iconst (v := nI 0) dX10_open_63 (by decide) ?_
    refine zr_callS (md' := mJ7_fill_031fb) (As := [.ref ((ad 27)), .int (nI 0)]) dX10_open_64 mlX10_89 okJ7_fill_031fb rfl stJ7_fill_031fb rfl (by omega) (Nat.le_of_ble_eq_true rfl) hcb (c_fill (d := d - 1) hcb (hL.K 27 14) (hL.N 27 512) (by decide)) (fun k M1 h => by cases h.1) (fun v M1 hq => ?_)
    obtain ⟨e0, e1⟩ := hq
    cases e0
    refine zr_vret dX10_open_67 rfl ?_
    exact ⟨rfl, e1⟩
  · exact absurd h2 (by decide)
set_option maxRecDepth 100000 in
set_option maxHeartbeats 4000000 in
theorem c_Writer_open0 {G : zG} {ad : Nat → Nat} {d : Nat} {M : zM} (hcb : zC M ≤ 600128 ∧ zS M ≤ 7301098) (hL : Lay ad M)  : zMet G mX10_open d [.ref ((ad 26)), .int (nI 0)] M (fun o M' => o = .inl none ∧ M' = M) := by
  refine zMet_of (by decide +kernel) (Nat.le_of_ble_eq_true rfl) rfl hcb ?_
  show zw G mX10_open d _ _ _ 0 [some (.ref ((ad 26))), some (.int (nI 0)), none] [] M
  refine zr_iload_n dX10_open_0 rfl ?_
  refine zr_iconst (v := nI 2) dX10_open_1 (by decide) ?_
  refine zr_icmp_neN 55 dX10_open_2 (by decide) (by omega) (by omega) (fun h2 => ?_) (fun h2 => ?_)
  · refine zr_iload_n dX10_open_55 rfl ?_
    refine zr_if_eq 67 dX10_open_56 (by decide) (fun h56 => ?_) (fun h56 => absurd rfl h56)
    refine zr_vret dX10_open_67 rfl ?_
    exact ⟨rfl, rfl⟩
  · exact absurd h2 (by decide)
