/-! ===== LsmStore$Head: generationAt, read, readTable ===== -/
theorem nuN_lt (D : Nat → Int32) (p : Nat) : ∀ k, nuN D p k < 256 ^ k
  | 0 => by show 0 < 256 ^ 0; decide
  | k + 1 => by
    have h1 := nuN_lt D p k
    have h2 : zb (D (p + k)) < 256 := Nat.mod_lt _ (by decide)
    show nuN D p k * 256 + zb (D (p + k)) < 256 ^ (k + 1)
    rw [Nat.pow_succ]
    omega
/-- the generation of the head at st, 0 where there is none -/
def gnA (D : Nat → Int32) (st : Nat) : Nat := if nuN D (st + 4) 2 ≤ 4 ∨ 2048 ≤ nuN D (st + 4) 2 ∨ zb (D (st + nuN D (st + 4) 2)) ≠ 165 then 0 else nuN D st 4
set_option maxRecDepth 100000 in
set_option maxHeartbeats 4000000 in
theorem c_Head_generationAt {G : zG} {ad : Nat → Nat} {d st : Nat} {M : zM} (hd : 1 ≤ d) (hcb : zC M ≤ 600128 ∧ zS M ≤ 7301098) (hL : Lay ad M) (hst : st ≤ 2048) (hlt : nuN (zA M (ad 2)) st 4 < 2 ^ 31)  : zMet G mX3_generationAt d [.ref ((ad 30)), .int (nI st)] M (fun o M' => o = .inl (some (.int (nI (gnA (zA M (ad 2)) st)))) ∧ M' = M) := by
  refine zMet_of (by decide +kernel) (Nat.le_of_ble_eq_true rfl) rfl hcb ?_
  show zw G mX3_generationAt d _ _ _ 0 [some (.ref ((ad 30))), some (.int (nI st)), none] [] M
  have hw2 : nuN (zA M (ad 2)) (st + 4) 2 < 65536 := nuN_lt _ _ 2
  refine zr_aload_n dX3_generationAt_0 rfl ?_
  refine zr_getR dX3_generationAt_1 lkX3_15 (by decide) (by decide) rfl (hL.K 30 4) (hL.R 96 30 1) ?_
  refine zr_iload_n dX3_generationAt_4 rfl ?_
  refine zr_iconst (v := nI 4) dX3_generationAt_5 (by decide) ?_
  refine zr_iaddN dX3_generationAt_6 ?_
  refine zr_iconst (v := nI 2) dX3_generationAt_7 (by decide) ?_
  refine zr_callV (md' := mX1_number) (As := [.int (nI (st + 4)), .int (nI 2)]) dX3_generationAt_8 mlX3_96 okX1_number rfl inX1_number slX1_number (by decide) (hL.K 1 2) rfl (by omega) (Nat.le_of_ble_eq_true rfl) hcb (c_Disk_number (d := d - 1) hcb (Lay.dk hL) (by omega) (by decide) (Nat.lt_trans hw2 (by decide))) (fun k M1 h => by cases h.1) (fun v M9 hq => ?_)
  obtain ⟨e0, e9⟩ := hq
  cases e0
  rw [e9]
  refine zr_istore_n (lv' := [some (.ref ((ad 30))), some (.int (nI st)), some (.int (nI (nuN (zA M (ad 2)) (st + 4) 2)))]) dX3_generationAt_11 (Nat.le_of_ble_eq_true rfl) (Nat.le_of_ble_eq_true rfl) rfl rfl ?_
  refine zr_iload_n dX3_generationAt_12 rfl ?_
  refine zr_iconst (v := nI 4) dX3_generationAt_13 (by decide) ?_
  refine zr_icmp_leN 40 dX3_generationAt_14 (by decide) (by omega) (by omega) (fun h14 => ?_) (fun h14 => ?_)
  · refine zr_iconst (v := nI 0) dX3_generationAt_40 (by decide) ?_
    refine zr_iret dX3_generationAt_41 rfl ?_
    exact ⟨by unfold gnA; rw [if_pos (by omega)], rfl⟩
  · refine zr_iload_n dX3_generationAt_17 rfl ?_
    refine zr_sipush (v := nI 2048) dX3_generationAt_18 (by decide) ?_
    refine zr_icmp_geN 40 dX3_generationAt_21 (by decide) (by omega) (by omega) (fun h21 => ?_) (fun h21 => ?_)
    · refine zr_iconst (v := nI 0) dX3_generationAt_40 (by decide) ?_
      refine zr_iret dX3_generationAt_41 rfl ?_
      exact ⟨by unfold gnA; rw [if_pos (by omega)], rfl⟩
    · refine zr_aload_n dX3_generationAt_24 rfl ?_
      refine zr_getR dX3_generationAt_25 lkX3_15 (by decide) (by decide) rfl (hL.K 30 4) (hL.R 96 30 1) ?_
      refine zr_iload_n dX3_generationAt_28 rfl ?_
      refine zr_iload_n dX3_generationAt_29 rfl ?_
      refine zr_iaddN dX3_generationAt_30 ?_
      refine zr_callV (md' := mX1_kind) (As := [.int (nI (st + (nuN (zA M (ad 2)) (st + 4) 2)))]) dX3_generationAt_31 mlX3_99 okX1_kind rfl inX1_kind slX1_kind (by decide) (hL.K 1 2) rfl (by omega) (Nat.le_of_ble_eq_true rfl) hcb (c_Disk_kind (d := d - 1) hcb (Lay.dk hL) (by omega)) (fun k M1 h => by cases h.1) (fun v M9 hq => ?_)
      obtain ⟨e0, e9⟩ := hq
      cases e0
      rw [e9]
      refine zr_sipush (v := nI 165) dX3_generationAt_34 (by decide) ?_
      refine zr_icmp_eqN 42 dX3_generationAt_37 (by decide) (by have := zb_lt ((zA M (ad 2)) (st + nuN (zA M (ad 2)) (st + 4) 2)); omega) (by decide) (fun h37 => ?_) (fun h37 => ?_)
      · refine zr_iconst (v := nI 0) dX3_generationAt_42 (by decide) ?_
        refine zr_aload_n dX3_generationAt_43 rfl ?_
        refine zr_getR dX3_generationAt_44 lkX3_15 (by decide) (by decide) rfl (hL.K 30 4) (hL.R 96 30 1) ?_
        refine zr_iload_n dX3_generationAt_47 rfl ?_
        refine zr_iconst (v := nI 4) dX3_generationAt_48 (by decide) ?_
        refine zr_callV (md' := mX1_number) (As := [.int (nI st), .int (nI 4)]) dX3_generationAt_49 mlX3_96 okX1_number rfl inX1_number slX1_number (by decide) (hL.K 1 2) rfl (by omega) (Nat.le_of_ble_eq_true rfl) hcb (c_Disk_number (d := d - 1) hcb (Lay.dk hL) (by omega) (by decide) hlt) (fun k M1 h => by cases h.1) (fun v M9 hq => ?_)
        obtain ⟨e0, e9⟩ := hq
        cases e0
        rw [e9]
        refine zr_callS (md' := mJ9_max_7cf53) (As := [.int (nI 0), .int (nI (nuN (zA M (ad 2)) st 4))]) dX3_generationAt_52 mlX3_83 okJ9_max_7cf53 rfl stJ9_max_7cf53 rfl (by omega) (Nat.le_of_ble_eq_true rfl) hcb (c_max (d := d - 1) hcb (by omega) hlt) (fun k M1 h => by cases h.1) (fun v M9 hq => ?_)
        obtain ⟨e0, e9⟩ := hq
        cases e0
        rw [e9, Nat.zero_max]
        refine zr_iret dX3_generationAt_55 rfl ?_
        exact ⟨by unfold gnA; rw [if_neg (by omega)], rfl⟩
      · refine zr_iconst (v := nI 0) dX3_generationAt_40 (by decide) ?_
        refine zr_iret dX3_generationAt_41 rfl ?_
        exact ⟨by unfold gnA; rw [if_pos (by omega)], rfl⟩
set_option maxRecDepth 100000 in
set_option maxHeartbeats 4000000 in
theorem c_Head_read {G : zG} {ad : Nat → Nat} {d cu k : Nat} {M : zM} (hd : 1 ≤ d) (hcb : zC M ≤ 600128 ∧ zS M ≤ 7301098) (hL : Lay ad M) (hcu : zI M 99 (ad 30) = nI cu) (hc2 : cu < 8192) (hk : k ≤ 4) (hlt : nuN (zA M (ad 2)) cu k < 2 ^ 31)  : zMet G mX3_read d [.ref ((ad 30)), .int (nI k)] M (fun o M' => o = .inl (some (.int (nI (nuN (zA M (ad 2)) cu k)))) ∧ M' = zput M 99 (ad 30) (nI (cu + k))) := by
  refine zMet_of (by decide +kernel) (Nat.le_of_ble_eq_true rfl) rfl hcb ?_
  show zw G mX3_read d _ _ _ 0 [some (.ref ((ad 30))), some (.int (nI k)), none] [] M
  refine zr_aload_n dX3_read_0 rfl ?_
  refine zr_getR dX3_read_1 lkX3_15 (by decide) (by decide) rfl (hL.K 30 4) (hL.R 96 30 1) ?_
  refine zr_aload_n dX3_read_4 rfl ?_
  refine zr_getI dX3_read_5 lkX3_86 (by decide) (by decide) rfl (hL.K 30 4) ?_
  refine zr_as (y := (nI cu)) hcu ?_
  refine zr_iload_n dX3_read_8 rfl ?_
  refine zr_callV (md' := mX1_number) (As := [.int (nI cu), .int (nI k)]) dX3_read_9 mlX3_96 okX1_number rfl inX1_number slX1_number (by decide) (hL.K 1 2) rfl (by omega) (Nat.le_of_ble_eq_true rfl) hcb (c_Disk_number (d := d - 1) hcb (Lay.dk hL) (by omega) (by omega) hlt) (fun k M1 h => by cases h.1) (fun v M9 hq => ?_)
  obtain ⟨e0, e9⟩ := hq
  cases e0
  rw [e9]
  refine zr_istore_n (lv' := [some (.ref ((ad 30))), some (.int (nI k)), some (.int (nI (nuN (zA M (ad 2)) cu k)))]) dX3_read_12 (Nat.le_of_ble_eq_true rfl) (Nat.le_of_ble_eq_true rfl) rfl rfl ?_
  refine zr_aload_n dX3_read_13 rfl ?_
  refine zr_dup dX3_read_14 rfl ?_
  refine zr_getI dX3_read_15 lkX3_86 (by decide) (by decide) rfl (hL.K 30 4) ?_
  refine zr_as (y := (nI cu)) hcu ?_
  refine zr_iload_n dX3_read_18 rfl ?_
  refine zr_iaddN dX3_read_19 ?_
  refine zr_putI dX3_read_20 lkX3_86 (by decide) (by decide) rfl rfl (hL.K 30 4) ?_
  refine zr_iload_n dX3_read_23 rfl ?_
  refine zr_iret dX3_read_24 rfl ?_
  exact ⟨rfl, rfl⟩
/-- while a table's blocks are read -/
def RT (ad : Nat → Nat) (M0 M1 : zM) (j cu : Nat) (tk bl : List Nat) (i : Nat) : Prop :=
  Fj ad 0 j [69, 99] [18] [] M0 M1 ∧ zI M1 99 (ad 30) = nI (cu + 2 * i) ∧ Tk ad M1 ((bl.take i).reverse ++ tk) ∧ Tb ad M1 j (bl.take i) none ∧ ∀ x, x < 256 → zI M1 260 (ad (tA x)) = zI M0 260 (ad (tA x))
theorem Br.perm {a b : List Nat} (h : Br a) (hp : a.Perm b) : Br b := ⟨fun x hx => h.1 x (hp.mem_iff.mpr hx), hp.nodup_iff.mp h.2⟩
theorem RT.step {ad : Nat → Nat} {M0 M1 M2 : zM} {j cu i b : Nat} {tk bl : List Nat} (hL : Lay ad M1) (h : RT ad M0 M1 j cu tk bl i) (hj : j < 256) (hb : bl[i]? = some b) (hbr : Br (bl ++ tk)) (hl9 : bl.length ≤ 9) (hM : M2 = zput (zsetA (mkM ad (zput M1 99 (ad 30) (nI (cu + 2 * i + 2))) b (512 - ((bl.take i).reverse ++ tk).length - 1)) (ad (tB j)) (upd (zA M1 (ad (tB j))) (bl.take i).length (nI b))) 258 (ad (tA j)) (nI ((bl.take i).length + 1))) : RT ad M0 M2 j cu tk bl (i + 1) := by
  obtain ⟨h1, h2, h3, h4, h5⟩ := h
  have hil := (List.getElem?_eq_some_iff.mp hb).1
  have hbm := List.mem_of_getElem? hb
  have hb8 := hbr.1 b (List.mem_append_left _ hbm)
  have hnd := List.nodup_append.mp hbr.2
  have hbn : b ∉ (bl.take i).reverse ++ tk := by
    intro z
    rcases List.mem_append.mp z with z | z
    · obtain ⟨x, hx⟩ := List.getElem?_of_mem (List.mem_reverse.mp z)
      have hxl := (List.getElem?_eq_some_iff.mp hx).1
      rw [List.length_take] at hxl
      rw [List.getElem?_take_of_lt (by omega)] at hx
      exact pw_get hnd.1 (show x < i by omega) hx hb rfl
    · exact hnd.2.2 b hbm b z rfl
  have htk1 : bl.take (i + 1) = bl.take i ++ [b] := by rw [List.take_succ, hb]; rfl
  have hTl : (bl.take i).length = i := by rw [List.length_take]; omega
  have hF2 : Fj ad 0 j [69, 99] [18] [] M1 M2 := by rw [hM]; exact (((((Fj.refl ad j _ _ _ M1).put hL (f := 99) (i := 30)).setA hL (i := 18)).put hL (f := 69) (i := 17)).setT hL (by omega)).putT hL (f := 258) (by omega)
  have hne : ad (tB j) ≠ ad 18 := hL.ne (by unfold tB; omega) (by unfold tB; omega)
  refine ⟨h1.trans hF2, ?_, ?_, ?_, fun x hx => by rw [← h5 x hx, hM]; simp [mkM, zput_I, zI_setA]⟩
  · rw [hM, show cu + 2 * (i + 1) = cu + 2 * i + 2 by omega]
    simp [mkM, zput_I, zI_setA]
  · rw [htk1, List.reverse_append]
    have h0 := Tk.add (M := zput M1 99 (ad 30) (nI (cu + 2 * i + 2))) (n := 512 - ((bl.take i).reverse ++ tk).length - 1) (h3.put (by decide)) hbn hb8.1 hb8.2 rfl
    refine ⟨h0.1, fun x hx => ?_, ?_⟩
    · rw [hM]
      exact (congrFun (zsetA_ms (M := mkM ad (zput M1 99 (ad 30) (nI (cu + 2 * i + 2))) b (512 - ((bl.take i).reverse ++ tk).length - 1)) hne.symm rfl) x).trans (h0.2.1 x hx)
    · rw [hM]
      exact zput_ms (f := 258) (by decide) h0.2.2
  · rw [htk1]
    refine ⟨?_, by rw [List.length_append, hTl]; show i + 1 ≤ 9; omega, fun x q hq => ?_, ?_⟩
    · rw [show (bl.take i ++ [b]).length = (bl.take i).length + 1 from List.length_append, hM]; exact zput_hit _ _ _ _
    · rw [hM]
      exact (congrFun (zsetA_hit _ _ _) x).trans (Ld.snoc h4.2.2.1 x q hq)
    · rw [← h4.2.2.2, hM]
      simp [mkM, zput_I, zI_setA]
set_option maxRecDepth 100000 in
set_option maxHeartbeats 4000000 in
theorem l_Head_readTable {G : zG} {ad : Nat → Nat} {d k0 n0 j l cu : Nat} {bl tk : List Nat} {M : zM} {Q : zOut → zM → Prop} (hd : 3 ≤ d) (hcb : zC M ≤ 600128 ∧ zS M ≤ 7301098) (hL : Lay ad M) (hl : l < 3) (hj : j < 256) (hbr : Br (bl ++ tk)) (hl9 : bl.length ≤ 9) (hcu : cu + 18 ≤ 4096) (hby : ∀ (i b : Nat), bl[i]? = some b → nuN (zA M (ad 2)) (cu + 2 * i) 2 = b) (hk : ∀ M1 : zM, RT ad M M1 j cu tk bl bl.length → zw G mX3_readTable d k0 n0 Q 55 [some (.ref ((ad 30))), some (.ref ((ad (32 + l)))), some (.ref ((ad 17))), some (.int (nI bl.length)), some (.ref ((ad (tA j)))), some (.int (nI bl.length)), none] [] M1) : ∀ (m i : Nat) (M1 : zM), bl.length - i = m → i ≤ bl.length → RT ad M M1 j cu tk bl i → zw G mX3_readTable d k0 n0 Q 15 [some (.ref ((ad 30))), some (.ref ((ad (32 + l)))), some (.ref ((ad 17))), some (.int (nI bl.length)), some (.ref ((ad (tA j)))), some (.int (nI i)), none] [] M1 := by
  intro m
  induction m using Nat.strongRecOn with
  | _ m ih =>
    intro i M1 hm hi hT1
    refine zr_iload dX3_readTable_15 rfl ?_
    refine zr_iload_n dX3_readTable_17 rfl ?_
    refine zr_icmp_geN 55 dX3_readTable_18 (by decide) (by omega) (by omega) (fun h18 => ?_) (fun h18 => ?_)
    · have e9 : i = bl.length := by omega
      subst e9
      exact hk M1 hT1
    · obtain ⟨b, hb⟩ : ∃ b, bl[i]? = some b := ⟨_, List.getElem?_eq_getElem (by omega)⟩
      have hbm := List.mem_of_getElem? hb
      have hb8 := hbr.1 b (List.mem_append_left _ hbm)
      have hL1 := hT1.1.lay hL
      have hcb1 := hT1.1.cb hcb
      have hn9 : nuN (zA M1 (ad 2)) (cu + 2 * i) 2 = b := by
        rw [hT1.1.rA (by decide) (by decide)]
        exact hby i b hb
      have hnd := List.nodup_append.mp hbr.2
      have hbn : b ∉ (bl.take i).reverse ++ tk := by
        intro z
        rcases List.mem_append.mp z with z | z
        · obtain ⟨x, hx⟩ := List.getElem?_of_mem (List.mem_reverse.mp z)
          have hxl := (List.getElem?_eq_some_iff.mp hx).1
          rw [List.length_take] at hxl
          rw [List.getElem?_take_of_lt (by omega)] at hx
          exact pw_get hnd.1 (show x < i by omega) hx hb rfl
        · exact hnd.2.2 b hbm b z rfl
      have htl : ((bl.take i).reverse ++ tk).length < 512 := by
        have := hbr.len
        rw [List.length_append] at this ⊢
        rw [List.length_reverse, List.length_take]
        omega
      refine zr_aload_n dX3_readTable_21 rfl ?_
      refine zr_iconst (v := nI 2) dX3_readTable_22 (by decide) ?_
      refine zr_callV (md' := mX3_read) (As := [.int (nI 2)]) dX3_readTable_23 mlX3_89 okX3_read rfl inX3_read slX3_read (by decide) (hL1.K 30 4) rfl (by omega) (Nat.le_of_ble_eq_true rfl) hcb1 (c_Head_read (d := d - 1) (by omega) hcb1 hL1 hT1.2.1 (by omega) (by decide) (by rw [hn9]; omega)) (fun k M1 h => by cases h.1) (fun v M2 hq => ?_)
      obtain ⟨e0, e2⟩ := hq
      cases e0
      rw [hn9]
      have hF2 : Fl ad 0 [99] [] [] M1 M2 := by rw [e2]; exact (Fl.refl ad _ _ _ M1).put hL1 (f := 99) (i := 30)
      have hL2 := hF2.lay hL1
      have hcb2 := hF2.cb hcb1
      have hTk2 := hT1.2.2.1.fl hF2
      have hTb2 := hT1.2.2.2.1.fl hF2 (by omega)
      refine zr_istore (lv' := [some (.ref ((ad 30))), some (.ref ((ad (32 + l)))), some (.ref ((ad 17))), some (.int (nI bl.length)), some (.ref ((ad (tA j)))), some (.int (nI i)), some (.int (nI b))]) dX3_readTable_26 (Nat.le_of_ble_eq_true rfl) (Nat.le_of_ble_eq_true rfl) rfl rfl ?_
      refine zr_aload dX3_readTable_28 rfl ?_
      refine zr_ifnull dX3_readTable_30 ?_
      refine zr_aload_n dX3_readTable_33 rfl ?_
      refine zr_iload dX3_readTable_34 rfl ?_
      refine zr_callV (md' := mX2_takeThis) (As := [.int (nI b)]) dX3_readTable_36 mlX3_108 okX2_takeThis rfl inX2_takeThis slX2_takeThis (by decide) (hL2.K 17 3) rfl (by omega) (Nat.le_of_ble_eq_true rfl) hcb2 (c_Files_takeThis (d := d - 1) (by omega) hcb2 hL2 hTk2 hbn hb8.1 hb8.2 htl) (fun k M1 h => by cases h.1) (fun v M3 hq => ?_)
      obtain ⟨e0, e3⟩ := hq
      cases e0
      have hF3 : Fl ad 0 [69] [18] [] M2 M3 := by rw [e3]; exact mkM_fl hL2 _ _
      have hL3 := hF3.lay hL2
      have hcb3 := hF3.cb hcb2
      have hTb3 := hTb2.fl hF3 (by omega)
      refine zr_if_eq 49 dX3_readTable_39 (by decide) (fun h39 => absurd h39 (by decide)) (fun h39 => ?_)
      refine zr_aload dX3_readTable_42 rfl ?_
      refine zr_iload dX3_readTable_44 rfl ?_
      refine zr_callV (md' := mX8_addBlock) (As := [.int (nI b)]) dX3_readTable_46 mlX3_112 okX8_addBlock rfl inX8_addBlock slX8_addBlock (by decide) (hL3.Kt (by omega)) rfl (by omega) (Nat.le_of_ble_eq_true rfl) hcb3 (c_Table_addBlock (d := d - 1) hcb3 hL3 (by omega) hTb3 (by rw [List.length_take]; omega)) (fun k M1 h => by cases h.1) (fun v M4 hq => ?_)
      obtain ⟨e0, e4⟩ := hq
      cases e0
      have hT4 : RT ad M M4 j cu tk bl (i + 1) := by
        refine hT1.step hL1 hj hb hbr hl9 ?_
        rw [e4, show zA M3 (ad (tB j)) = zA M1 (ad (tB j)) from (hF3.rA (by unfold tB; rw [Nat.min_eq_right (by omega)]; decide) (by unfold tB; omega)).trans (hF2.rA (by unfold tB; rw [Nat.min_eq_right (by omega)]; decide) (by unfold tB; omega)), e3, e2]
      refine zr_iincN (n := 1) (lv' := [some (.ref ((ad 30))), some (.ref ((ad (32 + l)))), some (.ref ((ad 17))), some (.int (nI bl.length)), some (.ref ((ad (tA j)))), some (.int (nI (i + 1))), some (.int (nI b))]) dX3_readTable_49 (Nat.le_of_ble_eq_true rfl) (Nat.le_of_ble_eq_true rfl) rfl rfl rfl ?_
      refine zr_goto 15 dX3_readTable_52 (by decide) ?_
      refine zr_drop 6 rfl ?_
      exact ih _ (by omega) (i + 1) M4 rfl (by omega) hT4
/-- a file read from the head -/
def RTok (ad : Nat → Nat) (M M' : zM) (l cu : Nat) (us tk bl : List Nat) (css : List (List Nat)) (fs : List zF) : Prop := ∃ j, j ∉ us ∧ j < 256 ∧ Fl ad 0 [69, 70, 99, 131, 258, 259, 260] [18, 64] [35 + l] M M' ∧ zI M' 99 (ad 30) = nI (cu + (eTb bl).length) ∧ Tk ad M' (bl.reverse ++ tk) ∧ Us ad M' (j :: us) ∧ Lv ad M' l (fs ++ [(j, bl, css)]) ∧ (∀ l' fs', l' < 3 → l' ≠ l → (∀ f ∈ fs', f.1 ≠ j) → Lv ad M l' fs' → Lv ad M' l' fs')
theorem eTb_read {D : Nat → Int32} {cu : Nat} {bl : List Nat} (h : Rc (fun i => D (cu + i)) (eTb bl)) (hl : bl.length < 256) (hb : ∀ b ∈ bl, b < 65536) : nuN D cu 1 = bl.length ∧ ∀ (i b : Nat), bl[i]? = some b → nuN D (cu + 1 + 2 * i) 2 = b := by
  unfold eTb at h
  refine ⟨nuN_nb h.left (by omega), fun i b hi => ?_⟩
  have h2 := h.right
  rw [nb_len] at h2
  have hil := (List.getElem?_eq_some_iff.mp hi).1
  have e : (bl.map (fun b => nb b 2)).flatten = ((bl.take i).map (fun b => nb b 2)).flatten ++ (nb b 2 ++ ((bl.drop (i + 1)).map (fun b => nb b 2)).flatten) := by
    rw [← List.append_assoc, ← flat_take hi, ← List.flatten_append, ← List.map_append, List.take_append_drop]
  rw [e] at h2
  have h3 := h2.right.left
  rw [flat_take_len (by omega)] at h3
  refine nuN_nb (h3.congr (fun k _ => ?_)) (hb b (List.mem_of_getElem? hi))
  show D (cu + 1 + 2 * i + k) = D (cu + (1 + (2 * i + k)))
  congr 1
  omega
set_option maxRecDepth 100000 in
set_option maxHeartbeats 4000000 in
theorem c_Head_readTable {G : zG} {ad : Nat → Nat} {d l cu : Nat} {us tk bl : List Nat} {css : List (List Nat)} {fs : List zF} {M : zM} (hd : 4 ≤ d) (hcb : zC M ≤ 600128 ∧ zS M ≤ 7301098) (hL : Lay ad M) (hl : l < 3) (hV : Lv ad M l fs) (hfu : ∀ f ∈ fs, f.1 ∈ us) (hfn : fs.length < 256) (hU : Us ad M us) (hul : us.length < 256) (hTk : Tk ad M tk) (hbr : Br (bl ++ tk)) (hTC : TC (zA M (ad 2)) bl css) (hl9 : bl.length ≤ 9) (hcu : zI M 99 (ad 30) = nI cu) (hcu2 : cu + 19 ≤ 4096) (hrc : Rc (fun i => (zA M (ad 2)) (cu + i)) (eTb bl))  : zMet G mX3_readTable d [.ref ((ad 30)), .ref ((ad (32 + l))), .ref ((ad 17))] M (fun o M' => o = .inl none ∧ RTok ad M M' l cu us tk bl css fs) := by
  refine zMet_of (by decide +kernel) (Nat.le_of_ble_eq_true rfl) rfl hcb ?_
  show zw G mX3_readTable d _ _ _ 0 [some (.ref ((ad 30))), some (.ref ((ad (32 + l)))), some (.ref ((ad 17))), none, none, none, none] [] M
  have hrb := eTb_read hrc (by omega) (fun b hb => by have := (hbr.1 b (List.mem_append_left _ hb)).2; omega)
  refine zr_aload_n dX3_readTable_0 rfl ?_
  refine zr_iconst (v := nI 1) dX3_readTable_1 (by decide) ?_
  refine zr_callV (md' := mX3_read) (As := [.int (nI 1)]) dX3_readTable_2 mlX3_89 okX3_read rfl inX3_read slX3_read (by decide) (hL.K 30 4) rfl (by omega) (Nat.le_of_ble_eq_true rfl) hcb (c_Head_read (d := d - 1) (by omega) hcb hL hcu (by omega) (by decide) (by rw [hrb.1]; omega)) (fun k M1 h => by cases h.1) (fun v M1 hq => ?_)
  obtain ⟨e0, e1⟩ := hq
  cases e0
  rw [hrb.1]
  have hF1 : Fl ad 0 [99] [] [] M M1 := by rw [e1]; exact (Fl.refl ad _ _ _ M).put hL (f := 99) (i := 30)
  have hL1 := hF1.lay hL
  have hcb1 := hF1.cb hcb
  refine zr_istore_n (lv' := [some (.ref ((ad 30))), some (.ref ((ad (32 + l)))), some (.ref ((ad 17))), some (.int (nI bl.length)), none, none, none]) dX3_readTable_5 (Nat.le_of_ble_eq_true rfl) (Nat.le_of_ble_eq_true rfl) rfl rfl ?_
  refine zr_aload_n dX3_readTable_6 rfl ?_
  refine zr_callV (md' := mX2_takeTable) (As := []) dX3_readTable_7 mlX3_102 okX2_takeTable rfl inX2_takeTable slX2_takeTable (by decide) (hL1.K 17 3) rfl (by omega) (Nat.le_of_ble_eq_true rfl) hcb1 (c_Files_takeTable (d := d - 1) (by omega) hcb1 hL1 (hU.fl hF1) hul) (fun k M9 h => by obtain ⟨b, h, -⟩ := h; cases h) (fun v M2 hq => ?_)
  obtain ⟨j, e0, hj1, hj2, e2⟩ := hq
  cases e0
  have hF2 : Fj ad 0 j [70] [] [] M1 M2 := by rw [e2]; exact tt_fj hL1 hj2
  have hL2 := hF2.lay hL1
  have hcb2 := hF2.cb hcb1
  have hU2 : Us ad M2 (j :: us) := by rw [e2]; exact (hU.fl hF1).add hL1 hj1 hj2 rfl
  have hT0 : RT ad M2 M2 j (cu + 1) tk bl 0 := ⟨Fj.refl _ _ _ _ _ _, (hF2.rI (by decide) (by decide)).trans (by rw [e1]; exact zput_hit _ _ _ _), (hTk.fl hF1).fj hF2, by rw [e2]; exact tt_tb hL1, fun _ _ => rfl⟩
  have eD2 : zA M2 (ad 2) = zA M (ad 2) := (hF2.rA (by decide) (by decide)).trans (hF1.rA (by decide) (by decide))
  refine zr_astore (lv' := [some (.ref ((ad 30))), some (.ref ((ad (32 + l)))), some (.ref ((ad 17))), some (.int (nI bl.length)), some (.ref ((ad (tA j)))), none, none]) dX3_readTable_10 (Nat.le_of_ble_eq_true rfl) (Nat.le_of_ble_eq_true rfl) rfl rfl ?_
  refine zr_iconst (v := nI 0) dX3_readTable_12 (by decide) ?_
  refine zr_istore (lv' := [some (.ref ((ad 30))), some (.ref ((ad (32 + l)))), some (.ref ((ad 17))), some (.int (nI bl.length)), some (.ref ((ad (tA j)))), some (.int (nI 0)), none]) dX3_readTable_13 (Nat.le_of_ble_eq_true rfl) (Nat.le_of_ble_eq_true rfl) rfl rfl ?_
  refine zr_asL (lv' := [some (.ref ((ad 30))), some (.ref ((ad (32 + l)))), some (.ref ((ad 17))), some (.int (nI bl.length)), some (.ref ((ad (tA j)))), some (.int (nI 0)), none]) rfl ?_
  refine l_Head_readTable (by omega) hcb2 hL2 hl hj2 hbr hl9 (by omega) (fun i b hb => by rw [eD2]; exact hrb.2 i b hb) (fun M3 hT3 => ?_) _ 0 M2 rfl (by omega) hT0
  refine zr_aload dX3_readTable_55 rfl ?_
  refine zr_ifnull dX3_readTable_57 ?_
  obtain ⟨h9a, h9b, h9c, h9d, h9u⟩ := id hT3
  rw [List.take_length] at h9c h9d
  have hL3 := h9a.lay hL2
  have hcb3 := h9a.cb hcb2
  have eD3 : zA M3 (ad 2) = zA M (ad 2) := (h9a.rA (by decide) (by decide)).trans eD2
  have h5l := hTC.1
  have h5m := hTC.2.1
  obtain ⟨c, hc⟩ : ∃ c, css[css.length - 1]? = some c := ⟨_, List.getElem?_eq_getElem (by omega)⟩
  obtain ⟨bb, hbb⟩ : ∃ bb, bl[css.length - 1]? = some bb := ⟨_, List.getElem?_eq_getElem (by omega)⟩
  obtain ⟨ps, hps, hch9, hcl⟩ := hTC.2.2.2.2.1 _ bb c hbb hc
  have hpl9 : 0 + ps.length < 511 := by rw [hps, List.length_cons] at hcl; omega
  have hin9 : ∀ q ∈ bb * 512 :: ps, q < 303096 := fun q hq => (hTC.2.2.2.2.2.1 q (List.mem_flatten.mpr ⟨c, List.mem_of_getElem? hc, by rw [hps]; exact hq⟩)).1
  have hla9 : css.flatten.getLast? = some ((bb * 512 :: ps).getLast (List.cons_ne_nil _ _)) := (flat_last hc (by rw [hps]; exact List.cons_ne_nil _ _)).trans (by rw [hps]; rfl)
  refine zr_aload dX3_readTable_60 rfl ?_
  refine zr_callV (md' := mX8_close) (As := []) dX3_readTable_62 mlX3_115 okX8_close rfl inX8_close slX8_close (by decide) (hL3.Kt (by omega)) rfl (by omega) (Nat.le_of_ble_eq_true rfl) hcb3 (c_Table_close (d := d - 1) (j := j) (bl := bl) (b := bb) (ps := ps) (by omega) hcb3 hL3 (by omega) h9d hTC.2.2.2.1 (by omega) (by rw [show bl.length - 2 = css.length - 1 by omega]; exact hbb) (by rw [eD3]; exact hch9) hin9 hpl9) (fun k M1 h => by cases h.1) (fun v M4 hq => ?_)
  obtain ⟨e0, e4⟩ := hq
  cases e0
  have hF4 : Fj ad 0 j [] [] [] M3 M4 := by rw [e4]; exact (Fj.refl ad j _ _ _ M3).putT hL3 (by omega)
  have hL4 := hF4.lay hL3
  have hcb4 := hF4.cb hcb3
  have hFa : Fj ad 0 j [69, 70, 99] [18] [] M M4 := by
    have a1 : Fj ad 0 j [69, 70, 99] [18] [] M M1 := by rw [e1]; exact (Fj.refl ad j _ _ _ M).put hL (f := 99) (i := 30)
    exact ((a1.trans hF2.mono).trans h9a.mono).trans hF4.mono
  have hc4 : zI M4 131 (ad (32 + l)) = nI fs.length := (hFa.rI (by decide) (by omega)).trans hV.1
  have hfl := hV.2.1
  refine zr_aload_n dX3_readTable_65 rfl ?_
  refine zr_aload dX3_readTable_66 rfl ?_
  refine zr_callV (md' := mX4_add) (As := [.ref ((ad (tA j)))]) dX3_readTable_68 mlX3_118 okX4_add rfl inX4_add slX4_add (by decide) (hL4.Kl hl) rfl (by omega) (Nat.le_of_ble_eq_true rfl) hcb4 (c_Level_add (d := d - 1) hcb4 hL4 hl hj2 hc4 (by omega)) (fun k M1 h => by cases h.1) (fun v M5 hq => ?_)
  obtain ⟨e0, e5⟩ := hq
  cases e0
  refine zr_vret dX3_readTable_71 rfl ?_
  have hF5 : Fl ad 0 [131] [] [35 + l] M4 M5 := by rw [e5]; exact Fr.put (Fr.setB (Fr.refl ad M4 _ _ _) hL4 (i := 35 + l) _ (List.mem_singleton.mpr rfl) (by omega)) hL4 (f := 131) (i := 32 + l) _ (by decide) (by omega)
  have hTb4 : Tb ad M4 j bl (some ((bb * 512 :: ps).getLast (List.cons_ne_nil _ _))) := by rw [e4]; exact ⟨zput_ms (f := 259) (by decide) h9d.1, h9d.2.1, h9d.2.2.1, zput_hit _ _ _ _⟩
  have hnof : ∀ f ∈ fs, f.1 ≠ j := fun f hf e => hj1 (e ▸ hfu f hf)
  have hVg : ∀ (l2 : Nat) (g2 : List zF), l2 < 3 → (∀ f ∈ g2, f.1 ≠ j) → Lv ad M l2 g2 → Lv ad M4 l2 g2 := fun l2 g2 hl2 hn2 hV2 => ⟨(hFa.rI (by decide) (by omega)).trans hV2.1, hV2.2.1, fun i f hf => ⟨(hV2.2.2.1 i f hf).1, (congrFun (hFa.rB (fun z => by cases z) (by omega)) i).trans (hV2.2.2.1 i f hf).2.1, hFa.tb (hV2.2.2.1 i f hf).2.2 (by have := (hV2.2.2.1 i f hf).1; omega) (hn2 f (List.mem_of_getElem? hf))⟩, hFa.tb hV2.2.2.2 (by omega) (by omega)⟩
  refine ⟨rfl, j, hj1, hj2, ?_, ?_, ?_, ?_, ?_, fun l2 g2 hl2 hn2 hn3 hV2 => ?_⟩
  · have hFb : Fl ad 0 [69, 70, 99, 131, 258, 259, 260] [18, 64] [35 + l] M M4 := hFa.fl (LF1 := [69, 70, 99, 131, 258, 259, 260]) (LA1 := [18, 64]) (LB1 := [35 + l]) (by decide) (by decide) (by decide) (by decide) (fun x hx => by cases hx)
    exact hFb.trans0 (hF5.mono (by decide) (by decide) (fun x hx => hx))
  · rw [eTb_len]
    refine (hF5.rI (by decide) (by decide)).trans ((hF4.rI (by decide) (by decide)).trans ?_)
    rw [h9b]; congr 1; omega
  · exact (h9c.fj hF4).fl hF5 (by decide) (by decide)
  · have hU3 : Us ad M3 (j :: us) := ⟨hU2.1, hU2.2.1, fun x hx => (h9u x hx).trans (hU2.2.2.1 x hx), (h9a.rI (by decide) (by decide)).trans hU2.2.2.2⟩
    have hU4 : Us ad M4 (j :: us) := by rw [e4]; exact hU3.fl ((Fl.refl ad [259] [] [] M3).put hL3 (f := 259) (i := tA j) (by decide) (by unfold tA; omega))
    exact hU4.fl hF5 (by decide) (by decide)
  · have hV4 := hVg l fs hl hnof hV
    rw [e5, show fs.length + 1 = (fs ++ [(j, bl, css)]).length from by rw [List.length_append]; rfl]
    refine Lv.mk (by rw [List.length_append]; show fs.length + 1 ≤ 256; omega) (fun i f hf => ?_) hV4.2.2.2
    rcases Nat.lt_or_ge i fs.length with e | e
    · rw [List.getElem?_append_left e] at hf
      obtain ⟨a1, a2, a3⟩ := hV4.2.2.1 i f hf
      exact ⟨a1, (va_up_ne _ _ (by omega)).trans a2, a3⟩
    · rw [List.getElem?_append_right e] at hf
      have h0 : i - fs.length = 0 := by
        have := (List.getElem?_eq_some_iff.mp hf).1
        simp at this
        omega
      rw [h0] at hf
      cases hf
      refine ⟨hj2, by rw [show i = fs.length by omega]; exact va_up_self _ _ _, ?_⟩
      rw [show (fE (j, bl, css)).getLast? = some ((bb * 512 :: ps).getLast (List.cons_ne_nil _ _)) from hla9]
      exact hTb4
  · rw [e5]
    exact (hVg l2 g2 hl2 hn3 hV2).oth hL4 hl hl2 hn2
