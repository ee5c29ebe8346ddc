/-! ===== LsmStore$Writer: stepTo, advance, hasRoom ===== -/
def rg (R : List Nat) (i : Nat) : Nat := R.getD i 0
theorem rg_some {R : List Nat} {i x : Nat} (h : R[i]? = some x) : rg R i = x := by unfold rg; rw [List.getD_eq_getElem?_getD, h]; rfl
/-- into which block the next row goes: 0 the same, 1 a new one, 2 one of a new table -/
def stp (D : Nat → Int32) (R : List Nat) (i s f : Nat) : Nat := if i = 0 ∨ (eky D (rg R (i - 1)) ≠ eky D (rg R i) ∧ (4 < s ∨ (s = 4 ∧ 512 < f + eln D (rg R i)))) then 2 else if f + eln D (rg R i) ≤ 512 then 0 else 1
theorem stp_eq {D : Nat → Int32} {R : List Nat} {i s f nk : Nat} (h : nk = 1 ↔ eky D (rg R (i - 1)) ≠ eky D (rg R i)) : stp D R i s f = if i = 0 ∨ (nk = 1 ∧ (4 < s ∨ (s = 4 ∧ 512 < f + eln D (rg R i)))) then 2 else if f + eln D (rg R i) ≤ 512 then 0 else 1 := by
  unfold stp
  by_cases e : i = 0 ∨ (nk = 1 ∧ (4 < s ∨ (s = 4 ∧ 512 < f + eln D (rg R i))))
  · rw [if_pos e, if_pos (e.imp id (fun z => ⟨h.mp z.1, z.2⟩))]
  · rw [if_neg e, if_neg (fun z => e (z.imp id (fun z => ⟨h.mpr z.1, z.2⟩)))]
theorem stp_le (D : Nat → Int32) (R : List Nat) (i s f : Nat) : stp D R i s f ≤ 2 := by
  unfold stp
  split
  · exact Nat.le_refl _
  · split
    · decide
    · decide
def adS (n s : Nat) : Nat := if n = 2 then 1 else if n = 0 then s else s + 1
def adF (n f L : Nat) : Nat := if n = 0 then f + L else L
/-- blocks begun in the table, bytes in the block, blocks and tables in all, behind the first i rows -/
def sim (D : Nat → Int32) (R : List Nat) : Nat → Nat × Nat × Nat × Nat
  | 0 => (0, 0, 0, 0)
  | i + 1 => (adS (stp D R i (sim D R i).1 (sim D R i).2.1) (sim D R i).1, adF (stp D R i (sim D R i).1 (sim D R i).2.1) (sim D R i).2.1 (eln D (rg R i)), (sim D R i).2.2.1 + (if stp D R i (sim D R i).1 (sim D R i).2.1 = 2 then 2 else if stp D R i (sim D R i).1 (sim D R i).2.1 = 1 then 1 else 0), (sim D R i).2.2.2 + (if stp D R i (sim D R i).1 (sim D R i).2.1 = 2 then 1 else 0))
theorem stp_zero (D : Nat → Int32) (R : List Nat) (s f s' f' : Nat) : stp D R 0 s f = stp D R 0 s' f' := by unfold stp; rw [if_pos (Or.inl rfl), if_pos (Or.inl rfl)]
theorem sim_succ {D : Nat → Int32} {R : List Nat} {i s f b t n : Nat} (h : i = 0 ∨ ((sim D R i).1 = s ∧ (sim D R i).2.1 = f)) (h2 : (sim D R i).2.2.1 = b ∧ (sim D R i).2.2.2 = t) (hn : stp D R i s f = n) : sim D R (i + 1) = (adS n s, adF n f (eln D (rg R i)), b + (if n = 2 then 2 else if n = 1 then 1 else 0), t + (if n = 2 then 1 else 0)) := by
  have e : stp D R i (sim D R i).1 (sim D R i).2.1 = n := by
    rcases h with h | ⟨h, h'⟩
    · subst h; rw [← hn]; exact stp_zero _ _ _ _ _ _
    · rw [h, h', hn]
  show (adS _ _, adF _ _ _, _, _) = _
  rw [e, h2.1, h2.2]
  rcases h with h | ⟨h, h'⟩
  · subst h
    have e2 : n = 2 := by rw [← hn]; unfold stp; rw [if_pos (Or.inl rfl)]
    rw [e2]; rfl
  · rw [h, h']
/-- the writer's two counts -/
def wrM (ad : Nat → Nat) (M : zM) (s f : Nat) : zM := zput (zput M 326 (ad 26) (nI s)) 327 (ad 26) (nI f)
theorem wrM_s (ad : Nat → Nat) (M : zM) (s f : Nat) : zI (wrM ad M s f) 326 (ad 26) = nI s := zput_ms (by decide) (zput_hit _ _ _ _)
theorem wrM_f (ad : Nat → Nat) (M : zM) (s f : Nat) : zI (wrM ad M s f) 327 (ad 26) = nI f := zput_hit _ _ _ _
theorem wrM_self {ad : Nat → Nat} {M : zM} {s f : Nat} (h1 : zI M 326 (ad 26) = nI s) (h2 : zI M 327 (ad 26) = nI f) : wrM ad M s f = M := by
  unfold wrM
  rw [zput_self h1, zput_self h2]
theorem wrM_wrM (ad : Nat → Nat) (M : zM) (s f s' f' : Nat) : wrM ad (wrM ad M s f) s' f' = wrM ad M s' f' := by
  unfold wrM
  rw [zput_comm (zput M 326 (ad 26) (nI s)) _ _ _ _ (by decide : 327 ≠ 326), zput_put, zput_put]
theorem wrM_rs {ad : Nat → Nat} {M : zM} {s f : Nat} {R : List Nat} (h : Rs ad M R) : Rs ad (wrM ad M s f) R := ⟨zput_ms (by decide) (zput_ms (by decide) h.1), h.2.1, h.2.2⟩
set_option maxRecDepth 100000 in
set_option maxHeartbeats 4000000 in
theorem c_Writer_stepTo {G : zG} {ad : Nat → Nat} {d i s f x : Nat} {R : List Nat} {M : zM} (hd : 1 ≤ d) (hcb : zC M ≤ 600128 ∧ zS M ≤ 7301098) (hL : Lay ad M) (hs : zI M 326 (ad 26) = nI s) (hf : zI M 327 (ad 26) = nI f) (hsb : s ≤ 4096) (hfb : f ≤ 4096) (hR : Rs ad M R) (hE : Eb (zA M (ad 2)) R) (hx : R[i]? = some x)  : zMet G mX10_stepTo d [.ref ((ad 26)), .ref ((ad 23)), .int (nI i)] M (fun o M' => o = .inl (some (.int (nI (stp (zA M (ad 2)) R i s f)))) ∧ M' = M) := by
  refine zMet_of (by decide +kernel) (Nat.le_of_ble_eq_true rfl) rfl hcb ?_
  show zw G mX10_stepTo d _ _ _ 0 [some (.ref ((ad 26))), some (.ref ((ad 23))), some (.int (nI i)), none, none, none] [] M
  have hil := (List.getElem?_eq_some_iff.mp hx).1
  have hpl := hR.2.1
  obtain ⟨nk, hnk1, hnk⟩ : ∃ nk : Nat, nk ≤ 1 ∧ (nk = 1 ↔ eky (zA M (ad 2)) (rg R (i - 1)) ≠ eky (zA M (ad 2)) (rg R i)) := by
    by_cases h : eky (zA M (ad 2)) (rg R (i - 1)) ≠ eky (zA M (ad 2)) (rg R i)
    · exact ⟨1, by decide, fun _ => h, fun _ => rfl⟩
    · exact ⟨0, by decide, fun z => absurd z (by decide), fun z => absurd z h⟩
  have hrx := rg_some hx
  refine zr_aload_n dX10_stepTo_0 rfl ?_
  refine zr_getI dX10_stepTo_1 lkX10_32 (by decide) (by decide) rfl (hL.K 26 11) ?_
  refine zr_as (y := (nI f)) hf ?_
  refine zr_aload_n dX10_stepTo_4 rfl ?_
  refine zr_getR dX10_stepTo_5 lkX10_24 (by decide) (by decide) rfl (hL.K 26 11) (hL.R 320 26 1) ?_
  refine zr_aload_n dX10_stepTo_8 rfl ?_
  refine zr_getR dX10_stepTo_9 lkX10_36 (by decide) (by decide) rfl (hL.K 23 8) (hL.R 225 23 24) ?_
  refine zr_iload_n dX10_stepTo_12 rfl ?_
  refine zr_ialdN dX10_stepTo_13 (hL.K 24 15) (hL.N 24 2048) (by omega) (by omega) ?_
  refine zr_as (y := (nI x)) (hR.2.2 _ x hx) ?_
  refine zr_callV (md' := mX1_entryLength) (As := [.int (nI x)]) dX10_stepTo_14 mlX10_42 okX1_entryLength rfl inX1_entryLength slX1_entryLength (by decide) (hL.K 1 2) rfl (by omega) (Nat.le_of_ble_eq_true rfl) hcb (c_Disk_entryLength (d := d - 1) hcb (Lay.dk hL) (Nat.lt_trans (hE x (List.mem_of_getElem? hx)).1 (by decide))) (fun k M1 h => by cases h.1) (fun v M1 hq => ?_)
  obtain ⟨e0, e1⟩ := hq
  cases e0
  rw [e1]
  obtain ⟨L, hLe⟩ : ∃ L, L = eln (zA M (ad 2)) x := ⟨_, rfl⟩
  rw [← hLe]
  have hLb : L ≤ 518 := by rw [hLe]; unfold eln ekl evl zb; omega
  refine zr_iaddN dX10_stepTo_17 ?_
  refine zr_sipush (v := nI 512) dX10_stepTo_18 (by decide) ?_
  refine zr_icmp_gtN 28 dX10_stepTo_21 (by decide) (by omega) (by omega) (fun h21 => ?_) (fun h21 => ?_)
  · refine zr_iconst (v := nI 0) dX10_stepTo_28 (by decide) ?_
    refine zr_istore_n (lv' := [some (.ref ((ad 26))), some (.ref ((ad 23))), some (.int (nI i)), some (.int (nI 0)), none, none]) dX10_stepTo_29 (Nat.le_of_ble_eq_true rfl) (Nat.le_of_ble_eq_true rfl) rfl rfl ?_
    refine zr_iload_n dX10_stepTo_30 rfl ?_
    refine zr_if_eqN 58 dX10_stepTo_31 (by decide) (by omega) (fun h31 => ?_) (fun h31 => ?_)
    · refine zr_iconst (v := nI 1) dX10_stepTo_58 (by decide) ?_
      refine zr_goto 63 dX10_stepTo_59 (by decide) ?_
      refine zr_istore (lv' := [some (.ref ((ad 26))), some (.ref ((ad 23))), some (.int (nI i)), some (.int (nI 0)), some (.int (nI 1)), none]) dX10_stepTo_63 (Nat.le_of_ble_eq_true rfl) (Nat.le_of_ble_eq_true rfl) rfl rfl ?_
      refine zr_aload_n dX10_stepTo_65 rfl ?_
      refine zr_getI dX10_stepTo_66 lkX10_52 (by decide) (by decide) rfl (hL.K 26 11) ?_
      refine zr_as (y := (nI s)) hs ?_
      refine zr_iconst (v := nI 4) dX10_stepTo_69 (by decide) ?_
      refine zr_icmp_gtN 85 dX10_stepTo_70 (by decide) (by omega) (by omega) (fun h70 => ?_) (fun h70 => ?_)
      · refine zr_iconst (v := nI 1) dX10_stepTo_85 (by decide) ?_
        refine zr_goto 90 dX10_stepTo_86 (by decide) ?_
        refine zr_istore (lv' := [some (.ref ((ad 26))), some (.ref ((ad 23))), some (.int (nI i)), some (.int (nI 0)), some (.int (nI 1)), some (.int (nI 1))]) dX10_stepTo_90 (Nat.le_of_ble_eq_true rfl) (Nat.le_of_ble_eq_true rfl) rfl rfl ?_
        refine zr_iload_n dX10_stepTo_92 rfl ?_
        refine zr_if_eqN 106 dX10_stepTo_93 (by decide) (by omega) (fun h93 => ?_) (fun h93 => ?_)
        · refine zr_iconst (v := nI 2) dX10_stepTo_106 (by decide) ?_
          refine zr_iret dX10_stepTo_107 rfl ?_
          first | (exfalso; omega) | exact ⟨by rw [stp_eq hnk, show eln (zA M (ad 2)) (rg R i) = L from by rw [hrx, hLe], show (if i = 0 ∨ (nk = 1 ∧ (4 < s ∨ (s = 4 ∧ 512 < f + L))) then 2 else if f + L ≤ 512 then 0 else 1) = 2 from if_pos (by omega)], rfl⟩
        · refine zr_iload dX10_stepTo_96 rfl ?_
          refine zr_if_eq 108 dX10_stepTo_98 (by decide) (fun h98 => absurd h98 (by decide)) (fun h98 => ?_)
          refine zr_iload dX10_stepTo_101 rfl ?_
          refine zr_if_eq 108 dX10_stepTo_103 (by decide) (fun h103 => absurd h103 (by decide)) (fun h103 => ?_)
          refine zr_iconst (v := nI 2) dX10_stepTo_106 (by decide) ?_
          refine zr_iret dX10_stepTo_107 rfl ?_
          first | (exfalso; omega) | exact ⟨by rw [stp_eq hnk, show eln (zA M (ad 2)) (rg R i) = L from by rw [hrx, hLe], show (if i = 0 ∨ (nk = 1 ∧ (4 < s ∨ (s = 4 ∧ 512 < f + L))) then 2 else if f + L ≤ 512 then 0 else 1) = 2 from if_pos (by omega)], rfl⟩
      · refine zr_aload_n dX10_stepTo_73 rfl ?_
        refine zr_getI dX10_stepTo_74 lkX10_52 (by decide) (by decide) rfl (hL.K 26 11) ?_
        refine zr_as (y := (nI s)) hs ?_
        refine zr_iconst (v := nI 4) dX10_stepTo_77 (by decide) ?_
        refine zr_icmp_neN 89 dX10_stepTo_78 (by decide) (by omega) (by omega) (fun h78 => ?_) (fun h78 => ?_)
        · refine zr_iconst (v := nI 0) dX10_stepTo_89 (by decide) ?_
          refine zr_istore (lv' := [some (.ref ((ad 26))), some (.ref ((ad 23))), some (.int (nI i)), some (.int (nI 0)), some (.int (nI 1)), some (.int (nI 0))]) dX10_stepTo_90 (Nat.le_of_ble_eq_true rfl) (Nat.le_of_ble_eq_true rfl) rfl rfl ?_
          refine zr_iload_n dX10_stepTo_92 rfl ?_
          refine zr_if_eqN 106 dX10_stepTo_93 (by decide) (by omega) (fun h93 => ?_) (fun h93 => ?_)
          · refine zr_iconst (v := nI 2) dX10_stepTo_106 (by decide) ?_
            refine zr_iret dX10_stepTo_107 rfl ?_
            first | (exfalso; omega) | exact ⟨by rw [stp_eq hnk, show eln (zA M (ad 2)) (rg R i) = L from by rw [hrx, hLe], show (if i = 0 ∨ (nk = 1 ∧ (4 < s ∨ (s = 4 ∧ 512 < f + L))) then 2 else if f + L ≤ 512 then 0 else 1) = 2 from if_pos (by omega)], rfl⟩
          · refine zr_iload dX10_stepTo_96 rfl ?_
            refine zr_if_eq 108 dX10_stepTo_98 (by decide) (fun h98 => absurd h98 (by decide)) (fun h98 => ?_)
            refine zr_iload dX10_stepTo_101 rfl ?_
            refine zr_if_eq 108 dX10_stepTo_103 (by decide) (fun h103 => ?_) (fun h103 => absurd rfl h103)
            refine zr_iload_n dX10_stepTo_108 rfl ?_
            refine zr_if_eq 116 dX10_stepTo_109 (by decide) (fun h109 => ?_) (fun h109 => absurd rfl h109)
            refine zr_iconst (v := nI 1) dX10_stepTo_116 (by decide) ?_
            refine zr_iret dX10_stepTo_117 rfl ?_
            first | (exfalso; omega) | exact ⟨by rw [stp_eq hnk, show eln (zA M (ad 2)) (rg R i) = L from by rw [hrx, hLe], show (if i = 0 ∨ (nk = 1 ∧ (4 < s ∨ (s = 4 ∧ 512 < f + L))) then 2 else if f + L ≤ 512 then 0 else 1) = 1 from (if_neg (by omega)).trans (if_neg (by omega))], rfl⟩
        · refine zr_iload_n dX10_stepTo_81 rfl ?_
          refine zr_if_ne 89 dX10_stepTo_82 (by decide) (fun h82 => absurd rfl h82) (fun h82 => ?_)
          refine zr_iconst (v := nI 1) dX10_stepTo_85 (by decide) ?_
          refine zr_goto 90 dX10_stepTo_86 (by decide) ?_
          refine zr_istore (lv' := [some (.ref ((ad 26))), some (.ref ((ad 23))), some (.int (nI i)), some (.int (nI 0)), some (.int (nI 1)), some (.int (nI 1))]) dX10_stepTo_90 (Nat.le_of_ble_eq_true rfl) (Nat.le_of_ble_eq_true rfl) rfl rfl ?_
          refine zr_iload_n dX10_stepTo_92 rfl ?_
          refine zr_if_eqN 106 dX10_stepTo_93 (by decide) (by omega) (fun h93 => ?_) (fun h93 => ?_)
          · refine zr_iconst (v := nI 2) dX10_stepTo_106 (by decide) ?_
            refine zr_iret dX10_stepTo_107 rfl ?_
            first | (exfalso; omega) | exact ⟨by rw [stp_eq hnk, show eln (zA M (ad 2)) (rg R i) = L from by rw [hrx, hLe], show (if i = 0 ∨ (nk = 1 ∧ (4 < s ∨ (s = 4 ∧ 512 < f + L))) then 2 else if f + L ≤ 512 then 0 else 1) = 2 from if_pos (by omega)], rfl⟩
          · refine zr_iload dX10_stepTo_96 rfl ?_
            refine zr_if_eq 108 dX10_stepTo_98 (by decide) (fun h98 => absurd h98 (by decide)) (fun h98 => ?_)
            refine zr_iload dX10_stepTo_101 rfl ?_
            refine zr_if_eq 108 dX10_stepTo_103 (by decide) (fun h103 => absurd h103 (by decide)) (fun h103 => ?_)
            refine zr_iconst (v := nI 2) dX10_stepTo_106 (by decide) ?_
            refine zr_iret dX10_stepTo_107 rfl ?_
            first | (exfalso; omega) | exact ⟨by rw [stp_eq hnk, show eln (zA M (ad 2)) (rg R i) = L from by rw [hrx, hLe], show (if i = 0 ∨ (nk = 1 ∧ (4 < s ∨ (s = 4 ∧ 512 < f + L))) then 2 else if f + L ≤ 512 then 0 else 1) = 2 from if_pos (by omega)], rfl⟩
    · obtain ⟨q, hq9⟩ : ∃ q, R[i - 1]? = some q := ⟨_, List.getElem?_eq_getElem (by omega)⟩
      refine zr_aload_n dX10_stepTo_34 rfl ?_
      refine zr_getR dX10_stepTo_35 lkX10_24 (by decide) (by decide) rfl (hL.K 26 11) (hL.R 320 26 1) ?_
      refine zr_aload_n dX10_stepTo_38 rfl ?_
      refine zr_getR dX10_stepTo_39 lkX10_36 (by decide) (by decide) rfl (hL.K 23 8) (hL.R 225 23 24) ?_
      refine zr_iload_n dX10_stepTo_42 rfl ?_
      refine zr_iconst (v := nI 1) dX10_stepTo_43 (by decide) ?_
      refine zr_isubN dX10_stepTo_44 (by omega) ?_
      refine zr_ialdN dX10_stepTo_45 (hL.K 24 15) (hL.N 24 2048) (by omega) (by omega) ?_
      refine zr_as (y := (nI q)) (hR.2.2 _ q hq9) ?_
      refine zr_aload_n dX10_stepTo_46 rfl ?_
      refine zr_getR dX10_stepTo_47 lkX10_36 (by decide) (by decide) rfl (hL.K 23 8) (hL.R 225 23 24) ?_
      refine zr_iload_n dX10_stepTo_50 rfl ?_
      refine zr_ialdN dX10_stepTo_51 (hL.K 24 15) (hL.N 24 2048) (by omega) (by omega) ?_
      refine zr_as (y := (nI x)) (hR.2.2 _ x hx) ?_
      refine zr_callV (md' := mX1_order) (As := [.int (nI q), .int (nI x)]) dX10_stepTo_52 mlX10_48 okX1_order rfl inX1_order slX1_order (by decide) (hL.K 1 2) rfl (by omega) (Nat.le_of_ble_eq_true rfl) hcb (c_Disk_order (d := d - 1) hcb (Lay.dk hL) (Nat.lt_trans (hE q (List.mem_of_getElem? hq9)).1 (by decide)) (Nat.lt_trans (hE x (List.mem_of_getElem? hx)).1 (by decide))) (fun k M1 h => by obtain ⟨r, h, -⟩ := h; cases h) (fun v M1 hq => ?_)
      obtain ⟨r, e0, e1, hr1, hr2⟩ := hq
      cases e0
      rw [e1]
      refine zr_if_eq 62 dX10_stepTo_55 (by decide) (fun h55 => ?_) (fun h55 => ?_)
      · have hk0 : nk = 0 := by
          have : ¬ nk = 1 := fun z => hnk.mp z (by rw [rg_some hq9, hrx]; exact hr2.mp h55)
          omega
        refine zr_iconst (v := nI 0) dX10_stepTo_62 (by decide) ?_
        refine zr_istore (lv' := [some (.ref ((ad 26))), some (.ref ((ad 23))), some (.int (nI i)), some (.int (nI 0)), some (.int (nI 0)), none]) dX10_stepTo_63 (Nat.le_of_ble_eq_true rfl) (Nat.le_of_ble_eq_true rfl) rfl rfl ?_
        refine zr_aload_n dX10_stepTo_65 rfl ?_
        refine zr_getI dX10_stepTo_66 lkX10_52 (by decide) (by decide) rfl (hL.K 26 11) ?_
        refine zr_as (y := (nI s)) hs ?_
        refine zr_iconst (v := nI 4) dX10_stepTo_69 (by decide) ?_
        refine zr_icmp_gtN 85 dX10_stepTo_70 (by decide) (by omega) (by omega) (fun h70 => ?_) (fun h70 => ?_)
        · refine zr_iconst (v := nI 1) dX10_stepTo_85 (by decide) ?_
          refine zr_goto 90 dX10_stepTo_86 (by decide) ?_
          refine zr_istore (lv' := [some (.ref ((ad 26))), some (.ref ((ad 23))), some (.int (nI i)), some (.int (nI 0)), some (.int (nI 0)), some (.int (nI 1))]) dX10_stepTo_90 (Nat.le_of_ble_eq_true rfl) (Nat.le_of_ble_eq_true rfl) rfl rfl ?_
          refine zr_iload_n dX10_stepTo_92 rfl ?_
          refine zr_if_eqN 106 dX10_stepTo_93 (by decide) (by omega) (fun h93 => ?_) (fun h93 => ?_)
          · refine zr_iconst (v := nI 2) dX10_stepTo_106 (by decide) ?_
            refine zr_iret dX10_stepTo_107 rfl ?_
            first | (exfalso; omega) | exact ⟨by rw [stp_eq hnk, show eln (zA M (ad 2)) (rg R i) = L from by rw [hrx, hLe], show (if i = 0 ∨ (nk = 1 ∧ (4 < s ∨ (s = 4 ∧ 512 < f + L))) then 2 else if f + L ≤ 512 then 0 else 1) = 2 from if_pos (by omega)], rfl⟩
          · refine zr_iload dX10_stepTo_96 rfl ?_
            refine zr_if_eq 108 dX10_stepTo_98 (by decide) (fun h98 => ?_) (fun h98 => absurd rfl h98)
            refine zr_iload_n dX10_stepTo_108 rfl ?_
            refine zr_if_eq 116 dX10_stepTo_109 (by decide) (fun h109 => ?_) (fun h109 => absurd rfl h109)
            refine zr_iconst (v := nI 1) dX10_stepTo_116 (by decide) ?_
            refine zr_iret dX10_stepTo_117 rfl ?_
            first | (exfalso; omega) | exact ⟨by rw [stp_eq hnk, show eln (zA M (ad 2)) (rg R i) = L from by rw [hrx, hLe], show (if i = 0 ∨ (nk = 1 ∧ (4 < s ∨ (s = 4 ∧ 512 < f + L))) then 2 else if f + L ≤ 512 then 0 else 1) = 1 from (if_neg (by omega)).trans (if_neg (by omega))], rfl⟩
        · refine zr_aload_n dX10_stepTo_73 rfl ?_
          refine zr_getI dX10_stepTo_74 lkX10_52 (by decide) (by decide) rfl (hL.K 26 11) ?_
          refine zr_as (y := (nI s)) hs ?_
          refine zr_iconst (v := nI 4) dX10_stepTo_77 (by decide) ?_
          refine zr_icmp_neN 89 dX10_stepTo_78 (by decide) (by omega) (by omega) (fun h78 => ?_) (fun h78 => ?_)
          · refine zr_iconst (v := nI 0) dX10_stepTo_89 (by decide) ?_
            refine zr_istore (lv' := [some (.ref ((ad 26))), some (.ref ((ad 23))), some (.int (nI i)), some (.int (nI 0)), some (.int (nI 0)), some (.int (nI 0))]) dX10_stepTo_90 (Nat.le_of_ble_eq_true rfl) (Nat.le_of_ble_eq_true rfl) rfl rfl ?_
            refine zr_iload_n dX10_stepTo_92 rfl ?_
            refine zr_if_eqN 106 dX10_stepTo_93 (by decide) (by omega) (fun h93 => ?_) (fun h93 => ?_)
            · refine zr_iconst (v := nI 2) dX10_stepTo_106 (by decide) ?_
              refine zr_iret dX10_stepTo_107 rfl ?_
              first | (exfalso; omega) | exact ⟨by rw [stp_eq hnk, show eln (zA M (ad 2)) (rg R i) = L from by rw [hrx, hLe], show (if i = 0 ∨ (nk = 1 ∧ (4 < s ∨ (s = 4 ∧ 512 < f + L))) then 2 else if f + L ≤ 512 then 0 else 1) = 2 from if_pos (by omega)], rfl⟩
            · refine zr_iload dX10_stepTo_96 rfl ?_
              refine zr_if_eq 108 dX10_stepTo_98 (by decide) (fun h98 => ?_) (fun h98 => absurd rfl h98)
              refine zr_iload_n dX10_stepTo_108 rfl ?_
              refine zr_if_eq 116 dX10_stepTo_109 (by decide) (fun h109 => ?_) (fun h109 => absurd rfl h109)
              refine zr_iconst (v := nI 1) dX10_stepTo_116 (by decide) ?_
              refine zr_iret dX10_stepTo_117 rfl ?_
              first | (exfalso; omega) | exact ⟨by rw [stp_eq hnk, show eln (zA M (ad 2)) (rg R i) = L from by rw [hrx, hLe], show (if i = 0 ∨ (nk = 1 ∧ (4 < s ∨ (s = 4 ∧ 512 < f + L))) then 2 else if f + L ≤ 512 then 0 else 1) = 1 from (if_neg (by omega)).trans (if_neg (by omega))], rfl⟩
          · refine zr_iload_n dX10_stepTo_81 rfl ?_
            refine zr_if_ne 89 dX10_stepTo_82 (by decide) (fun h82 => absurd rfl h82) (fun h82 => ?_)
            refine zr_iconst (v := nI 1) dX10_stepTo_85 (by decide) ?_
            refine zr_goto 90 dX10_stepTo_86 (by decide) ?_
            refine zr_istore (lv' := [some (.ref ((ad 26))), some (.ref ((ad 23))), some (.int (nI i)), some (.int (nI 0)), some (.int (nI 0)), some (.int (nI 1))]) dX10_stepTo_90 (Nat.le_of_ble_eq_true rfl) (Nat.le_of_ble_eq_true rfl) rfl rfl ?_
            refine zr_iload_n dX10_stepTo_92 rfl ?_
            refine zr_if_eqN 106 dX10_stepTo_93 (by decide) (by omega) (fun h93 => ?_) (fun h93 => ?_)
            · refine zr_iconst (v := nI 2) dX10_stepTo_106 (by decide) ?_
              refine zr_iret dX10_stepTo_107 rfl ?_
              first | (exfalso; omega) | exact ⟨by rw [stp_eq hnk, show eln (zA M (ad 2)) (rg R i) = L from by rw [hrx, hLe], show (if i = 0 ∨ (nk = 1 ∧ (4 < s ∨ (s = 4 ∧ 512 < f + L))) then 2 else if f + L ≤ 512 then 0 else 1) = 2 from if_pos (by omega)], rfl⟩
            · refine zr_iload dX10_stepTo_96 rfl ?_
              refine zr_if_eq 108 dX10_stepTo_98 (by decide) (fun h98 => ?_) (fun h98 => absurd rfl h98)
              refine zr_iload_n dX10_stepTo_108 rfl ?_
              refine zr_if_eq 116 dX10_stepTo_109 (by decide) (fun h109 => ?_) (fun h109 => absurd rfl h109)
              refine zr_iconst (v := nI 1) dX10_stepTo_116 (by decide) ?_
              refine zr_iret dX10_stepTo_117 rfl ?_
              first | (exfalso; omega) | exact ⟨by rw [stp_eq hnk, show eln (zA M (ad 2)) (rg R i) = L from by rw [hrx, hLe], show (if i = 0 ∨ (nk = 1 ∧ (4 < s ∨ (s = 4 ∧ 512 < f + L))) then 2 else if f + L ≤ 512 then 0 else 1) = 1 from (if_neg (by omega)).trans (if_neg (by omega))], rfl⟩
      · have hk1 : nk = 1 := hnk.mpr (by rw [rg_some hq9, hrx]; exact fun z => h55 (hr2.mpr z))
        refine zr_iconst (v := nI 1) dX10_stepTo_58 (by decide) ?_
        refine zr_goto 63 dX10_stepTo_59 (by decide) ?_
        refine zr_istore (lv' := [some (.ref ((ad 26))), some (.ref ((ad 23))), some (.int (nI i)), some (.int (nI 0)), some (.int (nI 1)), none]) dX10_stepTo_63 (Nat.le_of_ble_eq_true rfl) (Nat.le_of_ble_eq_true rfl) rfl rfl ?_
        refine zr_aload_n dX10_stepTo_65 rfl ?_
        refine zr_getI dX10_stepTo_66 lkX10_52 (by decide) (by decide) rfl (hL.K 26 11) ?_
        refine zr_as (y := (nI s)) hs ?_
        refine zr_iconst (v := nI 4) dX10_stepTo_69 (by decide) ?_
        refine zr_icmp_gtN 85 dX10_stepTo_70 (by decide) (by omega) (by omega) (fun h70 => ?_) (fun h70 => ?_)
        · refine zr_iconst (v := nI 1) dX10_stepTo_85 (by decide) ?_
          refine zr_goto 90 dX10_stepTo_86 (by decide) ?_
          refine zr_istore (lv' := [some (.ref ((ad 26))), some (.ref ((ad 23))), some (.int (nI i)), some (.int (nI 0)), some (.int (nI 1)), some (.int (nI 1))]) dX10_stepTo_90 (Nat.le_of_ble_eq_true rfl) (Nat.le_of_ble_eq_true rfl) rfl rfl ?_
          refine zr_iload_n dX10_stepTo_92 rfl ?_
          refine zr_if_eqN 106 dX10_stepTo_93 (by decide) (by omega) (fun h93 => ?_) (fun h93 => ?_)
          · refine zr_iconst (v := nI 2) dX10_stepTo_106 (by decide) ?_
            refine zr_iret dX10_stepTo_107 rfl ?_
            first | (exfalso; omega) | exact ⟨by rw [stp_eq hnk, show eln (zA M (ad 2)) (rg R i) = L from by rw [hrx, hLe], show (if i = 0 ∨ (nk = 1 ∧ (4 < s ∨ (s = 4 ∧ 512 < f + L))) then 2 else if f + L ≤ 512 then 0 else 1) = 2 from if_pos (by omega)], rfl⟩
          · refine zr_iload dX10_stepTo_96 rfl ?_
            refine zr_if_eq 108 dX10_stepTo_98 (by decide) (fun h98 => absurd h98 (by decide)) (fun h98 => ?_)
            refine zr_iload dX10_stepTo_101 rfl ?_
            refine zr_if_eq 108 dX10_stepTo_103 (by decide) (fun h103 => absurd h103 (by decide)) (fun h103 => ?_)
            refine zr_iconst (v := nI 2) dX10_stepTo_106 (by decide) ?_
            refine zr_iret dX10_stepTo_107 rfl ?_
            first | (exfalso; omega) | exact ⟨by rw [stp_eq hnk, show eln (zA M (ad 2)) (rg R i) = L from by rw [hrx, hLe], show (if i = 0 ∨ (nk = 1 ∧ (4 < s ∨ (s = 4 ∧ 512 < f + L))) then 2 else if f + L ≤ 512 then 0 else 1) = 2 from if_pos (by omega)], rfl⟩
        · refine zr_aload_n dX10_stepTo_73 rfl ?_
          refine zr_getI dX10_stepTo_74 lkX10_52 (by decide) (by decide) rfl (hL.K 26 11) ?_
          refine zr_as (y := (nI s)) hs ?_
          refine zr_iconst (v := nI 4) dX10_stepTo_77 (by decide) ?_
          refine zr_icmp_neN 89 dX10_stepTo_78 (by decide) (by omega) (by omega) (fun h78 => ?_) (fun h78 => ?_)
          · refine zr_iconst (v := nI 0) dX10_stepTo_89 (by decide) ?_
            refine zr_istore (lv' := [some (.ref ((ad 26))), some (.ref ((ad 23))), some (.int (nI i)), some (.int (nI 0)), some (.int (nI 1)), some (.int (nI 0))]) dX10_stepTo_90 (Nat.le_of_ble_eq_true rfl) (Nat.le_of_ble_eq_true rfl) rfl rfl ?_
            refine zr_iload_n dX10_stepTo_92 rfl ?_
            refine zr_if_eqN 106 dX10_stepTo_93 (by decide) (by omega) (fun h93 => ?_) (fun h93 => ?_)
            · refine zr_iconst (v := nI 2) dX10_stepTo_106 (by decide) ?_
              refine zr_iret dX10_stepTo_107 rfl ?_
              first | (exfalso; omega) | exact ⟨by rw [stp_eq hnk, show eln (zA M (ad 2)) (rg R i) = L from by rw [hrx, hLe], show (if i = 0 ∨ (nk = 1 ∧ (4 < s ∨ (s = 4 ∧ 512 < f + L))) then 2 else if f + L ≤ 512 then 0 else 1) = 2 from if_pos (by omega)], rfl⟩
            · refine zr_iload dX10_stepTo_96 rfl ?_
              refine zr_if_eq 108 dX10_stepTo_98 (by decide) (fun h98 => absurd h98 (by decide)) (fun h98 => ?_)
              refine zr_iload dX10_stepTo_101 rfl ?_
              refine zr_if_eq 108 dX10_stepTo_103 (by decide) (fun h103 => ?_) (fun h103 => absurd rfl h103)
              refine zr_iload_n dX10_stepTo_108 rfl ?_
              refine zr_if_eq 116 dX10_stepTo_109 (by decide) (fun h109 => ?_) (fun h109 => absurd rfl h109)
              refine zr_iconst (v := nI 1) dX10_stepTo_116 (by decide) ?_
              refine zr_iret dX10_stepTo_117 rfl ?_
              first | (exfalso; omega) | exact ⟨by rw [stp_eq hnk, show eln (zA M (ad 2)) (rg R i) = L from by rw [hrx, hLe], show (if i = 0 ∨ (nk = 1 ∧ (4 < s ∨ (s = 4 ∧ 512 < f + L))) then 2 else if f + L ≤ 512 then 0 else 1) = 1 from (if_neg (by omega)).trans (if_neg (by omega))], rfl⟩
          · refine zr_iload_n dX10_stepTo_81 rfl ?_
            refine zr_if_ne 89 dX10_stepTo_82 (by decide) (fun h82 => absurd rfl h82) (fun h82 => ?_)
            refine zr_iconst (v := nI 1) dX10_stepTo_85 (by decide) ?_
            refine zr_goto 90 dX10_stepTo_86 (by decide) ?_
            refine zr_istore (lv' := [some (.ref ((ad 26))), some (.ref ((ad 23))), some (.int (nI i)), some (.int (nI 0)), some (.int (nI 1)), some (.int (nI 1))]) dX10_stepTo_90 (Nat.le_of_ble_eq_true rfl) (Nat.le_of_ble_eq_true rfl) rfl rfl ?_
            refine zr_iload_n dX10_stepTo_92 rfl ?_
            refine zr_if_eqN 106 dX10_stepTo_93 (by decide) (by omega) (fun h93 => ?_) (fun h93 => ?_)
            · refine zr_iconst (v := nI 2) dX10_stepTo_106 (by decide) ?_
              refine zr_iret dX10_stepTo_107 rfl ?_
              first | (exfalso; omega) | exact ⟨by rw [stp_eq hnk, show eln (zA M (ad 2)) (rg R i) = L from by rw [hrx, hLe], show (if i = 0 ∨ (nk = 1 ∧ (4 < s ∨ (s = 4 ∧ 512 < f + L))) then 2 else if f + L ≤ 512 then 0 else 1) = 2 from if_pos (by omega)], rfl⟩
            · refine zr_iload dX10_stepTo_96 rfl ?_
              refine zr_if_eq 108 dX10_stepTo_98 (by decide) (fun h98 => absurd h98 (by decide)) (fun h98 => ?_)
              refine zr_iload dX10_stepTo_101 rfl ?_
              refine zr_if_eq 108 dX10_stepTo_103 (by decide) (fun h103 => absurd h103 (by decide)) (fun h103 => ?_)
              refine zr_iconst (v := nI 2) dX10_stepTo_106 (by decide) ?_
              refine zr_iret dX10_stepTo_107 rfl ?_
              first | (exfalso; omega) | exact ⟨by rw [stp_eq hnk, show eln (zA M (ad 2)) (rg R i) = L from by rw [hrx, hLe], show (if i = 0 ∨ (nk = 1 ∧ (4 < s ∨ (s = 4 ∧ 512 < f + L))) then 2 else if f + L ≤ 512 then 0 else 1) = 2 from if_pos (by omega)], rfl⟩
  · refine zr_iconst (v := nI 1) dX10_stepTo_24 (by decide) ?_
    refine zr_goto 29 dX10_stepTo_25 (by decide) ?_
    refine zr_istore_n (lv' := [some (.ref ((ad 26))), some (.ref ((ad 23))), some (.int (nI i)), some (.int (nI 1)), none, none]) dX10_stepTo_29 (Nat.le_of_ble_eq_true rfl) (Nat.le_of_ble_eq_true rfl) rfl rfl ?_
    refine zr_iload_n dX10_stepTo_30 rfl ?_
    refine zr_if_eqN 58 dX10_stepTo_31 (by decide) (by omega) (fun h31 => ?_) (fun h31 => ?_)
    · refine zr_iconst (v := nI 1) dX10_stepTo_58 (by decide) ?_
      refine zr_goto 63 dX10_stepTo_59 (by decide) ?_
      refine zr_istore (lv' := [some (.ref ((ad 26))), some (.ref ((ad 23))), some (.int (nI i)), some (.int (nI 1)), some (.int (nI 1)), none]) dX10_stepTo_63 (Nat.le_of_ble_eq_true rfl) (Nat.le_of_ble_eq_true rfl) rfl rfl ?_
      refine zr_aload_n dX10_stepTo_65 rfl ?_
      refine zr_getI dX10_stepTo_66 lkX10_52 (by decide) (by decide) rfl (hL.K 26 11) ?_
      refine zr_as (y := (nI s)) hs ?_
      refine zr_iconst (v := nI 4) dX10_stepTo_69 (by decide) ?_
      refine zr_icmp_gtN 85 dX10_stepTo_70 (by decide) (by omega) (by omega) (fun h70 => ?_) (fun h70 => ?_)
      · refine zr_iconst (v := nI 1) dX10_stepTo_85 (by decide) ?_
        refine zr_goto 90 dX10_stepTo_86 (by decide) ?_
        refine zr_istore (lv' := [some (.ref ((ad 26))), some (.ref ((ad 23))), some (.int (nI i)), some (.int (nI 1)), some (.int (nI 1)), some (.int (nI 1))]) dX10_stepTo_90 (Nat.le_of_ble_eq_true rfl) (Nat.le_of_ble_eq_true rfl) rfl rfl ?_
        refine zr_iload_n dX10_stepTo_92 rfl ?_
        refine zr_if_eqN 106 dX10_stepTo_93 (by decide) (by omega) (fun h93 => ?_) (fun h93 => ?_)
        · refine zr_iconst (v := nI 2) dX10_stepTo_106 (by decide) ?_
          refine zr_iret dX10_stepTo_107 rfl ?_
          first | (exfalso; omega) | exact ⟨by rw [stp_eq hnk, show eln (zA M (ad 2)) (rg R i) = L from by rw [hrx, hLe], show (if i = 0 ∨ (nk = 1 ∧ (4 < s ∨ (s = 4 ∧ 512 < f + L))) then 2 else if f + L ≤ 512 then 0 else 1) = 2 from if_pos (by omega)], rfl⟩
        · refine zr_iload dX10_stepTo_96 rfl ?_
          refine zr_if_eq 108 dX10_stepTo_98 (by decide) (fun h98 => absurd h98 (by decide)) (fun h98 => ?_)
          refine zr_iload dX10_stepTo_101 rfl ?_
          refine zr_if_eq 108 dX10_stepTo_103 (by decide) (fun h103 => absurd h103 (by decide)) (fun h103 => ?_)
          refine zr_iconst (v := nI 2) dX10_stepTo_106 (by decide) ?_
          refine zr_iret dX10_stepTo_107 rfl ?_
          first | (exfalso; omega) | exact ⟨by rw [stp_eq hnk, show eln (zA M (ad 2)) (rg R i) = L from by rw [hrx, hLe], show (if i = 0 ∨ (nk = 1 ∧ (4 < s ∨ (s = 4 ∧ 512 < f + L))) then 2 else if f + L ≤ 512 then 0 else 1) = 2 from if_pos (by omega)], rfl⟩
      · refine zr_aload_n dX10_stepTo_73 rfl ?_
        refine zr_getI dX10_stepTo_74 lkX10_52 (by decide) (by decide) rfl (hL.K 26 11) ?_
        refine zr_as (y := (nI s)) hs ?_
        refine zr_iconst (v := nI 4) dX10_stepTo_77 (by decide) ?_
        refine zr_icmp_neN 89 dX10_stepTo_78 (by decide) (by omega) (by omega) (fun h78 => ?_) (fun h78 => ?_)
        · refine zr_iconst (v := nI 0) dX10_stepTo_89 (by decide) ?_
          refine zr_istore (lv' := [some (.ref ((ad 26))), some (.ref ((ad 23))), some (.int (nI i)), some (.int (nI 1)), some (.int (nI 1)), some (.int (nI 0))]) dX10_stepTo_90 (Nat.le_of_ble_eq_true rfl) (Nat.le_of_ble_eq_true rfl) rfl rfl ?_
          refine zr_iload_n dX10_stepTo_92 rfl ?_
          refine zr_if_eqN 106 dX10_stepTo_93 (by decide) (by omega) (fun h93 => ?_) (fun h93 => ?_)
          · refine zr_iconst (v := nI 2) dX10_stepTo_106 (by decide) ?_
            refine zr_iret dX10_stepTo_107 rfl ?_
            first | (exfalso; omega) | exact ⟨by rw [stp_eq hnk, show eln (zA M (ad 2)) (rg R i) = L from by rw [hrx, hLe], show (if i = 0 ∨ (nk = 1 ∧ (4 < s ∨ (s = 4 ∧ 512 < f + L))) then 2 else if f + L ≤ 512 then 0 else 1) = 2 from if_pos (by omega)], rfl⟩
          · refine zr_iload dX10_stepTo_96 rfl ?_
            refine zr_if_eq 108 dX10_stepTo_98 (by decide) (fun h98 => absurd h98 (by decide)) (fun h98 => ?_)
            refine zr_iload dX10_stepTo_101 rfl ?_
            refine zr_if_eq 108 dX10_stepTo_103 (by decide) (fun h103 => ?_) (fun h103 => absurd rfl h103)
            refine zr_iload_n dX10_stepTo_108 rfl ?_
            refine zr_if_eq 116 dX10_stepTo_109 (by decide) (fun h109 => absurd h109 (by decide)) (fun h109 => ?_)
            refine zr_iconst (v := nI 0) dX10_stepTo_112 (by decide) ?_
            refine zr_goto 117 dX10_stepTo_113 (by decide) ?_
            refine zr_iret dX10_stepTo_117 rfl ?_
            first | (exfalso; omega) | exact ⟨by rw [stp_eq hnk, show eln (zA M (ad 2)) (rg R i) = L from by rw [hrx, hLe], show (if i = 0 ∨ (nk = 1 ∧ (4 < s ∨ (s = 4 ∧ 512 < f + L))) then 2 else if f + L ≤ 512 then 0 else 1) = 0 from (if_neg (by omega)).trans (if_pos (by omega))], rfl⟩
        · refine zr_iload_n dX10_stepTo_81 rfl ?_
          refine zr_if_ne 89 dX10_stepTo_82 (by decide) (fun h82 => ?_) (fun h82 => absurd h82 (by decide))
          refine zr_iconst (v := nI 0) dX10_stepTo_89 (by decide) ?_
          refine zr_istore (lv' := [some (.ref ((ad 26))), some (.ref ((ad 23))), some (.int (nI i)), some (.int (nI 1)), some (.int (nI 1)), some (.int (nI 0))]) dX10_stepTo_90 (Nat.le_of_ble_eq_true rfl) (Nat.le_of_ble_eq_true rfl) rfl rfl ?_
          refine zr_iload_n dX10_stepTo_92 rfl ?_
          refine zr_if_eqN 106 dX10_stepTo_93 (by decide) (by omega) (fun h93 => ?_) (fun h93 => ?_)
          · refine zr_iconst (v := nI 2) dX10_stepTo_106 (by decide) ?_
            refine zr_iret dX10_stepTo_107 rfl ?_
            first | (exfalso; omega) | exact ⟨by rw [stp_eq hnk, show eln (zA M (ad 2)) (rg R i) = L from by rw [hrx, hLe], show (if i = 0 ∨ (nk = 1 ∧ (4 < s ∨ (s = 4 ∧ 512 < f + L))) then 2 else if f + L ≤ 512 then 0 else 1) = 2 from if_pos (by omega)], rfl⟩
          · refine zr_iload dX10_stepTo_96 rfl ?_
            refine zr_if_eq 108 dX10_stepTo_98 (by decide) (fun h98 => absurd h98 (by decide)) (fun h98 => ?_)
            refine zr_iload dX10_stepTo_101 rfl ?_
            refine zr_if_eq 108 dX10_stepTo_103 (by decide) (fun h103 => ?_) (fun h103 => absurd rfl h103)
            refine zr_iload_n dX10_stepTo_108 rfl ?_
            refine zr_if_eq 116 dX10_stepTo_109 (by decide) (fun h109 => absurd h109 (by decide)) (fun h109 => ?_)
            refine zr_iconst (v := nI 0) dX10_stepTo_112 (by decide) ?_
            refine zr_goto 117 dX10_stepTo_113 (by decide) ?_
            refine zr_iret dX10_stepTo_117 rfl ?_
            first | (exfalso; omega) | exact ⟨by rw [stp_eq hnk, show eln (zA M (ad 2)) (rg R i) = L from by rw [hrx, hLe], show (if i = 0 ∨ (nk = 1 ∧ (4 < s ∨ (s = 4 ∧ 512 < f + L))) then 2 else if f + L ≤ 512 then 0 else 1) = 0 from (if_neg (by omega)).trans (if_pos (by omega))], rfl⟩
    · obtain ⟨q, hq9⟩ : ∃ q, R[i - 1]? = some q := ⟨_, List.getElem?_eq_getElem (by omega)⟩
      refine zr_aload_n dX10_stepTo_34 rfl ?_
      refine zr_getR dX10_stepTo_35 lkX10_24 (by decide) (by decide) rfl (hL.K 26 11) (hL.R 320 26 1) ?_
      refine zr_aload_n dX10_stepTo_38 rfl ?_
      refine zr_getR dX10_stepTo_39 lkX10_36 (by decide) (by decide) rfl (hL.K 23 8) (hL.R 225 23 24) ?_
      refine zr_iload_n dX10_stepTo_42 rfl ?_
      refine zr_iconst (v := nI 1) dX10_stepTo_43 (by decide) ?_
      refine zr_isubN dX10_stepTo_44 (by omega) ?_
      refine zr_ialdN dX10_stepTo_45 (hL.K 24 15) (hL.N 24 2048) (by omega) (by omega) ?_
      refine zr_as (y := (nI q)) (hR.2.2 _ q hq9) ?_
      refine zr_aload_n dX10_stepTo_46 rfl ?_
      refine zr_getR dX10_stepTo_47 lkX10_36 (by decide) (by decide) rfl (hL.K 23 8) (hL.R 225 23 24) ?_
      refine zr_iload_n dX10_stepTo_50 rfl ?_
      refine zr_ialdN dX10_stepTo_51 (hL.K 24 15) (hL.N 24 2048) (by omega) (by omega) ?_
      refine zr_as (y := (nI x)) (hR.2.2 _ x hx) ?_
      refine zr_callV (md' := mX1_order) (As := [.int (nI q), .int (nI x)]) dX10_stepTo_52 mlX10_48 okX1_order rfl inX1_order slX1_order (by decide) (hL.K 1 2) rfl (by omega) (Nat.le_of_ble_eq_true rfl) hcb (c_Disk_order (d := d - 1) hcb (Lay.dk hL) (Nat.lt_trans (hE q (List.mem_of_getElem? hq9)).1 (by decide)) (Nat.lt_trans (hE x (List.mem_of_getElem? hx)).1 (by decide))) (fun k M1 h => by obtain ⟨r, h, -⟩ := h; cases h) (fun v M1 hq => ?_)
      obtain ⟨r, e0, e1, hr1, hr2⟩ := hq
      cases e0
      rw [e1]
      refine zr_if_eq 62 dX10_stepTo_55 (by decide) (fun h55 => ?_) (fun h55 => ?_)
      · have hk0 : nk = 0 := by
          have : ¬ nk = 1 := fun z => hnk.mp z (by rw [rg_some hq9, hrx]; exact hr2.mp h55)
          omega
        refine zr_iconst (v := nI 0) dX10_stepTo_62 (by decide) ?_
        refine zr_istore (lv' := [some (.ref ((ad 26))), some (.ref ((ad 23))), some (.int (nI i)), some (.int (nI 1)), some (.int (nI 0)), none]) dX10_stepTo_63 (Nat.le_of_ble_eq_true rfl) (Nat.le_of_ble_eq_true rfl) rfl rfl ?_
        refine zr_aload_n dX10_stepTo_65 rfl ?_
        refine zr_getI dX10_stepTo_66 lkX10_52 (by decide) (by decide) rfl (hL.K 26 11) ?_
        refine zr_as (y := (nI s)) hs ?_
        refine zr_iconst (v := nI 4) dX10_stepTo_69 (by decide) ?_
        refine zr_icmp_gtN 85 dX10_stepTo_70 (by decide) (by omega) (by omega) (fun h70 => ?_) (fun h70 => ?_)
        · refine zr_iconst (v := nI 1) dX10_stepTo_85 (by decide) ?_
          refine zr_goto 90 dX10_stepTo_86 (by decide) ?_
          refine zr_istore (lv' := [some (.ref ((ad 26))), some (.ref ((ad 23))), some (.int (nI i)), some (.int (nI 1)), some (.int (nI 0)), some (.int (nI 1))]) dX10_stepTo_90 (Nat.le_of_ble_eq_true rfl) (Nat.le_of_ble_eq_true rfl) rfl rfl ?_
          refine zr_iload_n dX10_stepTo_92 rfl ?_
          refine zr_if_eqN 106 dX10_stepTo_93 (by decide) (by omega) (fun h93 => ?_) (fun h93 => ?_)
          · refine zr_iconst (v := nI 2) dX10_stepTo_106 (by decide) ?_
            refine zr_iret dX10_stepTo_107 rfl ?_
            first | (exfalso; omega) | exact ⟨by rw [stp_eq hnk, show eln (zA M (ad 2)) (rg R i) = L from by rw [hrx, hLe], show (if i = 0 ∨ (nk = 1 ∧ (4 < s ∨ (s = 4 ∧ 512 < f + L))) then 2 else if f + L ≤ 512 then 0 else 1) = 2 from if_pos (by omega)], rfl⟩
          · refine zr_iload dX10_stepTo_96 rfl ?_
            refine zr_if_eq 108 dX10_stepTo_98 (by decide) (fun h98 => ?_) (fun h98 => absurd rfl h98)
            refine zr_iload_n dX10_stepTo_108 rfl ?_
            refine zr_if_eq 116 dX10_stepTo_109 (by decide) (fun h109 => absurd h109 (by decide)) (fun h109 => ?_)
            refine zr_iconst (v := nI 0) dX10_stepTo_112 (by decide) ?_
            refine zr_goto 117 dX10_stepTo_113 (by decide) ?_
            refine zr_iret dX10_stepTo_117 rfl ?_
            first | (exfalso; omega) | exact ⟨by rw [stp_eq hnk, show eln (zA M (ad 2)) (rg R i) = L from by rw [hrx, hLe], show (if i = 0 ∨ (nk = 1 ∧ (4 < s ∨ (s = 4 ∧ 512 < f + L))) then 2 else if f + L ≤ 512 then 0 else 1) = 0 from (if_neg (by omega)).trans (if_pos (by omega))], rfl⟩
        · refine zr_aload_n dX10_stepTo_73 rfl ?_
          refine zr_getI dX10_stepTo_74 lkX10_52 (by decide) (by decide) rfl (hL.K 26 11) ?_
          refine zr_as (y := (nI s)) hs ?_
          refine zr_iconst (v := nI 4) dX10_stepTo_77 (by decide) ?_
          refine zr_icmp_neN 89 dX10_stepTo_78 (by decide) (by omega) (by omega) (fun h78 => ?_) (fun h78 => ?_)
          · refine zr_iconst (v := nI 0) dX10_stepTo_89 (by decide) ?_
            refine zr_istore (lv' := [some (.ref ((ad 26))), some (.ref ((ad 23))), some (.int (nI i)), some (.int (nI 1)), some (.int (nI 0)), some (.int (nI 0))]) dX10_stepTo_90 (Nat.le_of_ble_eq_true rfl) (Nat.le_of_ble_eq_true rfl) rfl rfl ?_
            refine zr_iload_n dX10_stepTo_92 rfl ?_
            refine zr_if_eqN 106 dX10_stepTo_93 (by decide) (by omega) (fun h93 => ?_) (fun h93 => ?_)
            · refine zr_iconst (v := nI 2) dX10_stepTo_106 (by decide) ?_
              refine zr_iret dX10_stepTo_107 rfl ?_
              first | (exfalso; omega) | exact ⟨by rw [stp_eq hnk, show eln (zA M (ad 2)) (rg R i) = L from by rw [hrx, hLe], show (if i = 0 ∨ (nk = 1 ∧ (4 < s ∨ (s = 4 ∧ 512 < f + L))) then 2 else if f + L ≤ 512 then 0 else 1) = 2 from if_pos (by omega)], rfl⟩
            · refine zr_iload dX10_stepTo_96 rfl ?_
              refine zr_if_eq 108 dX10_stepTo_98 (by decide) (fun h98 => ?_) (fun h98 => absurd rfl h98)
              refine zr_iload_n dX10_stepTo_108 rfl ?_
              refine zr_if_eq 116 dX10_stepTo_109 (by decide) (fun h109 => absurd h109 (by decide)) (fun h109 => ?_)
              refine zr_iconst (v := nI 0) dX10_stepTo_112 (by decide) ?_
              refine zr_goto 117 dX10_stepTo_113 (by decide) ?_
              refine zr_iret dX10_stepTo_117 rfl ?_
              first | (exfalso; omega) | exact ⟨by rw [stp_eq hnk, show eln (zA M (ad 2)) (rg R i) = L from by rw [hrx, hLe], show (if i = 0 ∨ (nk = 1 ∧ (4 < s ∨ (s = 4 ∧ 512 < f + L))) then 2 else if f + L ≤ 512 then 0 else 1) = 0 from (if_neg (by omega)).trans (if_pos (by omega))], rfl⟩
          · refine zr_iload_n dX10_stepTo_81 rfl ?_
            refine zr_if_ne 89 dX10_stepTo_82 (by decide) (fun h82 => ?_) (fun h82 => absurd h82 (by decide))
            refine zr_iconst (v := nI 0) dX10_stepTo_89 (by decide) ?_
            refine zr_istore (lv' := [some (.ref ((ad 26))), some (.ref ((ad 23))), some (.int (nI i)), some (.int (nI 1)), some (.int (nI 0)), some (.int (nI 0))]) dX10_stepTo_90 (Nat.le_of_ble_eq_true rfl) (Nat.le_of_ble_eq_true rfl) rfl rfl ?_
            refine zr_iload_n dX10_stepTo_92 rfl ?_
            refine zr_if_eqN 106 dX10_stepTo_93 (by decide) (by omega) (fun h93 => ?_) (fun h93 => ?_)
            · refine zr_iconst (v := nI 2) dX10_stepTo_106 (by decide) ?_
              refine zr_iret dX10_stepTo_107 rfl ?_
              first | (exfalso; omega) | exact ⟨by rw [stp_eq hnk, show eln (zA M (ad 2)) (rg R i) = L from by rw [hrx, hLe], show (if i = 0 ∨ (nk = 1 ∧ (4 < s ∨ (s = 4 ∧ 512 < f + L))) then 2 else if f + L ≤ 512 then 0 else 1) = 2 from if_pos (by omega)], rfl⟩
            · refine zr_iload dX10_stepTo_96 rfl ?_
              refine zr_if_eq 108 dX10_stepTo_98 (by decide) (fun h98 => ?_) (fun h98 => absurd rfl h98)
              refine zr_iload_n dX10_stepTo_108 rfl ?_
              refine zr_if_eq 116 dX10_stepTo_109 (by decide) (fun h109 => absurd h109 (by decide)) (fun h109 => ?_)
              refine zr_iconst (v := nI 0) dX10_stepTo_112 (by decide) ?_
              refine zr_goto 117 dX10_stepTo_113 (by decide) ?_
              refine zr_iret dX10_stepTo_117 rfl ?_
              first | (exfalso; omega) | exact ⟨by rw [stp_eq hnk, show eln (zA M (ad 2)) (rg R i) = L from by rw [hrx, hLe], show (if i = 0 ∨ (nk = 1 ∧ (4 < s ∨ (s = 4 ∧ 512 < f + L))) then 2 else if f + L ≤ 512 then 0 else 1) = 0 from (if_neg (by omega)).trans (if_pos (by omega))], rfl⟩
      · have hk1 : nk = 1 := hnk.mpr (by rw [rg_some hq9, hrx]; exact fun z => h55 (hr2.mpr z))
        refine zr_iconst (v := nI 1) dX10_stepTo_58 (by decide) ?_
        refine zr_goto 63 dX10_stepTo_59 (by decide) ?_
        refine zr_istore (lv' := [some (.ref ((ad 26))), some (.ref ((ad 23))), some (.int (nI i)), some (.int (nI 1)), some (.int (nI 1)), none]) dX10_stepTo_63 (Nat.le_of_ble_eq_true rfl) (Nat.le_of_ble_eq_true rfl) rfl rfl ?_
        refine zr_aload_n dX10_stepTo_65 rfl ?_
        refine zr_getI dX10_stepTo_66 lkX10_52 (by decide) (by decide) rfl (hL.K 26 11) ?_
        refine zr_as (y := (nI s)) hs ?_
        refine zr_iconst (v := nI 4) dX10_stepTo_69 (by decide) ?_
        refine zr_icmp_gtN 85 dX10_stepTo_70 (by decide) (by omega) (by omega) (fun h70 => ?_) (fun h70 => ?_)
        · refine zr_iconst (v := nI 1) dX10_stepTo_85 (by decide) ?_
          refine zr_goto 90 dX10_stepTo_86 (by decide) ?_
          refine zr_istore (lv' := [some (.ref ((ad 26))), some (.ref ((ad 23))), some (.int (nI i)), some (.int (nI 1)), some (.int (nI 1)), some (.int (nI 1))]) dX10_stepTo_90 (Nat.le_of_ble_eq_true rfl) (Nat.le_of_ble_eq_true rfl) rfl rfl ?_
          refine zr_iload_n dX10_stepTo_92 rfl ?_
          refine zr_if_eqN 106 dX10_stepTo_93 (by decide) (by omega) (fun h93 => ?_) (fun h93 => ?_)
          · refine zr_iconst (v := nI 2) dX10_stepTo_106 (by decide) ?_
            refine zr_iret dX10_stepTo_107 rfl ?_
            first | (exfalso; omega) | exact ⟨by rw [stp_eq hnk, show eln (zA M (ad 2)) (rg R i) = L from by rw [hrx, hLe], show (if i = 0 ∨ (nk = 1 ∧ (4 < s ∨ (s = 4 ∧ 512 < f + L))) then 2 else if f + L ≤ 512 then 0 else 1) = 2 from if_pos (by omega)], rfl⟩
          · refine zr_iload dX10_stepTo_96 rfl ?_
            refine zr_if_eq 108 dX10_stepTo_98 (by decide) (fun h98 => absurd h98 (by decide)) (fun h98 => ?_)
            refine zr_iload dX10_stepTo_101 rfl ?_
            refine zr_if_eq 108 dX10_stepTo_103 (by decide) (fun h103 => absurd h103 (by decide)) (fun h103 => ?_)
            refine zr_iconst (v := nI 2) dX10_stepTo_106 (by decide) ?_
            refine zr_iret dX10_stepTo_107 rfl ?_
            first | (exfalso; omega) | exact ⟨by rw [stp_eq hnk, show eln (zA M (ad 2)) (rg R i) = L from by rw [hrx, hLe], show (if i = 0 ∨ (nk = 1 ∧ (4 < s ∨ (s = 4 ∧ 512 < f + L))) then 2 else if f + L ≤ 512 then 0 else 1) = 2 from if_pos (by omega)], rfl⟩
        · refine zr_aload_n dX10_stepTo_73 rfl ?_
          refine zr_getI dX10_stepTo_74 lkX10_52 (by decide) (by decide) rfl (hL.K 26 11) ?_
          refine zr_as (y := (nI s)) hs ?_
          refine zr_iconst (v := nI 4) dX10_stepTo_77 (by decide) ?_
          refine zr_icmp_neN 89 dX10_stepTo_78 (by decide) (by omega) (by omega) (fun h78 => ?_) (fun h78 => ?_)
          · refine zr_iconst (v := nI 0) dX10_stepTo_89 (by decide) ?_
            refine zr_istore (lv' := [some (.ref ((ad 26))), some (.ref ((ad 23))), some (.int (nI i)), some (.int (nI 1)), some (.int (nI 1)), some (.int (nI 0))]) dX10_stepTo_90 (Nat.le_of_ble_eq_true rfl) (Nat.le_of_ble_eq_true rfl) rfl rfl ?_
            refine zr_iload_n dX10_stepTo_92 rfl ?_
            refine zr_if_eqN 106 dX10_stepTo_93 (by decide) (by omega) (fun h93 => ?_) (fun h93 => ?_)
            · refine zr_iconst (v := nI 2) dX10_stepTo_106 (by decide) ?_
              refine zr_iret dX10_stepTo_107 rfl ?_
              first | (exfalso; omega) | exact ⟨by rw [stp_eq hnk, show eln (zA M (ad 2)) (rg R i) = L from by rw [hrx, hLe], show (if i = 0 ∨ (nk = 1 ∧ (4 < s ∨ (s = 4 ∧ 512 < f + L))) then 2 else if f + L ≤ 512 then 0 else 1) = 2 from if_pos (by omega)], rfl⟩
            · refine zr_iload dX10_stepTo_96 rfl ?_
              refine zr_if_eq 108 dX10_stepTo_98 (by decide) (fun h98 => absurd h98 (by decide)) (fun h98 => ?_)
              refine zr_iload dX10_stepTo_101 rfl ?_
              refine zr_if_eq 108 dX10_stepTo_103 (by decide) (fun h103 => ?_) (fun h103 => absurd rfl h103)
              refine zr_iload_n dX10_stepTo_108 rfl ?_
              refine zr_if_eq 116 dX10_stepTo_109 (by decide) (fun h109 => absurd h109 (by decide)) (fun h109 => ?_)
              refine zr_iconst (v := nI 0) dX10_stepTo_112 (by decide) ?_
              refine zr_goto 117 dX10_stepTo_113 (by decide) ?_
              refine zr_iret dX10_stepTo_117 rfl ?_
              first | (exfalso; omega) | exact ⟨by rw [stp_eq hnk, show eln (zA M (ad 2)) (rg R i) = L from by rw [hrx, hLe], show (if i = 0 ∨ (nk = 1 ∧ (4 < s ∨ (s = 4 ∧ 512 < f + L))) then 2 else if f + L ≤ 512 then 0 else 1) = 0 from (if_neg (by omega)).trans (if_pos (by omega))], rfl⟩
          · refine zr_iload_n dX10_stepTo_81 rfl ?_
            refine zr_if_ne 89 dX10_stepTo_82 (by decide) (fun h82 => ?_) (fun h82 => absurd h82 (by decide))
            refine zr_iconst (v := nI 0) dX10_stepTo_89 (by decide) ?_
            refine zr_istore (lv' := [some (.ref ((ad 26))), some (.ref ((ad 23))), some (.int (nI i)), some (.int (nI 1)), some (.int (nI 1)), some (.int (nI 0))]) dX10_stepTo_90 (Nat.le_of_ble_eq_true rfl) (Nat.le_of_ble_eq_true rfl) rfl rfl ?_
            refine zr_iload_n dX10_stepTo_92 rfl ?_
            refine zr_if_eqN 106 dX10_stepTo_93 (by decide) (by omega) (fun h93 => ?_) (fun h93 => ?_)
            · refine zr_iconst (v := nI 2) dX10_stepTo_106 (by decide) ?_
              refine zr_iret dX10_stepTo_107 rfl ?_
              first | (exfalso; omega) | exact ⟨by rw [stp_eq hnk, show eln (zA M (ad 2)) (rg R i) = L from by rw [hrx, hLe], show (if i = 0 ∨ (nk = 1 ∧ (4 < s ∨ (s = 4 ∧ 512 < f + L))) then 2 else if f + L ≤ 512 then 0 else 1) = 2 from if_pos (by omega)], rfl⟩
            · refine zr_iload dX10_stepTo_96 rfl ?_
              refine zr_if_eq 108 dX10_stepTo_98 (by decide) (fun h98 => absurd h98 (by decide)) (fun h98 => ?_)
              refine zr_iload dX10_stepTo_101 rfl ?_
              refine zr_if_eq 108 dX10_stepTo_103 (by decide) (fun h103 => ?_) (fun h103 => absurd rfl h103)
              refine zr_iload_n dX10_stepTo_108 rfl ?_
              refine zr_if_eq 116 dX10_stepTo_109 (by decide) (fun h109 => absurd h109 (by decide)) (fun h109 => ?_)
              refine zr_iconst (v := nI 0) dX10_stepTo_112 (by decide) ?_
              refine zr_goto 117 dX10_stepTo_113 (by decide) ?_
              refine zr_iret dX10_stepTo_117 rfl ?_
              first | (exfalso; omega) | exact ⟨by rw [stp_eq hnk, show eln (zA M (ad 2)) (rg R i) = L from by rw [hrx, hLe], show (if i = 0 ∨ (nk = 1 ∧ (4 < s ∨ (s = 4 ∧ 512 < f + L))) then 2 else if f + L ≤ 512 then 0 else 1) = 0 from (if_neg (by omega)).trans (if_pos (by omega))], rfl⟩
set_option maxRecDepth 100000 in
set_option maxHeartbeats 4000000 in
theorem c_Writer_advance {G : zG} {ad : Nat → Nat} {d n len s f : Nat} {M : zM} (hcb : zC M ≤ 600128 ∧ zS M ≤ 7301098) (hL : Lay ad M) (hs : zI M 326 (ad 26) = nI s) (hf : zI M 327 (ad 26) = nI f) (hsb : s ≤ 4096) (hfb : f ≤ 4096) (hn : n ≤ 2)  : zMet G mX10_advance d [.ref ((ad 26)), .int (nI n), .int (nI len)] M (fun o M' => o = .inl none ∧ M' = wrM ad M (adS n s) (adF n f len)) := by
  refine zMet_of (by decide +kernel) (Nat.le_of_ble_eq_true rfl) rfl hcb ?_
  show zw G mX10_advance d _ _ _ 0 [some (.ref ((ad 26))), some (.int (nI n)), some (.int (nI len))] [] M
  refine zr_iload_n dX10_advance_0 rfl ?_
  refine zr_iconst (v := nI 2) dX10_advance_1 (by decide) ?_
  refine zr_icmp_neN 10 dX10_advance_2 (by decide) (by omega) (by omega) (fun h2 => ?_) (fun h2 => ?_)
  · refine zr_iload_n dX10_advance_10 rfl ?_
    refine zr_if_eqN 29 dX10_advance_11 (by decide) (by omega) (fun h11 => ?_) (fun h11 => ?_)
    · refine zr_aload_n dX10_advance_29 rfl ?_
      refine zr_dup dX10_advance_30 rfl ?_
      refine zr_getI dX10_advance_31 lkX10_32 (by decide) (by decide) rfl (hL.K 26 11) ?_
      refine zr_as (y := (nI f)) hf ?_
      refine zr_iload_n dX10_advance_34 rfl ?_
      refine zr_iaddN dX10_advance_35 ?_
      refine zr_putI dX10_advance_36 lkX10_32 (by decide) (by decide) rfl rfl (hL.K 26 11) ?_
      refine zr_vret dX10_advance_39 rfl ?_
      have e2 : n = 0 := by omega
      subst e2
      exact ⟨rfl, by unfold wrM adS adF; rw [if_neg (by decide), if_pos rfl, if_pos rfl, zput_self hs]⟩
    · refine zr_aload_n dX10_advance_14 rfl ?_
      refine zr_dup dX10_advance_15 rfl ?_
      refine zr_getI dX10_advance_16 lkX10_52 (by decide) (by decide) rfl (hL.K 26 11) ?_
      refine zr_as (y := (nI s)) hs ?_
      refine zr_iconst (v := nI 1) dX10_advance_19 (by decide) ?_
      refine zr_iaddN dX10_advance_20 ?_
      refine zr_putI dX10_advance_21 lkX10_52 (by decide) (by decide) rfl rfl (hL.K 26 11) ?_
      refine zr_aload_n dX10_advance_24 rfl ?_
      refine zr_iconst (v := nI 0) dX10_advance_25 (by decide) ?_
      refine zr_putI dX10_advance_26 lkX10_32 (by decide) (by decide) rfl rfl (hL.K 26 11) ?_
      refine zr_aload_n dX10_advance_29 rfl ?_
      refine zr_dup dX10_advance_30 rfl ?_
      refine zr_getI dX10_advance_31 lkX10_32 (by decide) (by decide) rfl (hL.K 26 11) ?_
      refine zr_as (y := (nI 0)) (zput_hit _ _ _ _) ?_
      refine zr_iload_n dX10_advance_34 rfl ?_
      refine zr_iaddN dX10_advance_35 ?_
      refine zr_putI dX10_advance_36 lkX10_32 (by decide) (by decide) rfl rfl (hL.K 26 11) ?_
      refine zr_vret dX10_advance_39 rfl ?_
      have e2 : n = 1 := by omega
      subst e2
      exact ⟨rfl, by simp only [Nat.zero_add]; rw [zput_put]; rfl⟩
  · refine zr_aload_n dX10_advance_5 rfl ?_
    refine zr_iconst (v := nI 0) dX10_advance_6 (by decide) ?_
    refine zr_putI dX10_advance_7 lkX10_52 (by decide) (by decide) rfl rfl (hL.K 26 11) ?_
    refine zr_iload_n dX10_advance_10 rfl ?_
    refine zr_if_eqN 29 dX10_advance_11 (by decide) (by omega) (fun h11 => ?_) (fun h11 => ?_)
    · refine zr_aload_n dX10_advance_29 rfl ?_
      refine zr_dup dX10_advance_30 rfl ?_
      refine zr_getI dX10_advance_31 lkX10_32 (by decide) (by decide) rfl (hL.K 26 11) ?_
      refine zr_as (y := (nI f)) (zput_ms (by decide) hf) ?_
      refine zr_iload_n dX10_advance_34 rfl ?_
      refine zr_iaddN dX10_advance_35 ?_
      refine zr_putI dX10_advance_36 lkX10_32 (by decide) (by decide) rfl rfl (hL.K 26 11) ?_
      refine zr_vret dX10_advance_39 rfl ?_
      exfalso; omega
    · refine zr_aload_n dX10_advance_14 rfl ?_
      refine zr_dup dX10_advance_15 rfl ?_
      refine zr_getI dX10_advance_16 lkX10_52 (by decide) (by decide) rfl (hL.K 26 11) ?_
      refine zr_as (y := (nI 0)) (zput_hit _ _ _ _) ?_
      refine zr_iconst (v := nI 1) dX10_advance_19 (by decide) ?_
      refine zr_iaddN dX10_advance_20 ?_
      refine zr_putI dX10_advance_21 lkX10_52 (by decide) (by decide) rfl rfl (hL.K 26 11) ?_
      refine zr_aload_n dX10_advance_24 rfl ?_
      refine zr_iconst (v := nI 0) dX10_advance_25 (by decide) ?_
      refine zr_putI dX10_advance_26 lkX10_32 (by decide) (by decide) rfl rfl (hL.K 26 11) ?_
      refine zr_aload_n dX10_advance_29 rfl ?_
      refine zr_dup dX10_advance_30 rfl ?_
      refine zr_getI dX10_advance_31 lkX10_32 (by decide) (by decide) rfl (hL.K 26 11) ?_
      refine zr_as (y := (nI 0)) (zput_hit _ _ _ _) ?_
      refine zr_iload_n dX10_advance_34 rfl ?_
      refine zr_iaddN dX10_advance_35 ?_
      refine zr_putI dX10_advance_36 lkX10_32 (by decide) (by decide) rfl rfl (hL.K 26 11) ?_
      refine zr_vret dX10_advance_39 rfl ?_
      have e2 : n = 2 := by omega
      subst e2
      exact ⟨rfl, by simp only [Nat.zero_add]; rw [zput_put, zput_put]; rfl⟩
/-- there is room for all of the rows -/
def Rm (D : Nat → Int32) (R : List Nat) (fb ft : Nat) : Prop := (∀ j, 1 ≤ j → j ≤ R.length → (sim D R j).1 < 9 ∧ (sim D R j).2.1 ≤ 512) ∧ (sim D R R.length).2.2.1 ≤ fb ∧ (sim D R R.length).2.2.2 ≤ ft
set_option maxRecDepth 100000 in
set_option maxHeartbeats 4000000 in
theorem l_Writer_hasRoom {G : zG} {ad : Nat → Nat} {d k0 n0 fb ft : Nat} {R : List Nat} {M : zM} {Q : zOut → zM → Prop} (hd : 2 ≤ d) (hcb : zC M ≤ 600128 ∧ zS M ≤ 7301098) (hL : Lay ad M) (hR : Rs ad M R) (hE : Eb (zA M (ad 2)) R) (hfb9 : zI M 69 (ad 17) = nI fb) (hft9 : zI M 70 (ad 17) = nI ft) (hfbb : fb ≤ 4096) (hftb : ft ≤ 4096) (hq0 : ∀ t s f : Nat, t ≤ 1 → s ≤ 4095 → f ≤ 3500 → (t = 1 ↔ Rm (zA M (ad 2)) R fb ft) → Q (.inl (some (.int (nI t)))) (wrM ad M s f)) : ∀ (m i s f b t : Nat), R.length - i = m → i ≤ R.length → (i = 0 ∨ ((sim (zA M (ad 2)) R i).1 = s ∧ (sim (zA M (ad 2)) R i).2.1 = f)) → ((sim (zA M (ad 2)) R i).2.2.1 = b ∧ (sim (zA M (ad 2)) R i).2.2.2 = t) → s ≤ (if i = 0 then 4095 else 9) → f ≤ (if i = 0 then 3500 else 512) → b ≤ 2 * i → t ≤ i → (∀ j, 1 ≤ j → j ≤ i → (sim (zA M (ad 2)) R j).1 < 9 ∧ (sim (zA M (ad 2)) R j).2.1 ≤ 512) → zw G mX10_hasRoom d k0 n0 Q 7 [some (.ref ((ad 26))), some (.ref ((ad 23))), some (.int (nI b)), some (.int (nI t)), some (.int (nI i)), none] [] (wrM ad M s f) := by
  intro m
  induction m using Nat.strongRecOn with
  | _ m ih =>
    intro i s f b t hm hi hsm1 hsm2 hs9 hf9 hbb htb hok
    have hpl := hR.2.1
    have hsc : s ≤ 4095 := by split at hs9 <;> omega
    have hfc : f ≤ 3500 := by split at hf9 <;> omega
    have hsb : s ≤ 4096 := by omega
    have hfb : f ≤ 4096 := by omega
    refine zr_iload dX10_hasRoom_7 rfl ?_
    refine zr_aload_n dX10_hasRoom_9 rfl ?_
    refine zr_getI dX10_hasRoom_10 lkX10_55 (by decide) (by decide) rfl (hL.K 23 8) ?_
    refine zr_as (y := (nI R.length)) (zput_ms (by decide) (zput_ms (by decide) hR.1)) ?_
    refine zr_icmp_geN 110 dX10_hasRoom_13 (by decide) (by omega) (by omega) (fun h13 => ?_) (fun h13 => ?_)
    · refine zr_iload_n dX10_hasRoom_110 rfl ?_
      refine zr_aload_n dX10_hasRoom_111 rfl ?_
      refine zr_getR dX10_hasRoom_112 lkX10_28 (by decide) (by decide) rfl (hL.K 26 11) (hL.R 321 26 17) ?_
      refine zr_getI dX10_hasRoom_115 lkX10_66 (by decide) (by decide) rfl (hL.K 17 3) ?_
      refine zr_as (y := (nI fb)) (zput_ms (by decide) (zput_ms (by decide) hfb9)) ?_
      refine zr_icmp_gtN 136 dX10_hasRoom_118 (by decide) (by omega) (by omega) (fun h118 => ?_) (fun h118 => ?_)
      · refine zr_iconst (v := nI 0) dX10_hasRoom_136 (by decide) ?_
        refine zr_zret dX10_hasRoom_137 rfl (Or.inl rfl) ?_
        have e9 : i = R.length := by omega
        subst e9
        exact hq0 0 _ _ (by decide) hsc hfc ⟨fun z => absurd z (by decide), fun z => by have h1 := z.2.1; have h2 := z.2.2; rw [hsm2.1] at h1; rw [hsm2.2] at h2; omega⟩
      · refine zr_iload_n dX10_hasRoom_121 rfl ?_
        refine zr_aload_n dX10_hasRoom_122 rfl ?_
        refine zr_getR dX10_hasRoom_123 lkX10_28 (by decide) (by decide) rfl (hL.K 26 11) (hL.R 321 26 17) ?_
        refine zr_getI dX10_hasRoom_126 lkX10_71 (by decide) (by decide) rfl (hL.K 17 3) ?_
        refine zr_as (y := (nI ft)) (zput_ms (by decide) (zput_ms (by decide) hft9)) ?_
        refine zr_icmp_gtN 136 dX10_hasRoom_129 (by decide) (by omega) (by omega) (fun h129 => ?_) (fun h129 => ?_)
        · refine zr_iconst (v := nI 0) dX10_hasRoom_136 (by decide) ?_
          refine zr_zret dX10_hasRoom_137 rfl (Or.inl rfl) ?_
          have e9 : i = R.length := by omega
          subst e9
          exact hq0 0 _ _ (by decide) hsc hfc ⟨fun z => absurd z (by decide), fun z => by have h1 := z.2.1; have h2 := z.2.2; rw [hsm2.1] at h1; rw [hsm2.2] at h2; omega⟩
        · refine zr_iconst (v := nI 1) dX10_hasRoom_132 (by decide) ?_
          refine zr_goto 137 dX10_hasRoom_133 (by decide) ?_
          refine zr_zret dX10_hasRoom_137 rfl (Or.inr rfl) ?_
          have e9 : i = R.length := by omega
          subst e9
          exact hq0 1 _ _ (by decide) hsc hfc ⟨fun _ => ⟨hok, by rw [hsm2.1]; omega, by rw [hsm2.2]; omega⟩, fun _ => rfl⟩
    · obtain ⟨x, hx⟩ : ∃ x, R[i]? = some x := ⟨_, List.getElem?_eq_getElem (by omega)⟩
      refine zr_aload_n dX10_hasRoom_16 rfl ?_
      refine zr_aload_n dX10_hasRoom_17 rfl ?_
      refine zr_iload dX10_hasRoom_18 rfl ?_
      refine zr_callV (md' := mX10_stepTo) (As := [.ref ((ad 23)), .int (nI i)]) dX10_hasRoom_20 mlX10_58 okX10_stepTo rfl inX10_stepTo slX10_stepTo (by decide) (hL.K 26 11) rfl (by omega) (Nat.le_of_ble_eq_true rfl) hcb (c_Writer_stepTo (d := d - 1) (M := (wrM ad M s f)) (by omega) hcb hL (wrM_s _ _ _ _) (wrM_f _ _ _ _) hsb hfb (wrM_rs hR) hE hx) (fun k M1 h => by cases h.1) (fun v M1 hq => ?_)
      obtain ⟨e0, e1⟩ := hq
      cases e0
      rw [e1]
      obtain ⟨n, hn⟩ : ∃ n, n = stp (zA M (ad 2)) R i s f := ⟨_, rfl⟩
      rw [show stp (zA (wrM ad M s f) (ad 2)) R i s f = n from hn.symm]
      have hn2 : n ≤ 2 := by rw [hn]; exact stp_le _ _ _ _ _
      refine zr_istore (lv' := [some (.ref ((ad 26))), some (.ref ((ad 23))), some (.int (nI b)), some (.int (nI t)), some (.int (nI i)), some (.int (nI n))]) dX10_hasRoom_23 (Nat.le_of_ble_eq_true rfl) (Nat.le_of_ble_eq_true rfl) rfl rfl ?_
      refine zr_aload_n dX10_hasRoom_25 rfl ?_
      refine zr_iload dX10_hasRoom_26 rfl ?_
      refine zr_aload_n dX10_hasRoom_28 rfl ?_
      refine zr_getR dX10_hasRoom_29 lkX10_24 (by decide) (by decide) rfl (hL.K 26 11) (hL.R 320 26 1) ?_
      refine zr_aload_n dX10_hasRoom_32 rfl ?_
      refine zr_getR dX10_hasRoom_33 lkX10_36 (by decide) (by decide) rfl (hL.K 23 8) (hL.R 225 23 24) ?_
      refine zr_iload dX10_hasRoom_36 rfl ?_
      refine zr_ialdN dX10_hasRoom_38 (hL.K 24 15) (hL.N 24 2048) (by omega) (by omega) ?_
      refine zr_as (y := (nI x)) (hR.2.2 _ x hx) ?_
      refine zr_callV (md' := mX1_entryLength) (As := [.int (nI x)]) dX10_hasRoom_39 mlX10_42 okX1_entryLength rfl inX1_entryLength slX1_entryLength (by decide) (hL.K 1 2) rfl (by omega) (Nat.le_of_ble_eq_true rfl) hcb (c_Disk_entryLength (d := d - 1) (M := (wrM ad M s f)) hcb (Lay.dk hL) (Nat.lt_trans (hE x (List.mem_of_getElem? hx)).1 (by decide))) (fun k M1 h => by cases h.1) (fun v M1 hq => ?_)
      obtain ⟨e0, e1⟩ := hq
      cases e0
      rw [e1]
      obtain ⟨L, hLe⟩ : ∃ L, L = eln (zA M (ad 2)) x := ⟨_, rfl⟩
      rw [show eln (zA (wrM ad M s f) (ad 2)) x = L from hLe.symm]
      have hLb : L ≤ 518 := by rw [hLe]; unfold eln ekl evl zb; omega
      refine zr_callV (md' := mX10_advance) (As := [.int (nI n), .int (nI L)]) dX10_hasRoom_42 mlX10_62 okX10_advance rfl inX10_advance slX10_advance (by decide) (hL.K 26 11) rfl (by omega) (Nat.le_of_ble_eq_true rfl) hcb (c_Writer_advance (d := d - 1) (M := (wrM ad M s f)) hcb hL (wrM_s _ _ _ _) (wrM_f _ _ _ _) hsb hfb hn2) (fun k M1 h => by cases h.1) (fun v M1 hq => ?_)
      obtain ⟨e0, e1⟩ := hq
      cases e0
      rw [e1, wrM_wrM]
      obtain ⟨s1, hs1⟩ : ∃ s1, s1 = adS n s := ⟨_, rfl⟩
      obtain ⟨f1, hf1⟩ : ∃ f1, f1 = adF n f L := ⟨_, rfl⟩
      rw [← hs1, ← hf1]
      have hi2 : i = 0 → n = 2 := by intro z; rw [hn]; unfold stp; rw [if_pos (Or.inl z)]
      have hs1b : s1 ≤ 4095 := by
        rw [hs1]; unfold adS
        split at hs9
        · rw [if_pos (hi2 (by assumption))]; decide
        · split
          · omega
          · split <;> omega
      have hf1b : f1 ≤ 3500 := by
        rw [hf1]; unfold adF
        split at hf9
        · rw [if_neg (by have := hi2 (by assumption); omega)]; omega
        · split <;> omega
      have hsim := sim_succ hsm1 hsm2 hn.symm
      rw [rg_some hx, ← hLe, ← hs1, ← hf1] at hsim
      refine zr_iload_n dX10_hasRoom_45 rfl ?_
      refine zr_iload dX10_hasRoom_46 rfl ?_
      refine zr_iconst (v := nI 2) dX10_hasRoom_48 (by decide) ?_
      refine zr_icmp_neN 56 dX10_hasRoom_49 (by decide) (by omega) (by omega) (fun h49 => ?_) (fun h49 => ?_)
      · refine zr_iload dX10_hasRoom_56 rfl ?_
        refine zr_iconst (v := nI 1) dX10_hasRoom_58 (by decide) ?_
        refine zr_icmp_neN 66 dX10_hasRoom_59 (by decide) (by omega) (by omega) (fun h59 => ?_) (fun h59 => ?_)
        · refine zr_iconst (v := nI 0) dX10_hasRoom_66 (by decide) ?_
          refine zr_iaddN dX10_hasRoom_67 ?_
          refine zr_istore_n (lv' := [some (.ref ((ad 26))), some (.ref ((ad 23))), some (.int (nI (b + 0))), some (.int (nI t)), some (.int (nI i)), some (.int (nI n))]) dX10_hasRoom_68 (Nat.le_of_ble_eq_true rfl) (Nat.le_of_ble_eq_true rfl) rfl rfl ?_
          refine zr_iload_n dX10_hasRoom_69 rfl ?_
          refine zr_iload dX10_hasRoom_70 rfl ?_
          refine zr_iconst (v := nI 2) dX10_hasRoom_72 (by decide) ?_
          refine zr_icmp_neN 80 dX10_hasRoom_73 (by decide) (by omega) (by omega) (fun h73 => ?_) (fun h73 => ?_)
          · refine zr_iconst (v := nI 0) dX10_hasRoom_80 (by decide) ?_
            refine zr_iaddN dX10_hasRoom_81 ?_
            refine zr_istore_n (lv' := [some (.ref ((ad 26))), some (.ref ((ad 23))), some (.int (nI (b + 0))), some (.int (nI (t + 0))), some (.int (nI i)), some (.int (nI n))]) dX10_hasRoom_82 (Nat.le_of_ble_eq_true rfl) (Nat.le_of_ble_eq_true rfl) rfl rfl ?_
            refine zr_aload_n dX10_hasRoom_83 rfl ?_
            refine zr_getI dX10_hasRoom_84 lkX10_52 (by decide) (by decide) rfl (hL.K 26 11) ?_
            refine zr_as (y := (nI s1)) (by rw [hs1]; exact wrM_s _ _ _ _) ?_
            refine zr_bipush (v := nI 9) dX10_hasRoom_87 (by decide) ?_
            refine zr_icmp_geN 102 dX10_hasRoom_89 (by decide) (by omega) (by omega) (fun h89 => ?_) (fun h89 => ?_)
            · refine zr_iconst (v := nI 0) dX10_hasRoom_102 (by decide) ?_
              refine zr_zret dX10_hasRoom_103 rfl (Or.inl rfl) ?_
              first
                | exact hq0 0 _ _ (by decide) (by omega) (by omega) ⟨fun z => absurd z (by decide), fun z => by have := z.1 (i + 1) (by omega) (by omega); rw [hsim] at this; have h1 : s1 < 9 := this.1; have h2 : f1 ≤ 512 := this.2; omega⟩
            · refine zr_aload_n dX10_hasRoom_92 rfl ?_
              refine zr_getI dX10_hasRoom_93 lkX10_32 (by decide) (by decide) rfl (hL.K 26 11) ?_
              refine zr_as (y := (nI f1)) (by rw [hf1]; exact wrM_f _ _ _ _) ?_
              refine zr_sipush (v := nI 512) dX10_hasRoom_96 (by decide) ?_
              refine zr_icmp_leN 104 dX10_hasRoom_99 (by decide) (by omega) (by omega) (fun h99 => ?_) (fun h99 => ?_)
              · refine zr_iincN (n := 1) (lv' := [some (.ref ((ad 26))), some (.ref ((ad 23))), some (.int (nI (b + 0))), some (.int (nI (t + 0))), some (.int (nI (i + 1))), some (.int (nI n))]) dX10_hasRoom_104 (Nat.le_of_ble_eq_true rfl) (Nat.le_of_ble_eq_true rfl) rfl rfl rfl ?_
                refine zr_goto 7 dX10_hasRoom_107 (by decide) ?_
                refine zr_drop 5 rfl ?_
                exact ih _ (by omega) (i + 1) s1 f1 ((b + 0)) ((t + 0)) rfl (by omega) (Or.inr ⟨by rw [hsim], by rw [hsim]⟩) ⟨by rw [hsim]; show b + (if n = 2 then 2 else if n = 1 then 1 else 0) = _; (repeat' split) <;> omega, by rw [hsim]; show t + (if n = 2 then 1 else 0) = _; (repeat' split) <;> omega⟩ (by rw [if_neg (by omega)]; omega) (by rw [if_neg (by omega)]; omega) (by omega) (by omega) (fun j h1 h2 => (Nat.lt_or_ge j (i + 1)).elim (fun z => hok j h1 (by omega)) (fun z => by rw [show j = i + 1 by omega, hsim]; exact ⟨by show s1 < 9; omega, by show f1 ≤ 512; omega⟩))
              · refine zr_iconst (v := nI 0) dX10_hasRoom_102 (by decide) ?_
                refine zr_zret dX10_hasRoom_103 rfl (Or.inl rfl) ?_
                first
                  | exact hq0 0 _ _ (by decide) (by omega) (by omega) ⟨fun z => absurd z (by decide), fun z => by have := z.1 (i + 1) (by omega) (by omega); rw [hsim] at this; have h1 : s1 < 9 := this.1; have h2 : f1 ≤ 512 := this.2; omega⟩
          · refine zr_iconst (v := nI 1) dX10_hasRoom_76 (by decide) ?_
            refine zr_goto 81 dX10_hasRoom_77 (by decide) ?_
            refine zr_iaddN dX10_hasRoom_81 ?_
            refine zr_istore_n (lv' := [some (.ref ((ad 26))), some (.ref ((ad 23))), some (.int (nI (b + 0))), some (.int (nI (t + 1))), some (.int (nI i)), some (.int (nI n))]) dX10_hasRoom_82 (Nat.le_of_ble_eq_true rfl) (Nat.le_of_ble_eq_true rfl) rfl rfl ?_
            refine zr_aload_n dX10_hasRoom_83 rfl ?_
            refine zr_getI dX10_hasRoom_84 lkX10_52 (by decide) (by decide) rfl (hL.K 26 11) ?_
            refine zr_as (y := (nI s1)) (by rw [hs1]; exact wrM_s _ _ _ _) ?_
            refine zr_bipush (v := nI 9) dX10_hasRoom_87 (by decide) ?_
            refine zr_icmp_geN 102 dX10_hasRoom_89 (by decide) (by omega) (by omega) (fun h89 => ?_) (fun h89 => ?_)
            · refine zr_iconst (v := nI 0) dX10_hasRoom_102 (by decide) ?_
              refine zr_zret dX10_hasRoom_103 rfl (Or.inl rfl) ?_
              first
                | exact hq0 0 _ _ (by decide) (by omega) (by omega) ⟨fun z => absurd z (by decide), fun z => by have := z.1 (i + 1) (by omega) (by omega); rw [hsim] at this; have h1 : s1 < 9 := this.1; have h2 : f1 ≤ 512 := this.2; omega⟩
            · refine zr_aload_n dX10_hasRoom_92 rfl ?_
              refine zr_getI dX10_hasRoom_93 lkX10_32 (by decide) (by decide) rfl (hL.K 26 11) ?_
              refine zr_as (y := (nI f1)) (by rw [hf1]; exact wrM_f _ _ _ _) ?_
              refine zr_sipush (v := nI 512) dX10_hasRoom_96 (by decide) ?_
              refine zr_icmp_leN 104 dX10_hasRoom_99 (by decide) (by omega) (by omega) (fun h99 => ?_) (fun h99 => ?_)
              · refine zr_iincN (n := 1) (lv' := [some (.ref ((ad 26))), some (.ref ((ad 23))), some (.int (nI (b + 0))), some (.int (nI (t + 1))), some (.int (nI (i + 1))), some (.int (nI n))]) dX10_hasRoom_104 (Nat.le_of_ble_eq_true rfl) (Nat.le_of_ble_eq_true rfl) rfl rfl rfl ?_
                refine zr_goto 7 dX10_hasRoom_107 (by decide) ?_
                refine zr_drop 5 rfl ?_
                exact ih _ (by omega) (i + 1) s1 f1 ((b + 0)) ((t + 1)) rfl (by omega) (Or.inr ⟨by rw [hsim], by rw [hsim]⟩) ⟨by rw [hsim]; show b + (if n = 2 then 2 else if n = 1 then 1 else 0) = _; (repeat' split) <;> omega, by rw [hsim]; show t + (if n = 2 then 1 else 0) = _; (repeat' split) <;> omega⟩ (by rw [if_neg (by omega)]; omega) (by rw [if_neg (by omega)]; omega) (by omega) (by omega) (fun j h1 h2 => (Nat.lt_or_ge j (i + 1)).elim (fun z => hok j h1 (by omega)) (fun z => by rw [show j = i + 1 by omega, hsim]; exact ⟨by show s1 < 9; omega, by show f1 ≤ 512; omega⟩))
              · refine zr_iconst (v := nI 0) dX10_hasRoom_102 (by decide) ?_
                refine zr_zret dX10_hasRoom_103 rfl (Or.inl rfl) ?_
                first
                  | exact hq0 0 _ _ (by decide) (by omega) (by omega) ⟨fun z => absurd z (by decide), fun z => by have := z.1 (i + 1) (by omega) (by omega); rw [hsim] at this; have h1 : s1 < 9 := this.1; have h2 : f1 ≤ 512 := this.2; omega⟩
        · refine zr_iconst (v := nI 1) dX10_hasRoom_62 (by decide) ?_
          refine zr_goto 67 dX10_hasRoom_63 (by decide) ?_
          refine zr_iaddN dX10_hasRoom_67 ?_
          refine zr_istore_n (lv' := [some (.ref ((ad 26))), some (.ref ((ad 23))), some (.int (nI (b + 1))), some (.int (nI t)), some (.int (nI i)), some (.int (nI n))]) dX10_hasRoom_68 (Nat.le_of_ble_eq_true rfl) (Nat.le_of_ble_eq_true rfl) rfl rfl ?_
          refine zr_iload_n dX10_hasRoom_69 rfl ?_
          refine zr_iload dX10_hasRoom_70 rfl ?_
          refine zr_iconst (v := nI 2) dX10_hasRoom_72 (by decide) ?_
          refine zr_icmp_neN 80 dX10_hasRoom_73 (by decide) (by omega) (by omega) (fun h73 => ?_) (fun h73 => ?_)
          · refine zr_iconst (v := nI 0) dX10_hasRoom_80 (by decide) ?_
            refine zr_iaddN dX10_hasRoom_81 ?_
            refine zr_istore_n (lv' := [some (.ref ((ad 26))), some (.ref ((ad 23))), some (.int (nI (b + 1))), some (.int (nI (t + 0))), some (.int (nI i)), some (.int (nI n))]) dX10_hasRoom_82 (Nat.le_of_ble_eq_true rfl) (Nat.le_of_ble_eq_true rfl) rfl rfl ?_
            refine zr_aload_n dX10_hasRoom_83 rfl ?_
            refine zr_getI dX10_hasRoom_84 lkX10_52 (by decide) (by decide) rfl (hL.K 26 11) ?_
            refine zr_as (y := (nI s1)) (by rw [hs1]; exact wrM_s _ _ _ _) ?_
            refine zr_bipush (v := nI 9) dX10_hasRoom_87 (by decide) ?_
            refine zr_icmp_geN 102 dX10_hasRoom_89 (by decide) (by omega) (by omega) (fun h89 => ?_) (fun h89 => ?_)
            · refine zr_iconst (v := nI 0) dX10_hasRoom_102 (by decide) ?_
              refine zr_zret dX10_hasRoom_103 rfl (Or.inl rfl) ?_
              first
                | exact hq0 0 _ _ (by decide) (by omega) (by omega) ⟨fun z => absurd z (by decide), fun z => by have := z.1 (i + 1) (by omega) (by omega); rw [hsim] at this; have h1 : s1 < 9 := this.1; have h2 : f1 ≤ 512 := this.2; omega⟩
            · refine zr_aload_n dX10_hasRoom_92 rfl ?_
              refine zr_getI dX10_hasRoom_93 lkX10_32 (by decide) (by decide) rfl (hL.K 26 11) ?_
              refine zr_as (y := (nI f1)) (by rw [hf1]; exact wrM_f _ _ _ _) ?_
              refine zr_sipush (v := nI 512) dX10_hasRoom_96 (by decide) ?_
              refine zr_icmp_leN 104 dX10_hasRoom_99 (by decide) (by omega) (by omega) (fun h99 => ?_) (fun h99 => ?_)
              · refine zr_iincN (n := 1) (lv' := [some (.ref ((ad 26))), some (.ref ((ad 23))), some (.int (nI (b + 1))), some (.int (nI (t + 0))), some (.int (nI (i + 1))), some (.int (nI n))]) dX10_hasRoom_104 (Nat.le_of_ble_eq_true rfl) (Nat.le_of_ble_eq_true rfl) rfl rfl rfl ?_
                refine zr_goto 7 dX10_hasRoom_107 (by decide) ?_
                refine zr_drop 5 rfl ?_
                exact ih _ (by omega) (i + 1) s1 f1 ((b + 1)) ((t + 0)) rfl (by omega) (Or.inr ⟨by rw [hsim], by rw [hsim]⟩) ⟨by rw [hsim]; show b + (if n = 2 then 2 else if n = 1 then 1 else 0) = _; (repeat' split) <;> omega, by rw [hsim]; show t + (if n = 2 then 1 else 0) = _; (repeat' split) <;> omega⟩ (by rw [if_neg (by omega)]; omega) (by rw [if_neg (by omega)]; omega) (by omega) (by omega) (fun j h1 h2 => (Nat.lt_or_ge j (i + 1)).elim (fun z => hok j h1 (by omega)) (fun z => by rw [show j = i + 1 by omega, hsim]; exact ⟨by show s1 < 9; omega, by show f1 ≤ 512; omega⟩))
              · refine zr_iconst (v := nI 0) dX10_hasRoom_102 (by decide) ?_
                refine zr_zret dX10_hasRoom_103 rfl (Or.inl rfl) ?_
                first
                  | exact hq0 0 _ _ (by decide) (by omega) (by omega) ⟨fun z => absurd z (by decide), fun z => by have := z.1 (i + 1) (by omega) (by omega); rw [hsim] at this; have h1 : s1 < 9 := this.1; have h2 : f1 ≤ 512 := this.2; omega⟩
          · refine zr_iconst (v := nI 1) dX10_hasRoom_76 (by decide) ?_
            refine zr_goto 81 dX10_hasRoom_77 (by decide) ?_
            refine zr_iaddN dX10_hasRoom_81 ?_
            refine zr_istore_n (lv' := [some (.ref ((ad 26))), some (.ref ((ad 23))), some (.int (nI (b + 1))), some (.int (nI (t + 1))), some (.int (nI i)), some (.int (nI n))]) dX10_hasRoom_82 (Nat.le_of_ble_eq_true rfl) (Nat.le_of_ble_eq_true rfl) rfl rfl ?_
            refine zr_aload_n dX10_hasRoom_83 rfl ?_
            refine zr_getI dX10_hasRoom_84 lkX10_52 (by decide) (by decide) rfl (hL.K 26 11) ?_
            refine zr_as (y := (nI s1)) (by rw [hs1]; exact wrM_s _ _ _ _) ?_
            refine zr_bipush (v := nI 9) dX10_hasRoom_87 (by decide) ?_
            refine zr_icmp_geN 102 dX10_hasRoom_89 (by decide) (by omega) (by omega) (fun h89 => ?_) (fun h89 => ?_)
            · refine zr_iconst (v := nI 0) dX10_hasRoom_102 (by decide) ?_
              refine zr_zret dX10_hasRoom_103 rfl (Or.inl rfl) ?_
              first
                | exact hq0 0 _ _ (by decide) (by omega) (by omega) ⟨fun z => absurd z (by decide), fun z => by have := z.1 (i + 1) (by omega) (by omega); rw [hsim] at this; have h1 : s1 < 9 := this.1; have h2 : f1 ≤ 512 := this.2; omega⟩
            · refine zr_aload_n dX10_hasRoom_92 rfl ?_
              refine zr_getI dX10_hasRoom_93 lkX10_32 (by decide) (by decide) rfl (hL.K 26 11) ?_
              refine zr_as (y := (nI f1)) (by rw [hf1]; exact wrM_f _ _ _ _) ?_
              refine zr_sipush (v := nI 512) dX10_hasRoom_96 (by decide) ?_
              refine zr_icmp_leN 104 dX10_hasRoom_99 (by decide) (by omega) (by omega) (fun h99 => ?_) (fun h99 => ?_)
              · refine zr_iincN (n := 1) (lv' := [some (.ref ((ad 26))), some (.ref ((ad 23))), some (.int (nI (b + 1))), some (.int (nI (t + 1))), some (.int (nI (i + 1))), some (.int (nI n))]) dX10_hasRoom_104 (Nat.le_of_ble_eq_true rfl) (Nat.le_of_ble_eq_true rfl) rfl rfl rfl ?_
                refine zr_goto 7 dX10_hasRoom_107 (by decide) ?_
                refine zr_drop 5 rfl ?_
                exact ih _ (by omega) (i + 1) s1 f1 ((b + 1)) ((t + 1)) rfl (by omega) (Or.inr ⟨by rw [hsim], by rw [hsim]⟩) ⟨by rw [hsim]; show b + (if n = 2 then 2 else if n = 1 then 1 else 0) = _; (repeat' split) <;> omega, by rw [hsim]; show t + (if n = 2 then 1 else 0) = _; (repeat' split) <;> omega⟩ (by rw [if_neg (by omega)]; omega) (by rw [if_neg (by omega)]; omega) (by omega) (by omega) (fun j h1 h2 => (Nat.lt_or_ge j (i + 1)).elim (fun z => hok j h1 (by omega)) (fun z => by rw [show j = i + 1 by omega, hsim]; exact ⟨by show s1 < 9; omega, by show f1 ≤ 512; omega⟩))
              · refine zr_iconst (v := nI 0) dX10_hasRoom_102 (by decide) ?_
                refine zr_zret dX10_hasRoom_103 rfl (Or.inl rfl) ?_
                first
                  | exact hq0 0 _ _ (by decide) (by omega) (by omega) ⟨fun z => absurd z (by decide), fun z => by have := z.1 (i + 1) (by omega) (by omega); rw [hsim] at this; have h1 : s1 < 9 := this.1; have h2 : f1 ≤ 512 := this.2; omega⟩
      · refine zr_iconst (v := nI 2) dX10_hasRoom_52 (by decide) ?_
        refine zr_goto 67 dX10_hasRoom_53 (by decide) ?_
        refine zr_iaddN dX10_hasRoom_67 ?_
        refine zr_istore_n (lv' := [some (.ref ((ad 26))), some (.ref ((ad 23))), some (.int (nI (b + 2))), some (.int (nI t)), some (.int (nI i)), some (.int (nI n))]) dX10_hasRoom_68 (Nat.le_of_ble_eq_true rfl) (Nat.le_of_ble_eq_true rfl) rfl rfl ?_
        refine zr_iload_n dX10_hasRoom_69 rfl ?_
        refine zr_iload dX10_hasRoom_70 rfl ?_
        refine zr_iconst (v := nI 2) dX10_hasRoom_72 (by decide) ?_
        refine zr_icmp_neN 80 dX10_hasRoom_73 (by decide) (by omega) (by omega) (fun h73 => ?_) (fun h73 => ?_)
        · refine zr_iconst (v := nI 0) dX10_hasRoom_80 (by decide) ?_
          refine zr_iaddN dX10_hasRoom_81 ?_
          refine zr_istore_n (lv' := [some (.ref ((ad 26))), some (.ref ((ad 23))), some (.int (nI (b + 2))), some (.int (nI (t + 0))), some (.int (nI i)), some (.int (nI n))]) dX10_hasRoom_82 (Nat.le_of_ble_eq_true rfl) (Nat.le_of_ble_eq_true rfl) rfl rfl ?_
          refine zr_aload_n dX10_hasRoom_83 rfl ?_
          refine zr_getI dX10_hasRoom_84 lkX10_52 (by decide) (by decide) rfl (hL.K 26 11) ?_
          refine zr_as (y := (nI s1)) (by rw [hs1]; exact wrM_s _ _ _ _) ?_
          refine zr_bipush (v := nI 9) dX10_hasRoom_87 (by decide) ?_
          refine zr_icmp_geN 102 dX10_hasRoom_89 (by decide) (by omega) (by omega) (fun h89 => ?_) (fun h89 => ?_)
          · refine zr_iconst (v := nI 0) dX10_hasRoom_102 (by decide) ?_
            refine zr_zret dX10_hasRoom_103 rfl (Or.inl rfl) ?_
            first
              | exact hq0 0 _ _ (by decide) (by omega) (by omega) ⟨fun z => absurd z (by decide), fun z => by have := z.1 (i + 1) (by omega) (by omega); rw [hsim] at this; have h1 : s1 < 9 := this.1; have h2 : f1 ≤ 512 := this.2; omega⟩
          · refine zr_aload_n dX10_hasRoom_92 rfl ?_
            refine zr_getI dX10_hasRoom_93 lkX10_32 (by decide) (by decide) rfl (hL.K 26 11) ?_
            refine zr_as (y := (nI f1)) (by rw [hf1]; exact wrM_f _ _ _ _) ?_
            refine zr_sipush (v := nI 512) dX10_hasRoom_96 (by decide) ?_
            refine zr_icmp_leN 104 dX10_hasRoom_99 (by decide) (by omega) (by omega) (fun h99 => ?_) (fun h99 => ?_)
            · refine zr_iincN (n := 1) (lv' := [some (.ref ((ad 26))), some (.ref ((ad 23))), some (.int (nI (b + 2))), some (.int (nI (t + 0))), some (.int (nI (i + 1))), some (.int (nI n))]) dX10_hasRoom_104 (Nat.le_of_ble_eq_true rfl) (Nat.le_of_ble_eq_true rfl) rfl rfl rfl ?_
              refine zr_goto 7 dX10_hasRoom_107 (by decide) ?_
              refine zr_drop 5 rfl ?_
              exact ih _ (by omega) (i + 1) s1 f1 ((b + 2)) ((t + 0)) rfl (by omega) (Or.inr ⟨by rw [hsim], by rw [hsim]⟩) ⟨by rw [hsim]; show b + (if n = 2 then 2 else if n = 1 then 1 else 0) = _; (repeat' split) <;> omega, by rw [hsim]; show t + (if n = 2 then 1 else 0) = _; (repeat' split) <;> omega⟩ (by rw [if_neg (by omega)]; omega) (by rw [if_neg (by omega)]; omega) (by omega) (by omega) (fun j h1 h2 => (Nat.lt_or_ge j (i + 1)).elim (fun z => hok j h1 (by omega)) (fun z => by rw [show j = i + 1 by omega, hsim]; exact ⟨by show s1 < 9; omega, by show f1 ≤ 512; omega⟩))
            · refine zr_iconst (v := nI 0) dX10_hasRoom_102 (by decide) ?_
              refine zr_zret dX10_hasRoom_103 rfl (Or.inl rfl) ?_
              first
                | exact hq0 0 _ _ (by decide) (by omega) (by omega) ⟨fun z => absurd z (by decide), fun z => by have := z.1 (i + 1) (by omega) (by omega); rw [hsim] at this; have h1 : s1 < 9 := this.1; have h2 : f1 ≤ 512 := this.2; omega⟩
        · refine zr_iconst (v := nI 1) dX10_hasRoom_76 (by decide) ?_
          refine zr_goto 81 dX10_hasRoom_77 (by decide) ?_
          refine zr_iaddN dX10_hasRoom_81 ?_
          refine zr_istore_n (lv' := [some (.ref ((ad 26))), some (.ref ((ad 23))), some (.int (nI (b + 2))), some (.int (nI (t + 1))), some (.int (nI i)), some (.int (nI n))]) dX10_hasRoom_82 (Nat.le_of_ble_eq_true rfl) (Nat.le_of_ble_eq_true rfl) rfl rfl ?_
          refine zr_aload_n dX10_hasRoom_83 rfl ?_
          refine zr_getI dX10_hasRoom_84 lkX10_52 (by decide) (by decide) rfl (hL.K 26 11) ?_
          refine zr_as (y := (nI s1)) (by rw [hs1]; exact wrM_s _ _ _ _) ?_
          refine zr_bipush (v := nI 9) dX10_hasRoom_87 (by decide) ?_
          refine zr_icmp_geN 102 dX10_hasRoom_89 (by decide) (by omega) (by omega) (fun h89 => ?_) (fun h89 => ?_)
          · refine zr_iconst (v := nI 0) dX10_hasRoom_102 (by decide) ?_
            refine zr_zret dX10_hasRoom_103 rfl (Or.inl rfl) ?_
            first
              | exact hq0 0 _ _ (by decide) (by omega) (by omega) ⟨fun z => absurd z (by decide), fun z => by have := z.1 (i + 1) (by omega) (by omega); rw [hsim] at this; have h1 : s1 < 9 := this.1; have h2 : f1 ≤ 512 := this.2; omega⟩
          · refine zr_aload_n dX10_hasRoom_92 rfl ?_
            refine zr_getI dX10_hasRoom_93 lkX10_32 (by decide) (by decide) rfl (hL.K 26 11) ?_
            refine zr_as (y := (nI f1)) (by rw [hf1]; exact wrM_f _ _ _ _) ?_
            refine zr_sipush (v := nI 512) dX10_hasRoom_96 (by decide) ?_
            refine zr_icmp_leN 104 dX10_hasRoom_99 (by decide) (by omega) (by omega) (fun h99 => ?_) (fun h99 => ?_)
            · refine zr_iincN (n := 1) (lv' := [some (.ref ((ad 26))), some (.ref ((ad 23))), some (.int (nI (b + 2))), some (.int (nI (t + 1))), some (.int (nI (i + 1))), some (.int (nI n))]) dX10_hasRoom_104 (Nat.le_of_ble_eq_true rfl) (Nat.le_of_ble_eq_true rfl) rfl rfl rfl ?_
              refine zr_goto 7 dX10_hasRoom_107 (by decide) ?_
              refine zr_drop 5 rfl ?_
              exact ih _ (by omega) (i + 1) s1 f1 ((b + 2)) ((t + 1)) rfl (by omega) (Or.inr ⟨by rw [hsim], by rw [hsim]⟩) ⟨by rw [hsim]; show b + (if n = 2 then 2 else if n = 1 then 1 else 0) = _; (repeat' split) <;> omega, by rw [hsim]; show t + (if n = 2 then 1 else 0) = _; (repeat' split) <;> omega⟩ (by rw [if_neg (by omega)]; omega) (by rw [if_neg (by omega)]; omega) (by omega) (by omega) (fun j h1 h2 => (Nat.lt_or_ge j (i + 1)).elim (fun z => hok j h1 (by omega)) (fun z => by rw [show j = i + 1 by omega, hsim]; exact ⟨by show s1 < 9; omega, by show f1 ≤ 512; omega⟩))
            · refine zr_iconst (v := nI 0) dX10_hasRoom_102 (by decide) ?_
              refine zr_zret dX10_hasRoom_103 rfl (Or.inl rfl) ?_
              first
                | exact hq0 0 _ _ (by decide) (by omega) (by omega) ⟨fun z => absurd z (by decide), fun z => by have := z.1 (i + 1) (by omega) (by omega); rw [hsim] at this; have h1 : s1 < 9 := this.1; have h2 : f1 ≤ 512 := this.2; omega⟩
set_option maxRecDepth 100000 in
set_option maxHeartbeats 4000000 in
theorem c_Writer_hasRoom {G : zG} {ad : Nat → Nat} {d s f fb ft : Nat} {R : List Nat} {M : zM} (hd : 2 ≤ d) (hcb : zC M ≤ 600128 ∧ zS M ≤ 7301098) (hL : Lay ad M) (hs : zI M 326 (ad 26) = nI s) (hf : zI M 327 (ad 26) = nI f) (hsb : s ≤ 4095) (hfb : f ≤ 3500) (hR : Rs ad M R) (hE : Eb (zA M (ad 2)) R) (hfb9 : zI M 69 (ad 17) = nI fb) (hft9 : zI M 70 (ad 17) = nI ft) (hfbb : fb ≤ 4096) (hftb : ft ≤ 4096)  : zMet G mX10_hasRoom d [.ref ((ad 26)), .ref ((ad 23))] M (fun o M' => ∃ t s f : Nat, o = .inl (some (.int (nI t))) ∧ M' = wrM ad M s f ∧ t ≤ 1 ∧ s ≤ 4095 ∧ f ≤ 3500 ∧ (t = 1 ↔ Rm (zA M (ad 2)) R fb ft)) := by
  refine zMet_of (by decide +kernel) (Nat.le_of_ble_eq_true rfl) rfl hcb ?_
  show zw G mX10_hasRoom d _ _ _ 0 [some (.ref ((ad 26))), some (.ref ((ad 23))), none, none, none, none] [] M
  refine zr_iconst (v := nI 0) dX10_hasRoom_0 (by decide) ?_
  refine zr_istore_n (lv' := [some (.ref ((ad 26))), some (.ref ((ad 23))), some (.int (nI 0)), none, none, none]) dX10_hasRoom_1 (Nat.le_of_ble_eq_true rfl) (Nat.le_of_ble_eq_true rfl) rfl rfl ?_
  refine zr_iconst (v := nI 0) dX10_hasRoom_2 (by decide) ?_
  refine zr_istore_n (lv' := [some (.ref ((ad 26))), some (.ref ((ad 23))), some (.int (nI 0)), some (.int (nI 0)), none, none]) dX10_hasRoom_3 (Nat.le_of_ble_eq_true rfl) (Nat.le_of_ble_eq_true rfl) rfl rfl ?_
  refine zr_iconst (v := nI 0) dX10_hasRoom_4 (by decide) ?_
  refine zr_istore (lv' := [some (.ref ((ad 26))), some (.ref ((ad 23))), some (.int (nI 0)), some (.int (nI 0)), some (.int (nI 0)), none]) dX10_hasRoom_5 (Nat.le_of_ble_eq_true rfl) (Nat.le_of_ble_eq_true rfl) rfl rfl ?_
  refine zr_asM (M' := wrM ad M s f) (wrM_self hs hf).symm ?_
  exact l_Writer_hasRoom hd hcb hL hR hE hfb9 hft9 hfbb hftb (fun t s f h1 h2 h3 h4 => ⟨t, s, f, rfl, rfl, h1, h2, h3, h4⟩) _ 0 s f 0 0 rfl (by omega) (Or.inl rfl) ⟨rfl, rfl⟩ (by rw [if_pos rfl]; exact hsb) (by rw [if_pos rfl]; exact hfb) (by omega) (by omega) (fun j h1 h2 => by omega)
