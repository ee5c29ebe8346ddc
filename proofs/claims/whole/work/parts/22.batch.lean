/-! ===== LsmStore$Batch, and the bits of Views ===== -/
theorem zb_nI (n : Nat) (h : n < 2 ^ 32) : zb (nI n) = n % 256 := by
  unfold zb
  rw [pk_tn h]
theorem zb_i8 (x : Int32) : zb x.toInt8.toInt32 = zb x := by
  unfold zb
  have h : x.toInt8.toInt32.toBitVec = (x.toBitVec.signExtend 8).signExtend 32 := by simp
  rw [h]
  have h2 : ((x.toBitVec.signExtend 8).signExtend 32).setWidth 8 = x.toBitVec.setWidth 8 := by
    ext i hi
    have hi2 : i < 32 := by omega
    simp [BitVec.getLsbD_signExtend, BitVec.getElem_signExtend, hi, hi2]
  have h3 := congrArg BitVec.toNat h2
  simpa using h3
theorem zb_nar (x : Int32) : zb (vp_nar .byte x) = zb x := by rw [vp_nar_byte, zb_i8]
theorem zb_of {x : Int32} {n : Nat} (hx : fits .byte (.int x) = true) (h : zb x = n) (hn : n < 128) : x = nI n := by
  refine zb_inj hx ?_ (by rw [h, zb_nI n (by omega)]; omega)
  have h3 : -128 ≤ nI n ∧ nI n ≤ 127 := by
    rw [Int32.le_iff_toInt_le, Int32.le_iff_toInt_le, nI_toInt (by omega)]
    have k1 : (-128 : Int32).toInt = -128 := by decide
    have k2 : (127 : Int32).toInt = 127 := by decide
    rw [k1, k2]; omega
  simpa [fits] using h3
/-- an entry's value; kind, key and value of an entry; an entry that is well made -/
def eva (D : Nat → Int32) (p : Nat) : List Nat := rwl (fun i => D (p + 8 + ekl D p + i)) (evl D p)
def esp (D : Nat → Int32) (p : Nat) : Nat × List Nat × List Nat := (zb (D p), eky D p, eva D p)
def Ewf (D : Nat → Int32) (p : Nat) : Prop := (zb (D p) = 1 ∨ (zb (D p) = 2 ∧ evl D p = 0)) ∧ 1 ≤ ekl D p ∧ ekl D p ≤ 32 ∧ evl D p ≤ 200
/-- entries, one behind the other, from a to e -/
def Chn (D : Nat → Int32) : Nat → List Nat → Nat → Prop
  | a, [], e => a = e
  | a, p :: ps, e => p = a ∧ Chn D (a + eln D a) ps e
theorem Chn.le {D : Nat → Int32} : ∀ {ps : List Nat} {a e : Nat}, Chn D a ps e → a ≤ e ∧ ∀ p ∈ ps, a ≤ p ∧ p + eln D p ≤ e
  | [], a, e, h => ⟨Nat.le_of_eq h, fun p hp => by cases hp⟩
  | q :: ps, a, e, h => by
    obtain ⟨rfl, h⟩ := h
    have ih := Chn.le h
    refine ⟨by omega, fun p hp => ?_⟩
    rcases List.mem_cons.mp hp with rfl | hp
    · exact ⟨Nat.le_refl _, ih.1⟩
    · have := ih.2 p hp; exact ⟨by omega, this.2⟩
theorem Chn.snoc {D : Nat → Int32} : ∀ {ps : List Nat} {a e : Nat}, Chn D a ps e → Chn D a (ps ++ [e]) (e + eln D e)
  | [], a, e, h => by cases h; exact ⟨rfl, rfl⟩
  | q :: ps, a, e, h => ⟨h.1, Chn.snoc h.2⟩
/-- two rows with the same bytes of an entry -/
def Esame (D D' : Nat → Int32) (p : Nat) : Prop := zb (D' p) = zb (D p) ∧ ekl D' p = ekl D p ∧ evl D' p = evl D p ∧ eky D' p = eky D p ∧ eva D' p = eva D p
theorem Esame.of {D D' : Nat → Int32} {p : Nat} (h : ∀ j, p ≤ j → j < p + eln D p → ¬ (p + 4 ≤ j ∧ j < p + 8) → zb (D' j) = zb (D j)) : Esame D D' p := by
  have e0 : zb (D' p) = zb (D p) := h p (by omega) (by unfold eln; omega) (by omega)
  have e1 : ekl D' p = ekl D p := h (p + 1) (by omega) (by unfold eln; omega) (by omega)
  have e2 : evl D' p = evl D p := h (p + 2) (by omega) (by unfold eln; omega) (by omega)
  refine ⟨e0, e1, e2, ?_, ?_⟩
  · unfold eky; rw [e1]; exact rwl_congr (fun i hi => h _ (by omega) (by unfold eln; omega) (by omega))
  · unfold eva; rw [e1, e2]; exact rwl_congr (fun i hi => h _ (by omega) (by unfold eln; omega) (by omega))
theorem Esame.eL {D D' : Nat → Int32} {p : Nat} (h : Esame D D' p) : eln D' p = eln D p := by unfold eln; rw [h.2.1, h.2.2.1]
theorem Esame.eW {D D' : Nat → Int32} {p : Nat} (h : Esame D D' p) (w : Ewf D p) : Ewf D' p := by unfold Ewf at *; rw [h.1, h.2.1, h.2.2.1]; exact w
theorem Esame.eS {D D' : Nat → Int32} {p : Nat} (h : Esame D D' p) : esp D' p = esp D p := by unfold esp; rw [h.1, h.2.2.2.1, h.2.2.2.2]
theorem Chn.same {D D' : Nat → Int32} : ∀ {ps : List Nat} {a e : Nat}, Chn D a ps e → (∀ p ∈ ps, Esame D D' p) → Chn D' a ps e
  | [], a, e, h, _ => h
  | q :: ps, a, e, h, hs => by
    obtain ⟨rfl, h⟩ := h
    refine ⟨rfl, ?_⟩
    rw [(hs _ List.mem_cons_self).eL]
    exact Chn.same h (fun p hp => hs p (List.mem_cons_of_mem _ hp))
theorem Ewf.len {D : Nat → Int32} {p : Nat} (h : Ewf D p) : 9 ≤ eln D p ∧ eln D p ≤ 240 := by
  unfold Ewf at h; unfold eln; omega
theorem Chn.len {D : Nat → Int32} : ∀ {ps : List Nat} {a e : Nat}, Chn D a ps e → (∀ p ∈ ps, Ewf D p) → e ≤ a + 240 * ps.length
  | [], a, e, h, _ => by cases h; simp
  | q :: ps, a, e, h, hs => by
    obtain ⟨rfl, h⟩ := h
    have := Chn.len h (fun p hp => hs p (List.mem_cons_of_mem _ hp))
    have := (hs _ List.mem_cons_self).len
    rw [List.length_cons]; omega
/-- the batch: the places of its steps in its record, how long that is -/
def Bt (ad : Nat → Nat) (M : zM) (offs : List Nat) (len : Nat) : Prop := zI M 2 (ad 10) = nI offs.length ∧ offs.length ≤ 64 ∧ zI M 3 (ad 10) = nI len ∧ (∀ (i p : Nat), offs[i]? = some p → zA M (ad 12) i = nI p) ∧ Chn (zA M (ad 11)) 2 offs len ∧ ∀ p ∈ offs, Ewf (zA M (ad 11)) p
theorem Bt.at {ad : Nat → Nat} {M : zM} {offs : List Nat} {len i p : Nat} (h : Bt ad M offs len) (hi : offs[i]? = some p) : 2 ≤ p ∧ p + eln (zA M (ad 11)) p ≤ len ∧ Ewf (zA M (ad 11)) p ∧ i < offs.length ∧ len ≤ 15362 := by
  obtain ⟨h1, h2, h3, h4, h5, h6⟩ := h
  have hm := List.mem_of_getElem? hi
  have h7 := h5.le.2 p hm
  have h8 := h5.len h6
  have h9 := (List.getElem?_eq_some_iff.mp hi).1
  exact ⟨h7.1, h7.2, h6 p hm, h9, by omega⟩
set_option maxRecDepth 100000 in
set_option maxHeartbeats 4000000 in
theorem c_Batch_start {G : zG} {ad : Nat → Nat} {d : Nat} {M : zM} (hcb : zC M ≤ 600128 ∧ zS M ≤ 7301098) (hL : Lay ad M) : zMet G mX0_start d [.ref ((ad 10))] M (fun o M' => o = .inl none ∧ M' = zput (zput M 2 (ad 10) (nI 0)) 3 (ad 10) (nI 2)) := by
  refine zMet_of (by decide +kernel) (Nat.le_of_ble_eq_true rfl) rfl hcb ?_
  show zw G mX0_start d _ _ _ 0 [some (.ref ((ad 10)))] [] M
  refine zr_aload_n dX0_start_0 rfl ?_
  refine zr_iconst (v := nI 0) dX0_start_1 (by decide) ?_
  refine zr_putI dX0_start_2 lkX0_19 (by decide) (by decide) rfl rfl (hL.K 10 1) ?_
  refine zr_aload_n dX0_start_5 rfl ?_
  refine zr_iconst (v := nI 2) dX0_start_6 (by decide) ?_
  refine zr_putI dX0_start_7 lkX0_23 (by decide) (by decide) rfl rfl (hL.K 10 1) ?_
  refine zr_vret dX0_start_10 rfl ?_
  first | (exfalso; omega) | exact ⟨rfl, rfl⟩
set_option maxRecDepth 100000 in
set_option maxHeartbeats 4000000 in
theorem c_Batch_kind {G : zG} {ad : Nat → Nat} {d i p len : Nat} {offs : List Nat} {M : zM} (hcb : zC M ≤ 600128 ∧ zS M ≤ 7301098) (hL : Lay ad M) (hB : Bt ad M offs len) (hi : offs[i]? = some p)  : zMet G mX0_kind d [.ref ((ad 10)), .int (nI i)] M (fun o M' => o = .inl (some (.int (nI (zb (zA M (ad 11) p))))) ∧ M' = M) := by
  refine zMet_of (by decide +kernel) (Nat.le_of_ble_eq_true rfl) rfl hcb ?_
  show zw G mX0_kind d _ _ _ 0 [some (.ref ((ad 10))), some (.int (nI i))] [] M
  obtain ⟨hb1, hb2, hb3, hs, hch, hwf⟩ := id hB
  obtain ⟨g1, g2, g3, g4, g5⟩ := hB.at hi
  have g6 := g3.len
  have g7 := zb_lt (zA M (ad 11) (p + 1))
  have g8 := zb_lt (zA M (ad 11) (p + 2))
  have g9 : ekl (zA M (ad 11)) p = zb (zA M (ad 11) (p + 1)) := rfl
  have g10 : eln (zA M (ad 11)) p = 8 + ekl (zA M (ad 11)) p + evl (zA M (ad 11)) p := rfl
  have g11 : evl (zA M (ad 11)) p = zb (zA M (ad 11) (p + 2)) := rfl
  refine zr_iload_n dX0_kind_0 rfl ?_
  refine zr_if_ltN 26 dX0_kind_1 (by decide) (by omega) ?_
  refine zr_iload_n dX0_kind_4 rfl ?_
  refine zr_aload_n dX0_kind_5 rfl ?_
  refine zr_getI dX0_kind_6 lkX0_19 (by decide) (by decide) rfl (hL.K 10 1) ?_
  refine zr_as (y := (nI offs.length)) hb1 ?_
  refine zr_icmp_geN 26 dX0_kind_9 (by decide) (by omega) (by omega) (fun h9 => ?_) (fun h9 => ?_)
  · refine zr_iconst (v := nI 0) dX0_kind_26 (by decide) ?_
    refine zr_iret dX0_kind_27 rfl ?_
    first | (exfalso; omega) | exact ⟨by rw [← zb_of f22 rfl (by unfold Ewf at g3; omega)], rfl⟩
  · refine zr_aload_n dX0_kind_12 rfl ?_
    refine zr_getR dX0_kind_13 lkX0_9 (by decide) (by decide) rfl (hL.K 10 1) (hL.R 0 10 11) ?_
    refine zr_aload_n dX0_kind_16 rfl ?_
    refine zr_getR dX0_kind_17 lkX0_15 (by decide) (by decide) rfl (hL.K 10 1) (hL.R 1 10 12) ?_
    refine zr_iload_n dX0_kind_20 rfl ?_
    refine zr_ialdN dX0_kind_21 (hL.K 12 15) (hL.N 12 64) (by omega) (by omega) ?_
    refine zr_as (y := (nI p)) (hs i p hi) ?_
    refine zr_baldN dX0_kind_22 (hL.K 11 14) (hL.N 11 15363) (by omega) (by omega) (fun f22 => ?_)
    refine zr_goto 27 dX0_kind_23 (by decide) ?_
    refine zr_iret dX0_kind_27 rfl ?_
    first | (exfalso; omega) | exact ⟨by rw [← zb_of f22 rfl (by unfold Ewf at g3; omega)], rfl⟩
set_option maxRecDepth 100000 in
set_option maxHeartbeats 4000000 in
theorem c_Batch_entryLength {G : zG} {ad : Nat → Nat} {d i p len : Nat} {offs : List Nat} {M : zM} (hcb : zC M ≤ 600128 ∧ zS M ≤ 7301098) (hL : Lay ad M) (hB : Bt ad M offs len) (hi : offs[i]? = some p)  : zMet G mX0_entryLength d [.ref ((ad 10)), .int (nI i)] M (fun o M' => o = .inl (some (.int (nI (eln (zA M (ad 11)) p)))) ∧ M' = M) := by
  refine zMet_of (by decide +kernel) (Nat.le_of_ble_eq_true rfl) rfl hcb ?_
  show zw G mX0_entryLength d _ _ _ 0 [some (.ref ((ad 10))), some (.int (nI i))] [] M
  obtain ⟨hb1, hb2, hb3, hs, hch, hwf⟩ := id hB
  obtain ⟨g1, g2, g3, g4, g5⟩ := hB.at hi
  have g6 := g3.len
  have g7 := zb_lt (zA M (ad 11) (p + 1))
  have g8 := zb_lt (zA M (ad 11) (p + 2))
  have g9 : ekl (zA M (ad 11)) p = zb (zA M (ad 11) (p + 1)) := rfl
  have g10 : eln (zA M (ad 11)) p = 8 + ekl (zA M (ad 11)) p + evl (zA M (ad 11)) p := rfl
  have g11 : evl (zA M (ad 11)) p = zb (zA M (ad 11) (p + 2)) := rfl
  refine zr_iload_n dX0_entryLength_0 rfl ?_
  refine zr_if_ltN 12 dX0_entryLength_1 (by decide) (by omega) ?_
  refine zr_iload_n dX0_entryLength_4 rfl ?_
  refine zr_aload_n dX0_entryLength_5 rfl ?_
  refine zr_getI dX0_entryLength_6 lkX0_19 (by decide) (by decide) rfl (hL.K 10 1) ?_
  refine zr_as (y := (nI offs.length)) hb1 ?_
  refine zr_icmp_ltN 14 dX0_entryLength_9 (by decide) (by omega) (by omega) (fun h9 => ?_) (fun h9 => ?_)
  · refine zr_bipush (v := nI 8) dX0_entryLength_14 (by decide) ?_
    refine zr_aload_n dX0_entryLength_16 rfl ?_
    refine zr_getR dX0_entryLength_17 lkX0_9 (by decide) (by decide) rfl (hL.K 10 1) (hL.R 0 10 11) ?_
    refine zr_aload_n dX0_entryLength_20 rfl ?_
    refine zr_getR dX0_entryLength_21 lkX0_15 (by decide) (by decide) rfl (hL.K 10 1) (hL.R 1 10 12) ?_
    refine zr_iload_n dX0_entryLength_24 rfl ?_
    refine zr_ialdN dX0_entryLength_25 (hL.K 12 15) (hL.N 12 64) (by omega) (by omega) ?_
    refine zr_as (y := (nI p)) (hs i p hi) ?_
    refine zr_iconst (v := nI 1) dX0_entryLength_26 (by decide) ?_
    refine zr_iaddN dX0_entryLength_27 ?_
    refine zr_baldN dX0_entryLength_28 (hL.K 11 14) (hL.N 11 15363) (by omega) (by omega) (fun f28 => ?_)
    refine zr_sipush (v := nI 255) dX0_entryLength_29 (by decide) ?_
    refine zr_iand255 dX0_entryLength_32 ?_
    refine zr_iaddN dX0_entryLength_33 ?_
    refine zr_aload_n dX0_entryLength_34 rfl ?_
    refine zr_getR dX0_entryLength_35 lkX0_9 (by decide) (by decide) rfl (hL.K 10 1) (hL.R 0 10 11) ?_
    refine zr_aload_n dX0_entryLength_38 rfl ?_
    refine zr_getR dX0_entryLength_39 lkX0_15 (by decide) (by decide) rfl (hL.K 10 1) (hL.R 1 10 12) ?_
    refine zr_iload_n dX0_entryLength_42 rfl ?_
    refine zr_ialdN dX0_entryLength_43 (hL.K 12 15) (hL.N 12 64) (by omega) (by omega) ?_
    refine zr_as (y := (nI p)) (hs i p hi) ?_
    refine zr_iconst (v := nI 2) dX0_entryLength_44 (by decide) ?_
    refine zr_iaddN dX0_entryLength_45 ?_
    refine zr_baldN dX0_entryLength_46 (hL.K 11 14) (hL.N 11 15363) (by omega) (by omega) (fun f46 => ?_)
    refine zr_sipush (v := nI 255) dX0_entryLength_47 (by decide) ?_
    refine zr_iand255 dX0_entryLength_50 ?_
    refine zr_iaddN dX0_entryLength_51 ?_
    refine zr_iret dX0_entryLength_52 rfl ?_
    first | (exfalso; omega) | exact ⟨rfl, rfl⟩
  · refine zr_iconst (v := nI 0) dX0_entryLength_12 (by decide) ?_
    refine zr_iret dX0_entryLength_13 rfl ?_
    first | (exfalso; omega) | exact ⟨rfl, rfl⟩
set_option maxRecDepth 100000 in
set_option maxHeartbeats 4000000 in
theorem c_Batch_copyKey {G : zG} {ad : Nat → Nat} {d i p len r rc rl cap : Nat} {offs : List Nat} {M : zM} (hd : 3 ≤ d) (hcb : zC M ≤ 600128 ∧ zS M ≤ 7301098) (hL : Lay ad M) (hB : Bt ad M offs len) (hi : offs[i]? = some p) (hw : zRw M r rc rl cap) (hcap : 32 ≤ cap) (hcap2 : cap ≤ 15363)  : zMet G mX0_copyKey d [.ref ((ad 10)), .int (nI i), .ref r] M (fun o M' => o = .inl none ∧ M' = zput (zsetA M rc (va_cpy (zA M (ad 11)) (zA M rc) (p + 8) 0 (ekl (zA M (ad 11)) p))) 193 r (nI (ekl (zA M (ad 11)) p))) := by
  refine zMet_of (by decide +kernel) (Nat.le_of_ble_eq_true rfl) rfl hcb ?_
  show zw G mX0_copyKey d _ _ _ 0 [some (.ref ((ad 10))), some (.int (nI i)), some (.ref r)] [] M
  obtain ⟨hb1, hb2, hb3, hs, hch, hwf⟩ := id hB
  obtain ⟨g1, g2, g3, g4, g5⟩ := hB.at hi
  have g6 := g3.len
  have g7 := zb_lt (zA M (ad 11) (p + 1))
  have g8 := zb_lt (zA M (ad 11) (p + 2))
  have g9 : ekl (zA M (ad 11)) p = zb (zA M (ad 11) (p + 1)) := rfl
  have g10 : eln (zA M (ad 11)) p = 8 + ekl (zA M (ad 11)) p + evl (zA M (ad 11)) p := rfl
  have g11 : evl (zA M (ad 11)) p = zb (zA M (ad 11) (p + 2)) := rfl
  obtain ⟨gK, gR, gKb, gNb, gI, gl, gc⟩ := id hw
  refine zr_iload_n dX0_copyKey_0 rfl ?_
  refine zr_if_ltN 46 dX0_copyKey_1 (by decide) (by omega) ?_
  refine zr_iload_n dX0_copyKey_4 rfl ?_
  refine zr_aload_n dX0_copyKey_5 rfl ?_
  refine zr_getI dX0_copyKey_6 lkX0_19 (by decide) (by decide) rfl (hL.K 10 1) ?_
  refine zr_as (y := (nI offs.length)) hb1 ?_
  refine zr_icmp_geN 46 dX0_copyKey_9 (by decide) (by omega) (by omega) (fun h9 => ?_) (fun h9 => ?_)
  · refine zr_vret dX0_copyKey_46 rfl ?_
    first | (exfalso; omega) | exact ⟨rfl, rfl⟩
  · refine zr_aload_n dX0_copyKey_12 rfl ?_
    refine zr_aload_n dX0_copyKey_13 rfl ?_
    refine zr_getR dX0_copyKey_14 lkX0_9 (by decide) (by decide) rfl (hL.K 10 1) (hL.R 0 10 11) ?_
    refine zr_aload_n dX0_copyKey_17 rfl ?_
    refine zr_getR dX0_copyKey_18 lkX0_15 (by decide) (by decide) rfl (hL.K 10 1) (hL.R 1 10 12) ?_
    refine zr_iload_n dX0_copyKey_21 rfl ?_
    refine zr_ialdN dX0_copyKey_22 (hL.K 12 15) (hL.N 12 64) (by omega) (by omega) ?_
    refine zr_as (y := (nI p)) (hs i p hi) ?_
    refine zr_bipush (v := nI 8) dX0_copyKey_23 (by decide) ?_
    refine zr_iaddN dX0_copyKey_25 ?_
    refine zr_aload_n dX0_copyKey_26 rfl ?_
    refine zr_getR dX0_copyKey_27 lkX0_9 (by decide) (by decide) rfl (hL.K 10 1) (hL.R 0 10 11) ?_
    refine zr_aload_n dX0_copyKey_30 rfl ?_
    refine zr_getR dX0_copyKey_31 lkX0_15 (by decide) (by decide) rfl (hL.K 10 1) (hL.R 1 10 12) ?_
    refine zr_iload_n dX0_copyKey_34 rfl ?_
    refine zr_ialdN dX0_copyKey_35 (hL.K 12 15) (hL.N 12 64) (by omega) (by omega) ?_
    refine zr_as (y := (nI p)) (hs i p hi) ?_
    refine zr_iconst (v := nI 1) dX0_copyKey_36 (by decide) ?_
    refine zr_iaddN dX0_copyKey_37 ?_
    refine zr_baldN dX0_copyKey_38 (hL.K 11 14) (hL.N 11 15363) (by omega) (by omega) (fun f38 => ?_)
    refine zr_sipush (v := nI 255) dX0_copyKey_39 (by decide) ?_
    refine zr_iand255 dX0_copyKey_42 ?_
    refine zr_callV (md' := mX6_copy) (As := [.ref ((ad 11)), .int (nI (p + 8)), .int (nI (zb (zA M (ad 11) (p + 1))))]) dX0_copyKey_43 mlX0_38 okX6_copy rfl inX6_copy slX6_copy (by decide) gK rfl (by omega) (Nat.le_of_ble_eq_true rfl) hcb (c_Row_copy (d := d - 1) (by omega) hcb gK gR gKb (hL.K 11 14) gNb (hL.N 11 15363) (by omega) (by omega) (by unfold Ewf at g3; omega) (by omega)) (fun k M1 h => by cases h.1) (fun v M1 hq => ?_)
    obtain ⟨e0, e1⟩ := hq
    cases e0
    rw [e1]
    refine zr_vret dX0_copyKey_46 rfl ?_
    first | (exfalso; omega) | exact ⟨rfl, rfl⟩
set_option maxRecDepth 100000 in
set_option maxHeartbeats 4000000 in
theorem l_Batch_same {G : zG} {ad : Nat → Nat} {d k0 n0 i p j q len : Nat} {offs : List Nat} {M : zM} {Q : zOut → zM → Prop} (hL : Lay ad M) (hB : Bt ad M offs len) (hi : offs[i]? = some p) (hj : offs[j]? = some q) (heqk : ekl (zA M (ad 11)) p = ekl (zA M (ad 11)) q) (hyes : eky (zA M (ad 11)) p = eky (zA M (ad 11)) q → Q (.inl (some (.int (nI 1)))) M) (hno : ¬ eky (zA M (ad 11)) p = eky (zA M (ad 11)) q → Q (.inl (some (.int (nI 0)))) M) : ∀ (m n : Nat), ekl (zA M (ad 11)) p - n = m → n ≤ ekl (zA M (ad 11)) p → (∀ x, x < n → zb (zA M (ad 11) (p + 8 + x)) = zb (zA M (ad 11) (q + 8 + x))) → zw G mX0_haveSameKey d k0 n0 Q 41 [some (.ref ((ad 10))), some (.int (nI i)), some (.int (nI j)), some (.int (nI p)), some (.int (nI q)), some (.int (nI (8 + n)))] [] M := by
  intro m
  induction m using Nat.strongRecOn with
  | _ m ih =>
    intro n hm hn heq
    obtain ⟨hb1, hb2, hb3, hs, hch, hwf⟩ := id hB
    obtain ⟨g1, g2, g3, g4, g5⟩ := hB.at hi
    have g6 := g3.len
    have g7 := zb_lt (zA M (ad 11) (p + 1))
    have g8 := zb_lt (zA M (ad 11) (p + 2))
    have g9 : ekl (zA M (ad 11)) p = zb (zA M (ad 11) (p + 1)) := rfl
    have g10 : eln (zA M (ad 11)) p = 8 + ekl (zA M (ad 11)) p + evl (zA M (ad 11)) p := rfl
    have g11 : evl (zA M (ad 11)) p = zb (zA M (ad 11) (p + 2)) := rfl
    obtain ⟨e1, e2, e3, e4, e5⟩ := hB.at hj
    have e6 := e3.len
    have e7 := zb_lt (zA M (ad 11) (q + 1))
    have e9 : ekl (zA M (ad 11)) q = zb (zA M (ad 11) (q + 1)) := rfl
    have e10 : eln (zA M (ad 11)) q = 8 + ekl (zA M (ad 11)) q + evl (zA M (ad 11)) q := rfl
    refine zr_iload dX0_haveSameKey_41 rfl ?_
    refine zr_bipush (v := nI 8) dX0_haveSameKey_43 (by decide) ?_
    refine zr_aload_n dX0_haveSameKey_45 rfl ?_
    refine zr_getR dX0_haveSameKey_46 lkX0_9 (by decide) (by decide) rfl (hL.K 10 1) (hL.R 0 10 11) ?_
    refine zr_iload_n dX0_haveSameKey_49 rfl ?_
    refine zr_iconst (v := nI 1) dX0_haveSameKey_50 (by decide) ?_
    refine zr_iaddN dX0_haveSameKey_51 ?_
    refine zr_baldN dX0_haveSameKey_52 (hL.K 11 14) (hL.N 11 15363) (by omega) (by omega) (fun f52 => ?_)
    refine zr_sipush (v := nI 255) dX0_haveSameKey_53 (by decide) ?_
    refine zr_iand255 dX0_haveSameKey_56 ?_
    refine zr_iaddN dX0_haveSameKey_57 ?_
    refine zr_icmp_geN 91 dX0_haveSameKey_58 (by decide) (by omega) (by omega) (fun h58 => ?_) (fun h58 => ?_)
    · refine zr_iconst (v := nI 1) dX0_haveSameKey_91 (by decide) ?_
      refine zr_zret dX0_haveSameKey_92 rfl (Or.inr rfl) ?_
      refine hyes ?_
      have z9 := heqk
      unfold eky
      rw [← heqk]
      exact rwl_congr (fun x hx => heq x (by unfold ekl at hx; omega))
    · refine zr_aload_n dX0_haveSameKey_61 rfl ?_
      refine zr_getR dX0_haveSameKey_62 lkX0_9 (by decide) (by decide) rfl (hL.K 10 1) (hL.R 0 10 11) ?_
      refine zr_iload_n dX0_haveSameKey_65 rfl ?_
      refine zr_iload dX0_haveSameKey_66 rfl ?_
      refine zr_iaddN dX0_haveSameKey_68 ?_
      refine zr_baldN dX0_haveSameKey_69 (hL.K 11 14) (hL.N 11 15363) (by omega) (by omega) (fun f69 => ?_)
      refine zr_aload_n dX0_haveSameKey_70 rfl ?_
      refine zr_getR dX0_haveSameKey_71 lkX0_9 (by decide) (by decide) rfl (hL.K 10 1) (hL.R 0 10 11) ?_
      refine zr_iload dX0_haveSameKey_74 rfl ?_
      refine zr_iload dX0_haveSameKey_76 rfl ?_
      refine zr_iaddN dX0_haveSameKey_78 ?_
      refine zr_baldN dX0_haveSameKey_79 (hL.K 11 14) (hL.N 11 15363) (by omega) (by omega) (fun f79 => ?_)
      refine zr_icmp_eq 85 dX0_haveSameKey_80 (by decide) (fun h80 => ?_) (fun h80 => ?_)
      · refine zr_iincN (n := 1) (lv' := [some (.ref ((ad 10))), some (.int (nI i)), some (.int (nI j)), some (.int (nI p)), some (.int (nI q)), some (.int (nI ((8 + n) + 1)))]) dX0_haveSameKey_85 (Nat.le_of_ble_eq_true rfl) (Nat.le_of_ble_eq_true rfl) rfl rfl rfl ?_
        refine zr_goto 41 dX0_haveSameKey_88 (by decide) ?_
        exact ih _ (by omega) (n + 1) rfl (by omega) (fun x hx => (Nat.lt_or_ge x n).elim (fun z => heq x z) (fun z => by rw [show x = n by omega, Nat.add_assoc, Nat.add_assoc, h80]))
      · refine zr_iconst (v := nI 0) dX0_haveSameKey_83 (by decide) ?_
        refine zr_zret dX0_haveSameKey_84 rfl (Or.inl rfl) ?_
        refine hno (fun z => h80 (zb_inj f69 f79 ?_))
        have z1 := (rwl_inj z).2 n (by unfold ekl; omega)
        rw [Nat.add_assoc, Nat.add_assoc] at z1
        exact z1
set_option maxRecDepth 100000 in
set_option maxHeartbeats 4000000 in
theorem c_Batch_same {G : zG} {ad : Nat → Nat} {d i p j q len : Nat} {offs : List Nat} {M : zM} (hcb : zC M ≤ 600128 ∧ zS M ≤ 7301098) (hL : Lay ad M) (hB : Bt ad M offs len) (hi : offs[i]? = some p) (hj : offs[j]? = some q)  : zMet G mX0_haveSameKey d [.ref ((ad 10)), .int (nI i), .int (nI j)] M (fun o M' => M' = M ∧ ∃ t : Nat, t ≤ 1 ∧ o = .inl (some (.int (nI t))) ∧ (t = 1 ↔ eky (zA M (ad 11)) p = eky (zA M (ad 11)) q)) := by
  refine zMet_of (by decide +kernel) (Nat.le_of_ble_eq_true rfl) rfl hcb ?_
  show zw G mX0_haveSameKey d _ _ _ 0 [some (.ref ((ad 10))), some (.int (nI i)), some (.int (nI j)), none, none, none] [] M
  obtain ⟨hb1, hb2, hb3, hs, hch, hwf⟩ := id hB
  obtain ⟨g1, g2, g3, g4, g5⟩ := hB.at hi
  have g6 := g3.len
  have g7 := zb_lt (zA M (ad 11) (p + 1))
  have g8 := zb_lt (zA M (ad 11) (p + 2))
  have g9 : ekl (zA M (ad 11)) p = zb (zA M (ad 11) (p + 1)) := rfl
  have g10 : eln (zA M (ad 11)) p = 8 + ekl (zA M (ad 11)) p + evl (zA M (ad 11)) p := rfl
  have g11 : evl (zA M (ad 11)) p = zb (zA M (ad 11) (p + 2)) := rfl
  obtain ⟨e1, e2, e3, e4, e5⟩ := hB.at hj
  have e6 := e3.len
  have e7 := zb_lt (zA M (ad 11) (q + 1))
  have e9 : ekl (zA M (ad 11)) q = zb (zA M (ad 11) (q + 1)) := rfl
  have e10 : eln (zA M (ad 11)) q = 8 + ekl (zA M (ad 11)) q + evl (zA M (ad 11)) q := rfl
  refine zr_aload_n dX0_haveSameKey_0 rfl ?_
  refine zr_getR dX0_haveSameKey_1 lkX0_15 (by decide) (by decide) rfl (hL.K 10 1) (hL.R 1 10 12) ?_
  refine zr_iload_n dX0_haveSameKey_4 rfl ?_
  refine zr_ialdN dX0_haveSameKey_5 (hL.K 12 15) (hL.N 12 64) (by omega) (by omega) ?_
  refine zr_as (y := (nI p)) (hs i p hi) ?_
  refine zr_istore_n (lv' := [some (.ref ((ad 10))), some (.int (nI i)), some (.int (nI j)), some (.int (nI p)), none, none]) dX0_haveSameKey_6 (Nat.le_of_ble_eq_true rfl) (Nat.le_of_ble_eq_true rfl) rfl rfl ?_
  refine zr_aload_n dX0_haveSameKey_7 rfl ?_
  refine zr_getR dX0_haveSameKey_8 lkX0_15 (by decide) (by decide) rfl (hL.K 10 1) (hL.R 1 10 12) ?_
  refine zr_iload_n dX0_haveSameKey_11 rfl ?_
  refine zr_ialdN dX0_haveSameKey_12 (hL.K 12 15) (hL.N 12 64) (by omega) (by omega) ?_
  refine zr_as (y := (nI q)) (hs j q hj) ?_
  refine zr_istore (lv' := [some (.ref ((ad 10))), some (.int (nI i)), some (.int (nI j)), some (.int (nI p)), some (.int (nI q)), none]) dX0_haveSameKey_13 (Nat.le_of_ble_eq_true rfl) (Nat.le_of_ble_eq_true rfl) rfl rfl ?_
  refine zr_aload_n dX0_haveSameKey_15 rfl ?_
  refine zr_getR dX0_haveSameKey_16 lkX0_9 (by decide) (by decide) rfl (hL.K 10 1) (hL.R 0 10 11) ?_
  refine zr_iload_n dX0_haveSameKey_19 rfl ?_
  refine zr_iconst (v := nI 1) dX0_haveSameKey_20 (by decide) ?_
  refine zr_iaddN dX0_haveSameKey_21 ?_
  refine zr_baldN dX0_haveSameKey_22 (hL.K 11 14) (hL.N 11 15363) (by omega) (by omega) (fun f22 => ?_)
  refine zr_aload_n dX0_haveSameKey_23 rfl ?_
  refine zr_getR dX0_haveSameKey_24 lkX0_9 (by decide) (by decide) rfl (hL.K 10 1) (hL.R 0 10 11) ?_
  refine zr_iload dX0_haveSameKey_27 rfl ?_
  refine zr_iconst (v := nI 1) dX0_haveSameKey_29 (by decide) ?_
  refine zr_iaddN dX0_haveSameKey_30 ?_
  refine zr_baldN dX0_haveSameKey_31 (hL.K 11 14) (hL.N 11 15363) (by omega) (by omega) (fun f31 => ?_)
  refine zr_icmp_eq 37 dX0_haveSameKey_32 (by decide) (fun h32 => ?_) (fun h32 => ?_)
  · refine zr_bipush (v := nI 8) dX0_haveSameKey_37 (by decide) ?_
    refine zr_istore (lv' := [some (.ref ((ad 10))), some (.int (nI i)), some (.int (nI j)), some (.int (nI p)), some (.int (nI q)), some (.int (nI 8))]) dX0_haveSameKey_39 (Nat.le_of_ble_eq_true rfl) (Nat.le_of_ble_eq_true rfl) rfl rfl ?_
    exact l_Batch_same hL hB hi hj (by unfold ekl; rw [h32]) (fun h => ⟨rfl, 1, by decide, rfl, fun _ => h, fun _ => rfl⟩) (fun h => ⟨rfl, 0, by decide, rfl, fun z => absurd z (by decide), fun z => absurd z h⟩) _ 0 rfl (by omega) (fun x hx => by omega)
  · refine zr_iconst (v := nI 0) dX0_haveSameKey_35 (by decide) ?_
    refine zr_zret dX0_haveSameKey_36 rfl (Or.inl rfl) ?_
    exact ⟨rfl, 0, by decide, rfl, fun z => absurd z (by decide), fun z => absurd (zb_inj f22 f31 (rwl_inj z).1) h32⟩
set_option maxRecDepth 100000 in
set_option maxHeartbeats 4000000 in
theorem l_Batch_last {G : zG} {ad : Nat → Nat} {d k0 n0 i p len : Nat} {offs : List Nat} {M : zM} {Q : zOut → zM → Prop} (hd : 1 ≤ d) (hcb : zC M ≤ 600128 ∧ zS M ≤ 7301098) (hL : Lay ad M) (hB : Bt ad M offs len) (hi : offs[i]? = some p) (hq0 : ∀ t : Nat, t ≤ 1 → (t = 1 ↔ ∀ (x q : Nat), i < x → offs[x]? = some q → eky (zA M (ad 11)) q ≠ eky (zA M (ad 11)) p) → Q (.inl (some (.int (nI t)))) M) : ∀ (m j : Nat), offs.length - j = m → i < j → j ≤ offs.length → (∀ (x q : Nat), i < x → x < j → offs[x]? = some q → eky (zA M (ad 11)) q ≠ eky (zA M (ad 11)) p) → zw G mX0_isLastOfItsKey d k0 n0 Q 4 [some (.ref ((ad 10))), some (.int (nI i)), some (.int (nI j))] [] M := by
  intro m
  induction m using Nat.strongRecOn with
  | _ m ih =>
    intro j hm hj hj2 hno
    obtain ⟨hb1, hb2, hb3, hs, hch, hwf⟩ := id hB
    obtain ⟨g1, g2, g3, g4, g5⟩ := hB.at hi
    have g6 := g3.len
    have g7 := zb_lt (zA M (ad 11) (p + 1))
    have g8 := zb_lt (zA M (ad 11) (p + 2))
    have g9 : ekl (zA M (ad 11)) p = zb (zA M (ad 11) (p + 1)) := rfl
    have g10 : eln (zA M (ad 11)) p = 8 + ekl (zA M (ad 11)) p + evl (zA M (ad 11)) p := rfl
    have g11 : evl (zA M (ad 11)) p = zb (zA M (ad 11) (p + 2)) := rfl
    refine zr_iload_n dX0_isLastOfItsKey_4 rfl ?_
    refine zr_aload_n dX0_isLastOfItsKey_5 rfl ?_
    refine zr_getI dX0_isLastOfItsKey_6 lkX0_19 (by decide) (by decide) rfl (hL.K 10 1) ?_
    refine zr_as (y := (nI offs.length)) hb1 ?_
    refine zr_icmp_geN 29 dX0_isLastOfItsKey_9 (by decide) (by omega) (by omega) (fun h9 => ?_) (fun h9 => ?_)
    · refine zr_iconst (v := nI 1) dX0_isLastOfItsKey_29 (by decide) ?_
      refine zr_zret dX0_isLastOfItsKey_30 rfl (Or.inr rfl) ?_
      exact hq0 1 (by decide) ⟨fun _ x q0 h1 h3 => hno x q0 h1 (by have := (List.getElem?_eq_some_iff.mp h3).1; omega) h3, fun _ => rfl⟩
    · obtain ⟨q, hx⟩ : ∃ q, offs[j]? = some q := ⟨_, List.getElem?_eq_getElem h9⟩
      refine zr_aload_n dX0_isLastOfItsKey_12 rfl ?_
      refine zr_iload_n dX0_isLastOfItsKey_13 rfl ?_
      refine zr_iload_n dX0_isLastOfItsKey_14 rfl ?_
      refine zr_callV (md' := mX0_haveSameKey) (As := [.int (nI i), .int (nI j)]) dX0_isLastOfItsKey_15 mlX0_42 okX0_haveSameKey rfl inX0_haveSameKey slX0_haveSameKey (by decide) (hL.K 10 1) rfl (by omega) (Nat.le_of_ble_eq_true rfl) hcb (c_Batch_same (d := d - 1) hcb hL hB hi hx) (fun k M1 h => by obtain ⟨-, t, -, h, -⟩ := h; cases h) (fun v M1 hq => ?_)
      obtain ⟨e1, t, ht, e0, htk⟩ := hq
      cases e0
      rw [e1]
      refine zr_if_eqN 23 dX0_isLastOfItsKey_18 (by decide) (by omega) (fun h18 => ?_) (fun h18 => ?_)
      · refine zr_iincN (n := 1) (lv' := [some (.ref ((ad 10))), some (.int (nI i)), some (.int (nI (j + 1)))]) dX0_isLastOfItsKey_23 (Nat.le_of_ble_eq_true rfl) (Nat.le_of_ble_eq_true rfl) rfl rfl rfl ?_
        refine zr_goto 4 dX0_isLastOfItsKey_26 (by decide) ?_
        exact ih _ (by omega) (j + 1) rfl (by omega) (by omega) (fun x q0 h1 h2 h3 => (Nat.lt_or_ge x j).elim (fun z => hno x q0 h1 z h3) (fun z => by rw [show x = j by omega] at h3; cases Option.some.inj (hx.symm.trans h3); exact fun z => absurd (htk.mpr z.symm) (by omega)))
      · refine zr_iconst (v := nI 0) dX0_isLastOfItsKey_21 (by decide) ?_
        refine zr_zret dX0_isLastOfItsKey_22 rfl (Or.inl rfl) ?_
        exact hq0 0 (by decide) ⟨fun z => absurd z (by decide), fun z => absurd (htk.mp (by omega)).symm (z j q (by omega) hx)⟩
set_option maxRecDepth 100000 in
set_option maxHeartbeats 4000000 in
theorem c_Batch_last {G : zG} {ad : Nat → Nat} {d i p len : Nat} {offs : List Nat} {M : zM} (hd : 1 ≤ d) (hcb : zC M ≤ 600128 ∧ zS M ≤ 7301098) (hL : Lay ad M) (hB : Bt ad M offs len) (hi : offs[i]? = some p)  : zMet G mX0_isLastOfItsKey d [.ref ((ad 10)), .int (nI i)] M (fun o M' => M' = M ∧ ∃ t : Nat, t ≤ 1 ∧ o = .inl (some (.int (nI t))) ∧ (t = 1 ↔ ∀ (x q : Nat), i < x → offs[x]? = some q → eky (zA M (ad 11)) q ≠ eky (zA M (ad 11)) p)) := by
  refine zMet_of (by decide +kernel) (Nat.le_of_ble_eq_true rfl) rfl hcb ?_
  show zw G mX0_isLastOfItsKey d _ _ _ 0 [some (.ref ((ad 10))), some (.int (nI i)), none] [] M
  obtain ⟨hb1, hb2, hb3, hs, hch, hwf⟩ := id hB
  obtain ⟨g1, g2, g3, g4, g5⟩ := hB.at hi
  have g6 := g3.len
  have g7 := zb_lt (zA M (ad 11) (p + 1))
  have g8 := zb_lt (zA M (ad 11) (p + 2))
  have g9 : ekl (zA M (ad 11)) p = zb (zA M (ad 11) (p + 1)) := rfl
  have g10 : eln (zA M (ad 11)) p = 8 + ekl (zA M (ad 11)) p + evl (zA M (ad 11)) p := rfl
  have g11 : evl (zA M (ad 11)) p = zb (zA M (ad 11) (p + 2)) := rfl
  refine zr_iload_n dX0_isLastOfItsKey_0 rfl ?_
  refine zr_iconst (v := nI 1) dX0_isLastOfItsKey_1 (by decide) ?_
  refine zr_iaddN dX0_isLastOfItsKey_2 ?_
  refine zr_istore_n (lv' := [some (.ref ((ad 10))), some (.int (nI i)), some (.int (nI (i + 1)))]) dX0_isLastOfItsKey_3 (Nat.le_of_ble_eq_true rfl) (Nat.le_of_ble_eq_true rfl) rfl rfl ?_
  exact l_Batch_last hd hcb hL hB hi (fun t h1 h2 => ⟨rfl, t, h1, rfl, h2⟩) _ (i + 1) rfl (by omega) (by omega) (fun x q h1 h2 => by omega)
/-- the memory while a step is added: g the record -/
def bA (ad : Nat → Nat) (M : zM) (k len : Nat) (g : Nat → Int32) : zM := zput (zsetA (zsetA M (ad 12) (upd (zA M (ad 12)) k (nI len))) (ad 11) g) 2 (ad 10) (nI (k + 1))
theorem bA_hit (ad : Nat → Nat) (M : zM) (k len : Nat) (g : Nat → Int32) : zA (bA ad M k len g) (ad 11) = g := va_up_self _ _ _
theorem bA_set (ad : Nat → Nat) (M : zM) (k len : Nat) (g h : Nat → Int32) : zsetA (bA ad M k len g) (ad 11) h = bA ad M k len h := by
  unfold bA
  rw [zsetA_put, zsetA_setA]
theorem bA_oth {ad : Nat → Nat} {M : zM} (hL : Lay ad M) (k len : Nat) (g : Nat → Int32) {i : Nat} (h1 : i ≠ 11) (h2 : i ≠ 12) (hi : i < 582) : zA (bA ad M k len g) (ad i) = zA M (ad i) := zsetA_ms (M := zsetA M (ad 12) _) (hL.ne h1) (zsetA_ms (hL.ne h2) rfl)
theorem bA_0 {ad : Nat → Nat} {M : zM} (hL : Lay ad M) (k len : Nat) : zput (zsetA M (ad 12) (upd (zA M (ad 12)) k (nI len))) 2 (ad 10) (nI (k + 1)) = bA ad M k len (zA M (ad 11)) := by
  unfold bA
  rw [zsetA_self (zsetA_ms (hL.ne (by decide)) rfl)]
def addR (R K V : Nat → Int32) (len kind kl iv : Nat) : Nat → Int32 := va_cpy V (va_cpy K (upd (upd (upd (upd R len (vp_nar .byte (Int32.toInt8 (nI kind)).toInt32)) (len + 1) (vp_nar .byte (Int32.toInt8 (nI kl)).toInt32)) (len + 2) (vp_nar .byte (Int32.toInt8 (nI iv)).toInt32)) (len + 3) (vp_nar .byte (nI 0))) 0 (len + 8) kl) 0 (len + 8 + kl) iv
theorem zb_nn {n : Nat} (h : n < 256) : zb (vp_nar .byte (Int32.toInt8 (nI n)).toInt32) = n := by rw [zb_nar, zb_i8, zb_nI n (by omega)]; omega
theorem addR_low {R K V : Nat → Int32} {len kind kl iv j : Nat} (h : j < len) : addR R K V len kind kl iv j = R j := by
  unfold addR
  rw [pk_cpy_out (by omega), pk_cpy_out (by omega), pk_un (by omega), pk_un (by omega), pk_un (by omega), pk_un (by omega)]
theorem addR_spec {R K V : Nat → Int32} {len kind kl iv : Nat} (hk : kind < 256) (hl : kl < 256) (hv : iv < 256) : zb (addR R K V len kind kl iv len) = kind ∧ ekl (addR R K V len kind kl iv) len = kl ∧ evl (addR R K V len kind kl iv) len = iv ∧ eky (addR R K V len kind kl iv) len = rwl K kl ∧ eva (addR R K V len kind kl iv) len = rwl V iv := by
  have e0 : zb (addR R K V len kind kl iv len) = kind := by
    unfold addR
    rw [pk_cpy_out (by omega), pk_cpy_out (by omega), pk_un (by omega), pk_un (by omega), pk_un (by omega), pk_us, zb_nn hk]
  have e1 : ekl (addR R K V len kind kl iv) len = kl := by
    unfold addR ekl
    rw [pk_cpy_out (by omega), pk_cpy_out (by omega), pk_un (by omega), pk_un (by omega), pk_us, zb_nn hl]
  have e2 : evl (addR R K V len kind kl iv) len = iv := by
    unfold addR evl
    rw [pk_cpy_out (by omega), pk_cpy_out (by omega), pk_un (by omega), pk_us, zb_nn hv]
  refine ⟨e0, e1, e2, ?_, ?_⟩
  · unfold eky
    rw [e1]
    refine rwl_congr (fun i hi => ?_)
    unfold addR
    rw [pk_cpy_out (by omega), pk_cpy_in (by omega) (by omega)]
    congr 2; omega
  · unfold eva
    rw [e1, e2]
    refine rwl_congr (fun i hi => ?_)
    unfold addR
    rw [pk_cpy_in (by omega) (by omega)]
    congr 2; omega
def addM (ad : Nat → Nat) (M : zM) (k len kind kl iv : Nat) : zM := zput (bA ad M k len (addR (zA M (ad 11)) (zA M (ad 5)) (zA M (ad 7)) len kind kl iv)) 3 (ad 10) (nI (len + (8 + kl + iv)))
set_option maxRecDepth 100000 in
set_option maxHeartbeats 4000000 in
theorem t_Batch_add {G : zG} {ad : Nat → Nat} {d k0 n0 kind iv kl vl len : Nat} {offs : List Nat} {M : zM} {Q : zOut → zM → Prop} (hd : 2 ≤ d) (hcb : zC M ≤ 600128 ∧ zS M ≤ 7301098) (hL : Lay ad M) (hB : Bt ad M offs len) (hk : zI M 193 (ad 4) = nI kl) (hv : zI M 193 (ad 6) = nI vl) (hkl : kl ≤ 32) (hvl : vl ≤ 200) (hst : offs.length < 64) (hiv : iv ≤ vl) (hq : Q (.inl none) (addM ad M offs.length len kind kl iv)) : zw G mX0_add d k0 n0 Q 13 [some (.ref ((ad 10))), some (.int (nI kind)), some (.ref ((ad 4))), some (.ref ((ad 6))), none, none] [.int (nI iv)] M := by
  obtain ⟨hb1, hb2, hb3, hs, hch, hwf⟩ := id hB
  have hll := hch.len hwf
  refine zr_istore (lv' := [some (.ref ((ad 10))), some (.int (nI kind)), some (.ref ((ad 4))), some (.ref ((ad 6))), some (.int (nI iv)), none]) dX0_add_13 (Nat.le_of_ble_eq_true rfl) (Nat.le_of_ble_eq_true rfl) rfl rfl ?_
  refine zr_bipush (v := nI 8) dX0_add_15 (by decide) ?_
  refine zr_aload_n dX0_add_17 rfl ?_
  refine zr_getI dX0_add_18 lkX0_26 (by decide) (by decide) rfl (hL.K 4 7) ?_
  refine zr_as (y := (nI kl)) hk ?_
  refine zr_iaddN dX0_add_21 ?_
  refine zr_iload dX0_add_22 rfl ?_
  refine zr_iaddN dX0_add_24 ?_
  refine zr_istore (lv' := [some (.ref ((ad 10))), some (.int (nI kind)), some (.ref ((ad 4))), some (.ref ((ad 6))), some (.int (nI iv)), some (.int (nI ((8 + kl) + iv)))]) dX0_add_25 (Nat.le_of_ble_eq_true rfl) (Nat.le_of_ble_eq_true rfl) rfl rfl ?_
  refine zr_aload_n dX0_add_27 rfl ?_
  refine zr_getI dX0_add_28 lkX0_19 (by decide) (by decide) rfl (hL.K 10 1) ?_
  refine zr_as (y := (nI offs.length)) hb1 ?_
  refine zr_bipush (v := nI 64) dX0_add_31 (by decide) ?_
  refine zr_icmp_geN 49 dX0_add_33 (by decide) (by omega) (by omega) (fun h33 => ?_) (fun h33 => ?_)
  · refine zr_vret dX0_add_49 rfl ?_
    first | (exfalso; omega) | exact hq
  · refine zr_aload_n dX0_add_36 rfl ?_
    refine zr_getI dX0_add_37 lkX0_23 (by decide) (by decide) rfl (hL.K 10 1) ?_
    refine zr_as (y := (nI len)) hb3 ?_
    refine zr_iload dX0_add_40 rfl ?_
    refine zr_iaddN dX0_add_42 ?_
    refine zr_sipush (v := nI 15363) dX0_add_43 (by decide) ?_
    refine zr_icmp_ltN 50 dX0_add_46 (by decide) (by omega) (by omega) (fun h46 => ?_) (fun h46 => ?_)
    · refine zr_aload_n dX0_add_50 rfl ?_
      refine zr_getR dX0_add_51 lkX0_15 (by decide) (by decide) rfl (hL.K 10 1) (hL.R 1 10 12) ?_
      refine zr_aload_n dX0_add_54 rfl ?_
      refine zr_getI dX0_add_55 lkX0_19 (by decide) (by decide) rfl (hL.K 10 1) ?_
      refine zr_as (y := (nI offs.length)) hb1 ?_
      refine zr_aload_n dX0_add_58 rfl ?_
      refine zr_getI dX0_add_59 lkX0_23 (by decide) (by decide) rfl (hL.K 10 1) ?_
      refine zr_as (y := (nI len)) hb3 ?_
      refine zr_iastN dX0_add_62 (hL.K 12 15) (hL.N 12 64) (by omega) (by omega) ?_
      refine zr_aload_n dX0_add_63 rfl ?_
      refine zr_dup dX0_add_64 rfl ?_
      refine zr_getI dX0_add_65 lkX0_19 (by decide) (by decide) rfl (hL.K 10 1) ?_
      refine zr_as (y := (nI offs.length)) hb1 ?_
      refine zr_iconst (v := nI 1) dX0_add_68 (by decide) ?_
      refine zr_iaddN dX0_add_69 ?_
      refine zr_putI dX0_add_70 lkX0_19 (by decide) (by decide) rfl rfl (hL.K 10 1) ?_
      refine zr_asM (M' := (bA ad M offs.length len (zA M (ad 11)))) (bA_0 hL _ _) ?_
      refine zr_aload_n dX0_add_73 rfl ?_
      refine zr_getR dX0_add_74 lkX0_9 (by decide) (by decide) rfl (hL.K 10 1) (hL.R 0 10 11) ?_
      refine zr_aload_n dX0_add_77 rfl ?_
      refine zr_getI dX0_add_78 lkX0_23 (by decide) (by decide) rfl (hL.K 10 1) ?_
      refine zr_as (y := (nI len)) (zput_ms (by decide) hb3) ?_
      refine zr_iload_n dX0_add_81 rfl ?_
      refine zr_i2b dX0_add_82 ?_
      refine zr_bastN dX0_add_83 (hL.K 11 14) (hL.N 11 15363) (by omega) (by omega) ?_
      refine zr_asM (M' := (bA ad M offs.length len (upd (zA M (ad 11)) len (vp_nar .byte (Int32.toInt8 (nI kind)).toInt32)))) (by rw [bA_hit, bA_set]) ?_
      refine zr_aload_n dX0_add_84 rfl ?_
      refine zr_getR dX0_add_85 lkX0_9 (by decide) (by decide) rfl (hL.K 10 1) (hL.R 0 10 11) ?_
      refine zr_aload_n dX0_add_88 rfl ?_
      refine zr_getI dX0_add_89 lkX0_23 (by decide) (by decide) rfl (hL.K 10 1) ?_
      refine zr_as (y := (nI len)) (zput_ms (by decide) hb3) ?_
      refine zr_iconst (v := nI 1) dX0_add_92 (by decide) ?_
      refine zr_iaddN dX0_add_93 ?_
      refine zr_aload_n dX0_add_94 rfl ?_
      refine zr_getI dX0_add_95 lkX0_26 (by decide) (by decide) rfl (hL.K 4 7) ?_
      refine zr_as (y := (nI kl)) (zput_ms (by decide) hk) ?_
      refine zr_i2b dX0_add_98 ?_
      refine zr_bastN dX0_add_99 (hL.K 11 14) (hL.N 11 15363) (by omega) (by omega) ?_
      refine zr_asM (M' := (bA ad M offs.length len (upd (upd (zA M (ad 11)) len (vp_nar .byte (Int32.toInt8 (nI kind)).toInt32)) (len + 1) (vp_nar .byte (Int32.toInt8 (nI kl)).toInt32)))) (by rw [bA_hit, bA_set]) ?_
      refine zr_aload_n dX0_add_100 rfl ?_
      refine zr_getR dX0_add_101 lkX0_9 (by decide) (by decide) rfl (hL.K 10 1) (hL.R 0 10 11) ?_
      refine zr_aload_n dX0_add_104 rfl ?_
      refine zr_getI dX0_add_105 lkX0_23 (by decide) (by decide) rfl (hL.K 10 1) ?_
      refine zr_as (y := (nI len)) (zput_ms (by decide) hb3) ?_
      refine zr_iconst (v := nI 2) dX0_add_108 (by decide) ?_
      refine zr_iaddN dX0_add_109 ?_
      refine zr_iload dX0_add_110 rfl ?_
      refine zr_i2b dX0_add_112 ?_
      refine zr_bastN dX0_add_113 (hL.K 11 14) (hL.N 11 15363) (by omega) (by omega) ?_
      refine zr_asM (M' := (bA ad M offs.length len (upd (upd (upd (zA M (ad 11)) len (vp_nar .byte (Int32.toInt8 (nI kind)).toInt32)) (len + 1) (vp_nar .byte (Int32.toInt8 (nI kl)).toInt32)) (len + 2) (vp_nar .byte (Int32.toInt8 (nI iv)).toInt32)))) (by rw [bA_hit, bA_set]) ?_
      refine zr_aload_n dX0_add_114 rfl ?_
      refine zr_getR dX0_add_115 lkX0_9 (by decide) (by decide) rfl (hL.K 10 1) (hL.R 0 10 11) ?_
      refine zr_aload_n dX0_add_118 rfl ?_
      refine zr_getI dX0_add_119 lkX0_23 (by decide) (by decide) rfl (hL.K 10 1) ?_
      refine zr_as (y := (nI len)) (zput_ms (by decide) hb3) ?_
      refine zr_iconst (v := nI 3) dX0_add_122 (by decide) ?_
      refine zr_iaddN dX0_add_123 ?_
      refine zr_iconst (v := nI 0) dX0_add_124 (by decide) ?_
      refine zr_bastN dX0_add_125 (hL.K 11 14) (hL.N 11 15363) (by omega) (by omega) ?_
      refine zr_asM (M' := (bA ad M offs.length len (upd (upd (upd (upd (zA M (ad 11)) len (vp_nar .byte (Int32.toInt8 (nI kind)).toInt32)) (len + 1) (vp_nar .byte (Int32.toInt8 (nI kl)).toInt32)) (len + 2) (vp_nar .byte (Int32.toInt8 (nI iv)).toInt32)) (len + 3) (vp_nar .byte (nI 0))))) (by rw [bA_hit, bA_set]) ?_
      refine zr_aload_n dX0_add_126 rfl ?_
      refine zr_getR dX0_add_127 lkX0_29 (by decide) (by decide) rfl (hL.K 4 7) (hL.R 192 4 5) ?_
      refine zr_iconst (v := nI 0) dX0_add_130 (by decide) ?_
      refine zr_aload_n dX0_add_131 rfl ?_
      refine zr_getR dX0_add_132 lkX0_9 (by decide) (by decide) rfl (hL.K 10 1) (hL.R 0 10 11) ?_
      refine zr_aload_n dX0_add_135 rfl ?_
      refine zr_getI dX0_add_136 lkX0_23 (by decide) (by decide) rfl (hL.K 10 1) ?_
      refine zr_as (y := (nI len)) (zput_ms (by decide) hb3) ?_
      refine zr_bipush (v := nI 8) dX0_add_139 (by decide) ?_
      refine zr_iaddN dX0_add_141 ?_
      refine zr_aload_n dX0_add_142 rfl ?_
      refine zr_getI dX0_add_143 lkX0_26 (by decide) (by decide) rfl (hL.K 4 7) ?_
      refine zr_as (y := (nI kl)) (zput_ms (by decide) hk) ?_
      refine zr_copyN dX0_add_146 mlX0_32 (Or.inl ⟨(hL.K 5 14), (hL.K 11 14)⟩) (hL.N 5 32) (hL.N 11 15363) (by omega) (by omega) (by omega) (by omega) (by omega) (Nat.le_of_ble_eq_true rfl) ?_
      refine zr_asM (M' := (bA ad M offs.length len (va_cpy (zA M (ad 5)) (upd (upd (upd (upd (zA M (ad 11)) len (vp_nar .byte (Int32.toInt8 (nI kind)).toInt32)) (len + 1) (vp_nar .byte (Int32.toInt8 (nI kl)).toInt32)) (len + 2) (vp_nar .byte (Int32.toInt8 (nI iv)).toInt32)) (len + 3) (vp_nar .byte (nI 0))) 0 (len + 8) kl))) (by rw [bA_hit, bA_oth hL _ _ _ (by decide) (by decide) (by decide), bA_set]) ?_
      refine zr_aload_n dX0_add_149 rfl ?_
      refine zr_getR dX0_add_150 lkX0_29 (by decide) (by decide) rfl (hL.K 6 7) (hL.R 192 6 7) ?_
      refine zr_iconst (v := nI 0) dX0_add_153 (by decide) ?_
      refine zr_aload_n dX0_add_154 rfl ?_
      refine zr_getR dX0_add_155 lkX0_9 (by decide) (by decide) rfl (hL.K 10 1) (hL.R 0 10 11) ?_
      refine zr_aload_n dX0_add_158 rfl ?_
      refine zr_getI dX0_add_159 lkX0_23 (by decide) (by decide) rfl (hL.K 10 1) ?_
      refine zr_as (y := (nI len)) (zput_ms (by decide) hb3) ?_
      refine zr_bipush (v := nI 8) dX0_add_162 (by decide) ?_
      refine zr_iaddN dX0_add_164 ?_
      refine zr_aload_n dX0_add_165 rfl ?_
      refine zr_getI dX0_add_166 lkX0_26 (by decide) (by decide) rfl (hL.K 4 7) ?_
      refine zr_as (y := (nI kl)) (zput_ms (by decide) hk) ?_
      refine zr_iaddN dX0_add_169 ?_
      refine zr_iload dX0_add_170 rfl ?_
      refine zr_copyN dX0_add_172 mlX0_32 (Or.inl ⟨(hL.K 7 14), (hL.K 11 14)⟩) (hL.N 7 200) (hL.N 11 15363) (by omega) (by omega) (by omega) (by omega) (by omega) (Nat.le_of_ble_eq_true rfl) ?_
      refine zr_asM (M' := (bA ad M offs.length len (va_cpy (zA M (ad 7)) (va_cpy (zA M (ad 5)) (upd (upd (upd (upd (zA M (ad 11)) len (vp_nar .byte (Int32.toInt8 (nI kind)).toInt32)) (len + 1) (vp_nar .byte (Int32.toInt8 (nI kl)).toInt32)) (len + 2) (vp_nar .byte (Int32.toInt8 (nI iv)).toInt32)) (len + 3) (vp_nar .byte (nI 0))) 0 (len + 8) kl) 0 ((len + 8) + kl) iv))) (by rw [bA_hit, bA_oth hL _ _ _ (by decide) (by decide) (by decide), bA_set]) ?_
      refine zr_aload_n dX0_add_175 rfl ?_
      refine zr_dup dX0_add_176 rfl ?_
      refine zr_getI dX0_add_177 lkX0_23 (by decide) (by decide) rfl (hL.K 10 1) ?_
      refine zr_as (y := (nI len)) (zput_ms (by decide) hb3) ?_
      refine zr_iload dX0_add_180 rfl ?_
      refine zr_iaddN dX0_add_182 ?_
      refine zr_putI dX0_add_183 lkX0_23 (by decide) (by decide) rfl rfl (hL.K 10 1) ?_
      refine zr_vret dX0_add_186 rfl ?_
      first | (exfalso; omega) | exact hq
    · refine zr_vret dX0_add_49 rfl ?_
      first | (exfalso; omega) | exact hq
set_option maxRecDepth 100000 in
set_option maxHeartbeats 4000000 in
theorem c_Batch_add {G : zG} {ad : Nat → Nat} {d kind kl vl len : Nat} {offs : List Nat} {M : zM} (hd : 2 ≤ d) (hcb : zC M ≤ 600128 ∧ zS M ≤ 7301098) (hL : Lay ad M) (hB : Bt ad M offs len) (hk : zI M 193 (ad 4) = nI kl) (hv : zI M 193 (ad 6) = nI vl) (hkl : kl ≤ 32) (hvl : vl ≤ 200) (hst : offs.length < 64) (hkd : kind < 256) : zMet G mX0_add d [.ref ((ad 10)), .int (nI kind), .ref ((ad 4)), .ref ((ad 6))] M (fun o M' => o = .inl none ∧ M' = addM ad M offs.length len kind kl (if kind = 1 then vl else 0)) := by
  refine zMet_of (by decide +kernel) (Nat.le_of_ble_eq_true rfl) rfl hcb ?_
  show zw G mX0_add d _ _ _ 0 [some (.ref ((ad 10))), some (.int (nI kind)), some (.ref ((ad 4))), some (.ref ((ad 6))), none, none] [] M
  obtain ⟨hb1, hb2, hb3, hs, hch, hwf⟩ := id hB
  have hll := hch.len hwf
  refine zr_iload_n dX0_add_0 rfl ?_
  refine zr_iconst (v := nI 1) dX0_add_1 (by decide) ?_
  refine zr_icmp_neN 12 dX0_add_2 (by decide) (by omega) (by omega) (fun h2 => ?_) (fun h2 => ?_)
  · refine zr_iconst (v := nI 0) dX0_add_12 (by decide) ?_
    first | exact t_Batch_add (iv := 0) hd hcb hL hB hk hv hkl hvl hst (by omega) ⟨rfl, by rw [if_pos (by omega)]⟩ | exact t_Batch_add (iv := 0) hd hcb hL hB hk hv hkl hvl hst (by omega) ⟨rfl, by rw [if_neg (by omega)]⟩
  · refine zr_aload_n dX0_add_5 rfl ?_
    refine zr_getI dX0_add_6 lkX0_26 (by decide) (by decide) rfl (hL.K 6 7) ?_
    refine zr_as (y := (nI vl)) hv ?_
    refine zr_goto 13 dX0_add_9 (by decide) ?_
    first | exact t_Batch_add (iv := vl) hd hcb hL hB hk hv hkl hvl hst (by omega) ⟨rfl, by rw [if_pos (by omega)]⟩ | exact t_Batch_add (iv := vl) hd hcb hL hB hk hv hkl hvl hst (by omega) ⟨rfl, by rw [if_neg (by omega)]⟩
theorem Bt.add {ad : Nat → Nat} {M : zM} {offs : List Nat} {len kind kl vl : Nat} (hL : Lay ad M) (hB : Bt ad M offs len) (hkl : kl ≤ 32) (hk1 : 1 ≤ kl) (hvl : vl ≤ 200) (hst : offs.length < 64) (hkd : kind = 1 ∨ (kind = 2 ∧ vl = 0)) : Bt ad (addM ad M offs.length len kind kl vl) (offs ++ [len]) (len + (8 + kl + vl)) ∧ esp (zA (addM ad M offs.length len kind kl vl) (ad 11)) len = (kind, rwl (zA M (ad 5)) kl, rwl (zA M (ad 7)) vl) ∧ ∀ p ∈ offs, esp (zA (addM ad M offs.length len kind kl vl) (ad 11)) p = esp (zA M (ad 11)) p := by
  obtain ⟨h1, h2, h3, h4, h5, h6⟩ := hB
  obtain ⟨s0, s1, s2, s3, s4⟩ := addR_spec (R := zA M (ad 11)) (K := zA M (ad 5)) (V := zA M (ad 7)) (len := len) (kind := kind) (kl := kl) (iv := vl) (by omega) (by omega) (by omega)
  have hA : zA (addM ad M offs.length len kind kl vl) (ad 11) = addR (zA M (ad 11)) (zA M (ad 5)) (zA M (ad 7)) len kind kl vl := bA_hit _ _ _ _ _
  have hE : ∀ p ∈ offs, Esame (zA M (ad 11)) (addR (zA M (ad 11)) (zA M (ad 5)) (zA M (ad 7)) len kind kl vl) p := fun p hp => Esame.of (fun j h1 h2 _ => by rw [addR_low (by have := (h5.le.2 p hp).2; omega)])
  have hlen : eln (addR (zA M (ad 11)) (zA M (ad 5)) (zA M (ad 7)) len kind kl vl) len = 8 + kl + vl := by unfold eln; rw [s1, s2]
  refine ⟨⟨?_, ?_, ?_, ?_, ?_, ?_⟩, ?_, ?_⟩
  · rw [List.length_append]; exact zput_ms (by decide) (zput_hit _ _ _ _)
  · rw [List.length_append, List.length_singleton]; omega
  · exact zput_hit _ _ _ _
  · intro i p hi
    have hz : zA (addM ad M offs.length len kind kl vl) (ad 12) = upd (zA M (ad 12)) offs.length (nI len) := zsetA_ms (M := zsetA M (ad 12) _) (hL.ne (by decide)) (zsetA_hit _ _ _)
    rw [hz]
    rcases Nat.lt_or_ge i offs.length with h | h
    · rw [List.getElem?_append_left h] at hi
      rw [pk_un (by omega)]; exact h4 i p hi
    · rw [List.getElem?_append_right h] at hi
      have h9 := (List.getElem?_eq_some_iff.mp hi).1
      rw [List.length_singleton] at h9
      have h10 : i = offs.length := by omega
      rw [h10, Nat.sub_self] at hi
      cases hi
      rw [h10, pk_us]
  · rw [hA, ← hlen]; exact (h5.same hE).snoc
  · intro p hp
    rw [hA]
    rcases List.mem_append.mp hp with hp | hp
    · exact (hE p hp).eW (h6 p hp)
    · cases List.mem_singleton.mp hp
      unfold Ewf
      rw [s0, s1, s2]; omega
  · rw [hA]; unfold esp; rw [s0, s3, s4]
  · intro p hp; rw [hA]; exact (hE p hp).eS
def vbits (v : Nat → Option Nat) : Nat → Nat
  | 0 => 0
  | i + 1 => vbits v i + (if v i = none then 0 else 2 ^ i)
theorem vbits_lt (v : Nat → Option Nat) : ∀ i, vbits v i < 2 ^ i
  | 0 => Nat.zero_lt_one
  | i + 1 => by
    have := vbits_lt v i
    show vbits v i + _ < _
    rw [Nat.pow_succ]
    split <;> omega
theorem vbits_step {b i : Nat} (hi : i < 8) (hb : b < 2 ^ i) : nI b ||| (nI 1 <<< (nI i &&& 31)) = nI (b + 2 ^ i) := by
  have h1 : nI 1 <<< (nI i &&& 31) = nI (2 ^ i) := by
    have : ∀ i, i < 8 → nI 1 <<< (nI i &&& 31) = nI (2 ^ i) := by decide +kernel
    exact this i hi
  rw [h1, nI_or]
  congr 1
  have h2 := Nat.two_pow_add_eq_or_of_lt (i := i) (b := b) hb 1
  rw [Nat.mul_one] at h2
  rw [Nat.or_comm, ← h2, Nat.add_comm]
set_option maxRecDepth 100000 in
set_option maxHeartbeats 4000000 in
theorem l_Views_bits {G : zG} {d k0 n0 a b : Nat} {v : Nat → Option Nat} {M : zM} {Q : zOut → zM → Prop} (hv : zVw M a b v) (hq : Q (.inl (some (.int (nI (vbits v 8))))) M) : ∀ (m i : Nat) , 8 - i = m → i ≤ 8 → zw G mX9_bits d k0 n0 Q 4 [some (.ref a), some (.int (nI (vbits v i))), some (.int (nI i))] [] M := by
  intro m
  induction m using Nat.strongRecOn with
  | _ m ih =>
    intro i hm hi
    obtain ⟨hK, hR, hKb, hNb, hA, hc⟩ := id hv
    refine zr_iload_n dX9_bits_4 rfl ?_
    refine zr_bipush (v := nI 8) dX9_bits_5 (by decide) ?_
    refine zr_icmp_geN 32 dX9_bits_7 (by decide) (by omega) (by omega) (fun h7 => ?_) (fun h7 => ?_)
    · refine zr_iload_n dX9_bits_32 rfl ?_
      refine zr_iret dX9_bits_33 rfl ?_
      rw [show i = 8 by omega]
      exact hq
    · obtain ⟨o, ho⟩ : ∃ o, o = v i := ⟨_, rfl⟩
      have hbo : ∀ c, o = some c → c < 2 ^ 31 := fun c z => hc i c (by rw [← ho, z])
      refine zr_aload_n dX9_bits_10 rfl ?_
      refine zr_getR dX9_bits_11 lkX9_9 (by decide) (by decide) rfl hK hR ?_
      refine zr_iload_n dX9_bits_14 rfl ?_
      refine zr_ialdN dX9_bits_15 hKb hNb (by omega) (by omega) ?_
      refine zr_as (y := (zvi o)) (by rw [hA i (by omega), ← ho]) ?_
      refine zr_iconst (v := -1) dX9_bits_16 (by decide) ?_
      refine zr_icmp_eqO 26 dX9_bits_17 (by decide) hbo (fun h17 => ?_) (fun ov h17 => ?_)
      · subst h17
        refine zr_iincN (n := 1) (lv' := [some (.ref a), some (.int (nI (vbits v i))), some (.int (nI (i + 1)))]) dX9_bits_26 (Nat.le_of_ble_eq_true rfl) (Nat.le_of_ble_eq_true rfl) rfl rfl rfl ?_
        refine zr_goto 4 dX9_bits_29 (by decide) ?_
        have hv9 : vbits v i = vbits v (i + 1) := by show _ = vbits v i + (if v i = none then 0 else 2 ^ i); rw [← ho, if_pos rfl]; rfl
        rw [hv9]
        exact ih _ (by omega) (i + 1) rfl (by omega)
      · subst h17
        refine zr_iload_n dX9_bits_20 rfl ?_
        refine zr_iconst (v := nI 1) dX9_bits_21 (by decide) ?_
        refine zr_iload_n dX9_bits_22 rfl ?_
        refine zr_ishl dX9_bits_23 ?_
        refine zr_ior dX9_bits_24 ?_
        refine zr_istore_n (lv' := [some (.ref a), some (.int (((nI (vbits v i)) ||| ((nI 1) <<< ((nI i) &&& 31))))), some (.int (nI i))]) dX9_bits_25 (Nat.le_of_ble_eq_true rfl) (Nat.le_of_ble_eq_true rfl) rfl rfl ?_
        refine zr_iincN (n := 1) (lv' := [some (.ref a), some (.int (((nI (vbits v i)) ||| ((nI 1) <<< ((nI i) &&& 31))))), some (.int (nI (i + 1)))]) dX9_bits_26 (Nat.le_of_ble_eq_true rfl) (Nat.le_of_ble_eq_true rfl) rfl rfl rfl ?_
        refine zr_goto 4 dX9_bits_29 (by decide) ?_
        have hv9 : vbits v i + 2 ^ i = vbits v (i + 1) := by show _ = vbits v i + (if v i = none then 0 else 2 ^ i); rw [← ho, if_neg (by simp)]
        rw [vbits_step h7 (vbits_lt v i), hv9]
        exact ih _ (by omega) (i + 1) rfl (by omega)
set_option maxRecDepth 100000 in
set_option maxHeartbeats 4000000 in
theorem c_Views_bits {G : zG} {d a b : Nat} {v : Nat → Option Nat} {M : zM} (hcb : zC M ≤ 600128 ∧ zS M ≤ 7301098) (hv : zVw M a b v) : zMet G mX9_bits d [.ref a] M (fun o M' => o = .inl (some (.int (nI (vbits v 8)))) ∧ M' = M) := by
  refine zMet_of (by decide +kernel) (Nat.le_of_ble_eq_true rfl) rfl hcb ?_
  show zw G mX9_bits d _ _ _ 0 [some (.ref a), none, none] [] M
  obtain ⟨hK, hR, hKb, hNb, hA, hc⟩ := id hv
  refine zr_iconst (v := nI 0) dX9_bits_0 (by decide) ?_
  refine zr_istore_n (lv' := [some (.ref a), some (.int (nI 0)), none]) dX9_bits_1 (Nat.le_of_ble_eq_true rfl) (Nat.le_of_ble_eq_true rfl) rfl rfl ?_
  refine zr_iconst (v := nI 0) dX9_bits_2 (by decide) ?_
  refine zr_istore_n (lv' := [some (.ref a), some (.int (nI 0)), some (.int (nI 0))]) dX9_bits_3 (Nat.le_of_ble_eq_true rfl) (Nat.le_of_ble_eq_true rfl) rfl rfl ?_
  exact l_Views_bits hv ⟨rfl, rfl⟩ _ 0 rfl (by omega)
def cby (c j : Nat) : Int32 := vp_nar .byte (Int32.toInt8 (nI c >>> (nI (24 - 8 * j) &&& 31))).toInt32
def sl4 (c p j : Nat) (g : Nat → Int32) : Nat → Int32 := fun x => if p + 4 ≤ x ∧ x < p + 4 + j then cby c (x - (p + 4)) else g x
theorem sl4_step (c p j : Nat) (g : Nat → Int32) : upd (sl4 c p j g) (p + 4 + j) (cby c j) = sl4 c p (j + 1) g := by
  funext x
  unfold upd sl4
  by_cases e : x = p + 4 + j
  · rw [if_pos e, if_pos (by omega), show x - (p + 4) = j by omega]
  · rw [if_neg e]
    by_cases e2 : p + 4 ≤ x ∧ x < p + 4 + j
    · rw [if_pos e2, if_pos (by omega)]
    · rw [if_neg e2, if_neg (by omega)]
theorem sl4_0 (c p : Nat) (g : Nat → Int32) : sl4 c p 0 g = g := by
  funext x
  unfold sl4
  rw [if_neg (by omega)]
def sealR (c : Nat) : List Nat → (Nat → Int32) → (Nat → Int32)
  | [], g => g
  | p :: ps, g => sealR c ps (sl4 c p 4 g)
theorem sealR_snoc (c : Nat) : ∀ (l : List Nat) (p : Nat) (g : Nat → Int32), sealR c (l ++ [p]) g = sl4 c p 4 (sealR c l g)
  | [], p, g => rfl
  | q :: l, p, g => sealR_snoc c l p (sl4 c q 4 g)
theorem sealR_out (c : Nat) : ∀ (l : List Nat) (g : Nat → Int32) (x : Nat), (∀ p ∈ l, ¬ (p + 4 ≤ x ∧ x < p + 8)) → sealR c l g x = g x
  | [], g, x, _ => rfl
  | q :: l, g, x, h => by
    show sealR c l (sl4 c q 4 g) x = g x
    rw [sealR_out c l _ x (fun p hp => h p (List.mem_cons_of_mem _ hp))]
    unfold sl4
    rw [if_neg (fun z => h q List.mem_cons_self (by omega))]
theorem sealR_in (c : Nat) : ∀ (l : List Nat) (g : Nat → Int32) (p j : Nat), l.Pairwise (fun a b => a + 8 ≤ b) → p ∈ l → j < 4 → sealR c l g (p + 4 + j) = cby c j
  | q :: l, g, p, j, hpw, hp, hj => by
    rw [List.pairwise_cons] at hpw
    show sealR c l (sl4 c q 4 g) (p + 4 + j) = cby c j
    rcases List.mem_cons.mp hp with rfl | hp
    · rw [sealR_out c l _ _ (fun z hz => by have := hpw.1 z hz; omega)]
      unfold sl4
      rw [if_pos (by omega)]
      congr 1; omega
    · exact sealR_in c l _ p j hpw.2 hp hj
theorem cby_zb {c j : Nat} (hc : c < 2 ^ 31) (hj : j < 4) : zb (cby c j) = c / 2 ^ (24 - 8 * j) % 256 := by
  unfold cby
  have hs : ∀ j, j < 4 → ((nI (24 - 8 * j) &&& 31).toBitVec.smod 32).toNat = 24 - 8 * j := by decide +kernel
  have hle : c / 2 ^ (24 - 8 * j) ≤ c := Nat.div_le_self _ _
  rw [zb_nar, zb_i8, pk_shrN hc _ _ (hs j hj), zb_nI _ (by omega)]
theorem Chn.sep {D : Nat → Int32} : ∀ {ps : List Nat} {a e : Nat}, Chn D a ps e → ps.Pairwise (fun a b => a + 8 ≤ b)
  | [], a, e, _ => List.Pairwise.nil
  | q :: ps, a, e, h => by
    obtain ⟨rfl, h⟩ := h
    exact List.Pairwise.cons (fun p hp => by have := (h.le.2 p hp).1; unfold eln at this; omega) (Chn.sep h)
/-- the record, sealed -/
def seaR (R : Nat → Int32) (c len : Nat) (offs : List Nat) : Nat → Int32 := upd (upd (upd (sealR c offs R) 0 (vp_nar .byte (Int32.toInt8 (nI (len - 2) >>> (nI 8 &&& 31))).toInt32)) 1 (vp_nar .byte (Int32.toInt8 (nI (len - 2))).toInt32)) len (vp_nar .byte (-91))
theorem seaR_spec {R : Nat → Int32} {c len : Nat} {offs : List Nat} (hch : Chn R 2 offs len) (hc : c < 2 ^ 31) (hl : len < 65536) : (∀ p ∈ offs, Esame R (seaR R c len offs) p ∧ ecm (seaR R c len offs) p = c) ∧ nuN (seaR R c len offs) 0 2 = len - 2 ∧ zb (seaR R c len offs len) = 165 := by
  have hle := hch.le
  have hl2 := hle.1
  have h4 : ∀ p ∈ offs, ∀ j, p ≤ j → j < p + eln R p → seaR R c len offs j = sealR c offs R j := fun p hp j h1 h2 => by
    have := hle.2 p hp
    unfold seaR
    rw [pk_un (by omega), pk_un (by omega), pk_un (by omega)]
  refine ⟨fun p hp => ⟨Esame.of (fun j h1 h2 h3 => ?_), ?_⟩, ?_, ?_⟩
  · rw [h4 p hp j h1 h2, sealR_out c offs R j (fun q hq z => ?_)]
    rcases Nat.lt_trichotomy p q with e | e | e
    · have hs : p + eln R p ≤ q := by
        have : ∀ {ps : List Nat} {a e : Nat}, Chn R a ps e → p ∈ ps → q ∈ ps → p < q → p + eln R p ≤ q := by
          intro ps
          induction ps with
          | nil => intro a e _ h _ _; cases h
          | cons x ps ih =>
            intro a e h hp hq hlt
            obtain ⟨rfl, h⟩ := h
            rcases List.mem_cons.mp hp with rfl | hp'
            · rcases List.mem_cons.mp hq with rfl | hq'
              · omega
              · exact (h.le.2 q hq').1
            · rcases List.mem_cons.mp hq with rfl | hq'
              · have := (h.le.2 p hp').1; unfold eln at this; omega
              · exact ih h hp' hq' hlt
        exact this hch hp hq e
      omega
    · omega
    · have hs : q + 8 ≤ p := by
        have : ∀ {ps : List Nat}, ps.Pairwise (fun a b => a + 8 ≤ b) → p ∈ ps → q ∈ ps → q < p → q + 8 ≤ p := by
          intro ps
          induction ps with
          | nil => intro _ h _ _; cases h
          | cons x ps ih =>
            intro h hp hq hlt
            rw [List.pairwise_cons] at h
            rcases List.mem_cons.mp hp with rfl | hp'
            · rcases List.mem_cons.mp hq with rfl | hq'
              · omega
              · have := h.1 q hq'; omega
            · rcases List.mem_cons.mp hq with rfl | hq'
              · exact h.1 p hp'
              · exact ih h.2 hp' hq' hlt
        exact this hch.sep hp hq e
      omega
  · have e : ∀ j, j < 4 → zb (seaR R c len offs (p + 4 + j)) = c / 2 ^ (24 - 8 * j) % 256 := fun j hj => by
      rw [h4 p hp _ (by omega) (by unfold eln; omega), sealR_in c offs R p j hch.sep hp hj, cby_zb hc hj]
    have e0 := e 0 (by decide)
    have e1 := e 1 (by decide)
    have e2 := e 2 (by decide)
    have e3 := e 3 (by decide)
    show (((0 * 256 + zb (seaR R c len offs (p + 4 + 0))) * 256 + zb (seaR R c len offs (p + 4 + 1))) * 256 + zb (seaR R c len offs (p + 4 + 2))) * 256 + zb (seaR R c len offs (p + 4 + 3)) = c
    rw [e0, e1, e2, e3]
    show (((0 * 256 + c / 16777216 % 256) * 256 + c / 65536 % 256) * 256 + c / 256 % 256) * 256 + c / 1 % 256 = c
    omega
  · show (0 * 256 + zb (seaR R c len offs (0 + 0))) * 256 + zb (seaR R c len offs (0 + 1)) = len - 2
    have e0 : zb (seaR R c len offs (0 + 0)) = (len - 2) / 256 % 256 := by
      unfold seaR
      rw [pk_un (by omega), pk_un (by omega), pk_us, zb_nar, zb_i8, pk_shrN (by omega) _ 8 (by decide +kernel), zb_nI _ (by have := Nat.div_le_self (len - 2) (2 ^ 8); omega)]
    have e1 : zb (seaR R c len offs (0 + 1)) = (len - 2) % 256 := by
      unfold seaR
      rw [pk_un (by omega), pk_us, zb_nar, zb_i8, zb_nI _ (by omega)]
    rw [e0, e1]; omega
  · unfold seaR
    rw [pk_us]; decide +kernel
set_option maxRecDepth 100000 in
set_option maxHeartbeats 4000000 in
theorem l_Batch_seal1 {G : zG} {ad : Nat → Nat} {d k0 n0 i p c len : Nat} {offs : List Nat} {g : Nat → Int32} {M : zM} {Q : zOut → zM → Prop} (hL : Lay ad M) (hB : Bt ad M offs len) (hi : offs[i]? = some p) (hk : zw G mX0_seal d k0 n0 Q 54 [some (.ref ((ad 10))), some (.int (nI c)), some (.int (nI i)), some (.int (nI (p + 4))), some (.int (nI 4))] [] (zsetA M (ad 11) (sl4 c p 4 g))) : ∀ (m j : Nat), 4 - j = m → j ≤ 4 → zw G mX0_seal d k0 n0 Q 22 [some (.ref ((ad 10))), some (.int (nI c)), some (.int (nI i)), some (.int (nI (p + 4))), some (.int (nI j))] [] (zsetA M (ad 11) (sl4 c p j g)) := by
  intro m
  induction m using Nat.strongRecOn with
  | _ m ih =>
    intro j hm hj
    obtain ⟨hb1, hb2, hb3, hs, hch, hwf⟩ := id hB
    obtain ⟨g1, g2, g3, g4, g5⟩ := hB.at hi
    have g6 := g3.len
    refine zr_iload dX0_seal_22 rfl ?_
    refine zr_iconst (v := nI 4) dX0_seal_24 (by decide) ?_
    refine zr_icmp_geN 54 dX0_seal_25 (by decide) (by omega) (by omega) (fun h25 => ?_) (fun h25 => ?_)
    · rw [show j = 4 by omega]
      exact hk
    · refine zr_aload_n dX0_seal_28 rfl ?_
      refine zr_getR dX0_seal_29 lkX0_9 (by decide) (by decide) rfl (hL.K 10 1) (hL.R 0 10 11) ?_
      refine zr_iload_n dX0_seal_32 rfl ?_
      refine zr_iload dX0_seal_33 rfl ?_
      refine zr_iaddN dX0_seal_35 ?_
      refine zr_iload_n dX0_seal_36 rfl ?_
      refine zr_bipush (v := nI 24) dX0_seal_37 (by decide) ?_
      refine zr_bipush (v := nI 8) dX0_seal_39 (by decide) ?_
      refine zr_iload dX0_seal_41 rfl ?_
      refine zr_imulN dX0_seal_43 ?_
      refine zr_isubN dX0_seal_44 (by omega) ?_
      refine zr_ishr dX0_seal_45 ?_
      refine zr_i2b dX0_seal_46 ?_
      refine zr_bastN dX0_seal_47 (hL.K 11 14) (hL.N 11 15363) (by omega) (by omega) ?_
      refine zr_iincN (n := 1) (lv' := [some (.ref ((ad 10))), some (.int (nI c)), some (.int (nI i)), some (.int (nI (p + 4))), some (.int (nI (j + 1)))]) dX0_seal_48 (Nat.le_of_ble_eq_true rfl) (Nat.le_of_ble_eq_true rfl) rfl rfl rfl ?_
      refine zr_goto 22 dX0_seal_51 (by decide) ?_
      refine zr_asM (M' := zsetA M (ad 11) (sl4 c p (j + 1) g)) (by rw [zsetA_hit, zsetA_setA, ← sl4_step]; rfl) ?_
      exact ih _ (by omega) (j + 1) rfl (by omega)
set_option maxRecDepth 100000 in
set_option maxHeartbeats 4000000 in
theorem l_Batch_seal2 {G : zG} {ad : Nat → Nat} {d k0 n0 c len : Nat} {offs : List Nat} {M : zM} {Q : zOut → zM → Prop} (hL : Lay ad M) (hB : Bt ad M offs len) (hk : zw G mX0_seal d k0 n0 Q 60 [some (.ref ((ad 10))), some (.int (nI c)), some (.int (nI offs.length)), none, none] [] (zsetA M (ad 11) (sealR c offs (zA M (ad 11))))) : ∀ (m i : Nat) , offs.length - i = m → i ≤ offs.length → zw G mX0_seal d k0 n0 Q 2 [some (.ref ((ad 10))), some (.int (nI c)), some (.int (nI i)), none, none] [] (zsetA M (ad 11) (sealR c (offs.take i) (zA M (ad 11)))) := by
  intro m
  induction m using Nat.strongRecOn with
  | _ m ih =>
    intro i hm hi9
    obtain ⟨hb1, hb2, hb3, hs, hch, hwf⟩ := id hB
    refine zr_iload_n dX0_seal_2 rfl ?_
    refine zr_aload_n dX0_seal_3 rfl ?_
    refine zr_getI dX0_seal_4 lkX0_19 (by decide) (by decide) rfl (hL.K 10 1) ?_
    refine zr_as (y := (nI offs.length)) hb1 ?_
    refine zr_icmp_geN 60 dX0_seal_7 (by decide) (by omega) (by omega) (fun h7 => ?_) (fun h7 => ?_)
    · rw [show i = offs.length by omega, List.take_length]
      exact hk
    · obtain ⟨p, hi⟩ : ∃ p, offs[i]? = some p := ⟨_, List.getElem?_eq_getElem h7⟩
      obtain ⟨g1, g2, g3, g4, g5⟩ := hB.at hi
      refine zr_aload_n dX0_seal_10 rfl ?_
      refine zr_getR dX0_seal_11 lkX0_15 (by decide) (by decide) rfl (hL.K 10 1) (hL.R 1 10 12) ?_
      refine zr_iload_n dX0_seal_14 rfl ?_
      refine zr_ialdN dX0_seal_15 (hL.K 12 15) (hL.N 12 64) (by omega) (by omega) ?_
      refine zr_as (y := (nI p)) ((congrFun (zsetA_ms (hL.ne (by decide)) rfl) i).trans (hs i p hi)) ?_
      refine zr_iconst (v := nI 4) dX0_seal_16 (by decide) ?_
      refine zr_iaddN dX0_seal_17 ?_
      refine zr_istore_n (lv' := [some (.ref ((ad 10))), some (.int (nI c)), some (.int (nI i)), some (.int (nI (p + 4))), none]) dX0_seal_18 (Nat.le_of_ble_eq_true rfl) (Nat.le_of_ble_eq_true rfl) rfl rfl ?_
      refine zr_iconst (v := nI 0) dX0_seal_19 (by decide) ?_
      refine zr_istore (lv' := [some (.ref ((ad 10))), some (.int (nI c)), some (.int (nI i)), some (.int (nI (p + 4))), some (.int (nI 0))]) dX0_seal_20 (Nat.le_of_ble_eq_true rfl) (Nat.le_of_ble_eq_true rfl) rfl rfl ?_
      refine zr_asM (M' := zsetA M (ad 11) (sl4 c p 0 (sealR c (offs.take i) (zA M (ad 11))))) (by rw [sl4_0]) ?_
      refine l_Batch_seal1 hL hB hi ?_ _ 0 rfl (by decide)
      refine zr_iincN (n := 1) (lv' := [some (.ref ((ad 10))), some (.int (nI c)), some (.int (nI (i + 1))), some (.int (nI (p + 4))), some (.int (nI 4))]) dX0_seal_54 (Nat.le_of_ble_eq_true rfl) (Nat.le_of_ble_eq_true rfl) rfl rfl rfl ?_
      refine zr_goto 2 dX0_seal_57 (by decide) ?_
      refine zr_drop 3 rfl ?_
      refine zr_drop 4 rfl ?_
      refine zr_asM (M' := zsetA M (ad 11) (sealR c (offs.take (i + 1)) (zA M (ad 11)))) (by rw [List.take_succ, hi, ← sealR_snoc]; rfl) ?_
      exact ih _ (by omega) (i + 1) rfl (by omega)
set_option maxRecDepth 100000 in
set_option maxHeartbeats 4000000 in
theorem c_Batch_seal {G : zG} {ad : Nat → Nat} {d c len : Nat} {offs : List Nat} {M : zM} (hcb : zC M ≤ 600128 ∧ zS M ≤ 7301098) (hL : Lay ad M) (hB : Bt ad M offs len)  : zMet G mX0_seal d [.ref ((ad 10)), .int (nI c)] M (fun o M' => o = .inl none ∧ M' = zput (zsetA M (ad 11) (seaR (zA M (ad 11)) c len offs)) 3 (ad 10) (nI (len + 1))) := by
  refine zMet_of (by decide +kernel) (Nat.le_of_ble_eq_true rfl) rfl hcb ?_
  show zw G mX0_seal d _ _ _ 0 [some (.ref ((ad 10))), some (.int (nI c)), none, none, none] [] M
  obtain ⟨hb1, hb2, hb3, hs, hch, hwf⟩ := id hB
  have hll := hch.len hwf
  have hl2 := hch.le.1
  refine zr_iconst (v := nI 0) dX0_seal_0 (by decide) ?_
  refine zr_istore_n (lv' := [some (.ref ((ad 10))), some (.int (nI c)), some (.int (nI 0)), none, none]) dX0_seal_1 (Nat.le_of_ble_eq_true rfl) (Nat.le_of_ble_eq_true rfl) rfl rfl ?_
  refine zr_asM (M' := zsetA M (ad 11) (sealR c (offs.take 0) (zA M (ad 11)))) (by rw [List.take_zero]; exact (zsetA_self rfl).symm) ?_
  refine l_Batch_seal2 hL hB ?_ _ 0 rfl (by omega)
  refine zr_aload_n dX0_seal_60 rfl ?_
  refine zr_getI dX0_seal_61 lkX0_23 (by decide) (by decide) rfl (hL.K 10 1) ?_
  refine zr_as (y := (nI len)) hb3 ?_
  refine zr_iconst (v := nI 2) dX0_seal_64 (by decide) ?_
  refine zr_isubN dX0_seal_65 (by omega) ?_
  refine zr_istore_n (lv' := [some (.ref ((ad 10))), some (.int (nI c)), some (.int (nI (len - 2))), none, none]) dX0_seal_66 (Nat.le_of_ble_eq_true rfl) (Nat.le_of_ble_eq_true rfl) rfl rfl ?_
  refine zr_aload_n dX0_seal_67 rfl ?_
  refine zr_getR dX0_seal_68 lkX0_9 (by decide) (by decide) rfl (hL.K 10 1) (hL.R 0 10 11) ?_
  refine zr_iconst (v := nI 0) dX0_seal_71 (by decide) ?_
  refine zr_iload_n dX0_seal_72 rfl ?_
  refine zr_bipush (v := nI 8) dX0_seal_73 (by decide) ?_
  refine zr_ishr dX0_seal_75 ?_
  refine zr_i2b dX0_seal_76 ?_
  refine zr_bastN dX0_seal_77 (hL.K 11 14) (hL.N 11 15363) (by omega) (by omega) ?_
  refine zr_aload_n dX0_seal_78 rfl ?_
  refine zr_getR dX0_seal_79 lkX0_9 (by decide) (by decide) rfl (hL.K 10 1) (hL.R 0 10 11) ?_
  refine zr_iconst (v := nI 1) dX0_seal_82 (by decide) ?_
  refine zr_iload_n dX0_seal_83 rfl ?_
  refine zr_i2b dX0_seal_84 ?_
  refine zr_bastN dX0_seal_85 (hL.K 11 14) (hL.N 11 15363) (by omega) (by omega) ?_
  refine zr_aload_n dX0_seal_86 rfl ?_
  refine zr_getR dX0_seal_87 lkX0_9 (by decide) (by decide) rfl (hL.K 10 1) (hL.R 0 10 11) ?_
  refine zr_aload_n dX0_seal_90 rfl ?_
  refine zr_getI dX0_seal_91 lkX0_23 (by decide) (by decide) rfl (hL.K 10 1) ?_
  refine zr_as (y := (nI len)) hb3 ?_
  refine zr_bipush (v := -91) dX0_seal_94 (by decide) ?_
  refine zr_bastN dX0_seal_96 (hL.K 11 14) (hL.N 11 15363) (by omega) (by omega) ?_
  refine zr_aload_n dX0_seal_97 rfl ?_
  refine zr_dup dX0_seal_98 rfl ?_
  refine zr_getI dX0_seal_99 lkX0_23 (by decide) (by decide) rfl (hL.K 10 1) ?_
  refine zr_as (y := (nI len)) hb3 ?_
  refine zr_iconst (v := nI 1) dX0_seal_102 (by decide) ?_
  refine zr_iaddN dX0_seal_103 ?_
  refine zr_putI dX0_seal_104 lkX0_23 (by decide) (by decide) rfl rfl (hL.K 10 1) ?_
  refine zr_vret dX0_seal_107 rfl ?_
  refine ⟨rfl, ?_⟩
  rw [zsetA_hit, zsetA_setA, zsetA_hit, zsetA_setA, zsetA_hit, zsetA_setA]
  rfl
