/-! ===== LsmStore$Writer: copyEntry, open, current, closeTable, writeOut ===== -/
theorem fb_fin : ∀ m : Fin 256, ∀ k : Fin 8, (¬ (nI m.val &&& (nI 1 <<< (nI k.val &&& 31))) = 0) ↔ Nat.testBit m.val k.val = true := by decide +kernel
theorem sh_fin : ∀ k : Fin 8, zb (nI 1 <<< (nI k.val &&& 31)) = 2 ^ k.val := by decide +kernel
theorem fbit_iff (D : Nat → Int32) (F : Nat) (x : Int32) : fbit D F x ↔ Nat.testBit (zb (D (F + plc x / 8))) (plc x % 8) = true := fb_fin ⟨zb (D (F + plc x / 8)), Nat.mod_lt _ (by decide)⟩ ⟨plc x % 8, Nat.mod_lt _ (by decide)⟩
theorem zb_or2 (x y : Int32) : zb (x ||| y) = zb x ||| zb y := by
  unfold zb
  rw [Int32.toBitVec_or, BitVec.toNat_or]
  exact Nat.or_mod_two_pow (n := 8)
/-- the byte of a filter with a bit more -/
def fby (z : Int32) (x : Int32) : Int32 := vp_nar .byte (Int32.toInt8 (z ||| (Int32.toInt8 (nI 1 <<< (nI (plc x % 8) &&& 31))).toInt32)).toInt32
theorem zb_fby (z x : Int32) : zb (fby z x) = zb z ||| 2 ^ (plc x % 8) := by
  unfold fby
  rw [zb_nar, zb_i8, zb_or2, zb_i8]
  congr 1
  exact sh_fin ⟨plc x % 8, Nat.mod_lt _ (by decide)⟩
theorem fbit_set (g : Nat → Int32) (x : Int32) : fbit (upd g (plc x / 8) (fby (g (plc x / 8)) x)) 0 x ∧ ∀ y, fbit g 0 y → fbit (upd g (plc x / 8) (fby (g (plc x / 8)) x)) 0 y := by
  constructor
  · rw [fbit_iff, Nat.zero_add]
    unfold upd
    rw [if_pos rfl, zb_fby, Nat.testBit_or, Nat.testBit_two_pow_self, Bool.or_true]
  · intro y hy
    rw [fbit_iff, Nat.zero_add] at hy ⊢
    unfold upd
    by_cases e : plc y / 8 = plc x / 8
    · rw [if_pos e, zb_fby, Nat.testBit_or, ← e, hy, Bool.true_or]
    · rw [if_neg e]; exact hy
set_option maxRecDepth 100000 in
set_option maxHeartbeats 4000000 in
theorem l_Writer_copy {G : zG} {ad : Nat → Nat} {d k0 n0 x L to : Nat} {h : Int32} {g0 : Nat → Int32} {M : zM} {Q : zOut → zM → Prop} (hL : Lay ad M) (hq0 : ∀ g : Nat → Int32, (∀ y, fbit g0 0 y → fbit g 0 y) → (∀ x, x < 4 → fbit g 0 (prb h x)) → Q (.inl none) (zsetA M (ad 28) g)) : ∀ (m i : Nat) (g : Nat → Int32), 4 - i = m → i ≤ 4 → (∀ y, fbit g0 0 y → fbit g 0 y) → (∀ x, x < i → fbit g 0 (prb h x)) → zw G mX10_copyEntry d k0 n0 Q 97 [some (.ref ((ad 26))), some (.int (nI x)), some (.int (nI L)), some (.int (nI to)), some (.int ((prb h i))), some (.int ((srd h))), some (.int (nI i)), none] [] (zsetA M (ad 28) g) := by
  intro m
  induction m using Nat.strongRecOn with
  | _ m ih =>
    intro i g hm hi hm1 hm2
    refine zr_iload dX10_copyEntry_97 rfl ?_
    refine zr_iconst (v := nI 4) dX10_copyEntry_99 (by decide) ?_
    refine zr_icmp_geN 146 dX10_copyEntry_100 (by decide) (by omega) (by omega) (fun h100 => ?_) (fun h100 => ?_)
    · refine zr_vret dX10_copyEntry_146 rfl ?_
      exact hq0 g hm1 (fun x hx => hm2 x (by omega))
    · refine zr_iload dX10_copyEntry_103 rfl ?_
      refine zr_sipush (v := nI 4095) dX10_copyEntry_105 (by decide) ?_
      refine zr_iand dX10_copyEntry_108 ?_
      refine zr_as (y := nI (plc (prb h i))) (pk_and _ 12 (by decide +kernel)) ?_
      have hpl := plc_lt (prb h i)
      refine zr_istore (lv' := [some (.ref ((ad 26))), some (.int (nI x)), some (.int (nI L)), some (.int (nI to)), some (.int ((prb h i))), some (.int ((srd h))), some (.int (nI i)), some (.int (nI (plc (prb h i))))]) dX10_copyEntry_109 (Nat.le_of_ble_eq_true rfl) (Nat.le_of_ble_eq_true rfl) rfl rfl ?_
      refine zr_aload_n dX10_copyEntry_111 rfl ?_
      refine zr_getR dX10_copyEntry_112 lkX10_15 (by decide) (by decide) rfl (hL.K 26 11) (hL.R 323 26 28) ?_
      refine zr_iload dX10_copyEntry_115 rfl ?_
      refine zr_bipush (v := nI 8) dX10_copyEntry_117 (by decide) ?_
      refine zr_idivN dX10_copyEntry_119 (by omega) (by omega) (by omega) ?_
      refine zr_dup2 dX10_copyEntry_120 rfl rfl ?_
      refine zr_baldN dX10_copyEntry_121 (hL.K 28 14) (hL.N 28 512) (by omega) (by omega) (fun f121 => ?_)
      refine zr_iconst (v := nI 1) dX10_copyEntry_122 (by decide) ?_
      refine zr_iload dX10_copyEntry_123 rfl ?_
      refine zr_bipush (v := nI 8) dX10_copyEntry_125 (by decide) ?_
      refine zr_iremN dX10_copyEntry_127 (by omega) (by omega) (by omega) ?_
      refine zr_ishl dX10_copyEntry_128 ?_
      refine zr_i2b dX10_copyEntry_129 ?_
      refine zr_ior dX10_copyEntry_130 ?_
      refine zr_i2b dX10_copyEntry_131 ?_
      refine zr_bastN dX10_copyEntry_132 (hL.K 28 14) (hL.N 28 512) (by omega) (by omega) ?_
      refine zr_iload dX10_copyEntry_133 rfl ?_
      refine zr_iload dX10_copyEntry_135 rfl ?_
      refine zr_iadd dX10_copyEntry_137 ?_
      refine zr_istore (lv' := [some (.ref ((ad 26))), some (.int (nI x)), some (.int (nI L)), some (.int (nI to)), some (.int (((prb h i) + (srd h)))), some (.int ((srd h))), some (.int (nI i)), some (.int (nI (plc (prb h i))))]) dX10_copyEntry_138 (Nat.le_of_ble_eq_true rfl) (Nat.le_of_ble_eq_true rfl) rfl rfl ?_
      refine zr_iincN (n := 1) (lv' := [some (.ref ((ad 26))), some (.int (nI x)), some (.int (nI L)), some (.int (nI to)), some (.int (((prb h i) + (srd h)))), some (.int ((srd h))), some (.int (nI (i + 1))), some (.int (nI (plc (prb h i))))]) dX10_copyEntry_140 (Nat.le_of_ble_eq_true rfl) (Nat.le_of_ble_eq_true rfl) rfl rfl rfl ?_
      refine zr_goto 97 dX10_copyEntry_143 (by decide) ?_
      refine zr_drop 7 rfl ?_
      rw [zsetA_setA, zsetA_hit]
      exact ih _ (by omega) (i + 1) (upd g (plc (prb h i) / 8) (fby (g (plc (prb h i) / 8)) (prb h i))) rfl (by omega) (fun y hy => (fbit_set g (prb h i)).2 y (hm1 y hy)) (fun x hx => (Nat.lt_or_ge x i).elim (fun z => (fbit_set g (prb h i)).2 _ (hm2 x z)) (fun z => by rw [show x = i by omega]; exact (fbit_set g (prb h i)).1))
set_option maxRecDepth 100000 in
set_option maxHeartbeats 4000000 in
theorem c_Writer_copyEntry {G : zG} {ad : Nat → Nat} {d x f0 : Nat} {M : zM} (hd : 2 ≤ d) (hcb : zC M ≤ 600128 ∧ zS M ≤ 7301098) (hL : Lay ad M) (hx : x < 303096) (hxe : x + eln (zA M (ad 2)) x ≤ 303104) (hf : zI M 327 (ad 26) = nI (f0 + eln (zA M (ad 2)) x)) (hf2 : f0 + eln (zA M (ad 2)) x ≤ 512)  : zMet G mX10_copyEntry d [.ref ((ad 26)), .int (nI x)] M (fun o M' => o = .inl none ∧ ∃ g : Nat → Int32, M' = zsetA (zsetA M (ad 27) (va_cpy (zA M (ad 2)) (zA M (ad 27)) x f0 (eln (zA M (ad 2)) x))) (ad 28) g ∧ (∀ y, fbit (zA M (ad 28)) 0 y → fbit g 0 y) ∧ Fil g 0 (eky (zA M (ad 2)) x)) := by
  refine zMet_of (by decide +kernel) (Nat.le_of_ble_eq_true rfl) rfl hcb ?_
  show zw G mX10_copyEntry d _ _ _ 0 [some (.ref ((ad 26))), some (.int (nI x)), none, none, none, none, none, none] [] M
  have hel : 8 ≤ eln (zA M (ad 2)) x := by unfold eln; omega
  refine zr_aload_n dX10_copyEntry_0 rfl ?_
  refine zr_getR dX10_copyEntry_1 lkX10_24 (by decide) (by decide) rfl (hL.K 26 11) (hL.R 320 26 1) ?_
  refine zr_iload_n dX10_copyEntry_4 rfl ?_
  refine zr_callV (md' := mX1_entryLength) (As := [.int (nI x)]) dX10_copyEntry_5 mlX10_42 okX1_entryLength rfl inX1_entryLength slX1_entryLength (by decide) (hL.K 1 2) rfl (by omega) (Nat.le_of_ble_eq_true rfl) hcb (c_Disk_entryLength (d := d - 1) hcb (Lay.dk hL) (by omega)) (fun k M1 h => by cases h.1) (fun v M1 hq => ?_)
  obtain ⟨e0, e1⟩ := hq
  cases e0
  rw [e1]
  refine zr_istore_n (lv' := [some (.ref ((ad 26))), some (.int (nI x)), some (.int (nI (eln (zA M (ad 2)) x))), none, none, none, none, none]) dX10_copyEntry_8 (Nat.le_of_ble_eq_true rfl) (Nat.le_of_ble_eq_true rfl) rfl rfl ?_
  refine zr_aload_n dX10_copyEntry_9 rfl ?_
  refine zr_getI dX10_copyEntry_10 lkX10_32 (by decide) (by decide) rfl (hL.K 26 11) ?_
  refine zr_as (y := (nI (f0 + eln (zA M (ad 2)) x))) hf ?_
  refine zr_iload_n dX10_copyEntry_13 rfl ?_
  refine zr_isubN dX10_copyEntry_14 (by omega) ?_
  rw [Nat.add_sub_cancel]
  refine zr_istore_n (lv' := [some (.ref ((ad 26))), some (.int (nI x)), some (.int (nI (eln (zA M (ad 2)) x))), some (.int (nI f0)), none, none, none, none]) dX10_copyEntry_15 (Nat.le_of_ble_eq_true rfl) (Nat.le_of_ble_eq_true rfl) rfl rfl ?_
  refine zr_iload_n dX10_copyEntry_16 rfl ?_
  refine zr_if_ltN 41 dX10_copyEntry_17 (by decide) (by omega) ?_
  refine zr_iload_n dX10_copyEntry_20 rfl ?_
  refine zr_ldc dX10_copyEntry_21 ctX10_98 ?_
  refine zr_as (y := nI 303104) (by decide) ?_
  refine zr_iload_n dX10_copyEntry_23 rfl ?_
  refine zr_isubN dX10_copyEntry_24 (by omega) ?_
  refine zr_icmp_gtN 41 dX10_copyEntry_25 (by decide) (by omega) (by omega) (fun h25 => ?_) (fun h25 => ?_)
  · exfalso; omega
  · refine zr_iload_n dX10_copyEntry_28 rfl ?_
    refine zr_if_ltN 41 dX10_copyEntry_29 (by decide) (by omega) ?_
    refine zr_iload_n dX10_copyEntry_32 rfl ?_
    refine zr_sipush (v := nI 512) dX10_copyEntry_33 (by decide) ?_
    refine zr_iload_n dX10_copyEntry_36 rfl ?_
    refine zr_isubN dX10_copyEntry_37 (by omega) ?_
    refine zr_icmp_leN 42 dX10_copyEntry_38 (by decide) (by omega) (by omega) (fun h38 => ?_) (fun h38 => ?_)
    · refine zr_aload_n dX10_copyEntry_42 rfl ?_
      refine zr_getR dX10_copyEntry_43 lkX10_24 (by decide) (by decide) rfl (hL.K 26 11) (hL.R 320 26 1) ?_
      refine zr_getR dX10_copyEntry_46 lkX10_99 (by decide) (by decide) rfl (hL.K 1 2) (hL.R 32 1 2) ?_
      refine zr_iload_n dX10_copyEntry_49 rfl ?_
      refine zr_aload_n dX10_copyEntry_50 rfl ?_
      refine zr_getR dX10_copyEntry_51 lkX10_9 (by decide) (by decide) rfl (hL.K 26 11) (hL.R 322 26 27) ?_
      refine zr_iload_n dX10_copyEntry_54 rfl ?_
      refine zr_iload_n dX10_copyEntry_55 rfl ?_
      refine zr_copyN dX10_copyEntry_56 mlX10_102 (Or.inl ⟨(hL.K 2 14), (hL.K 27 14)⟩) (hL.N 2 304128) (hL.N 27 512) (by omega) (by omega) (by omega) (by omega) (by omega) (Nat.le_of_ble_eq_true rfl) ?_
      refine zr_aload_n dX10_copyEntry_59 rfl ?_
      refine zr_getR dX10_copyEntry_60 lkX10_24 (by decide) (by decide) rfl (hL.K 26 11) (hL.R 320 26 1) ?_
      refine zr_getR dX10_copyEntry_63 lkX10_99 (by decide) (by decide) rfl (hL.K 1 2) (hL.R 32 1 2) ?_
      refine zr_iload_n dX10_copyEntry_66 rfl ?_
      refine zr_bipush (v := nI 8) dX10_copyEntry_67 (by decide) ?_
      refine zr_iaddN dX10_copyEntry_69 ?_
      refine zr_aload_n dX10_copyEntry_70 rfl ?_
      refine zr_getR dX10_copyEntry_71 lkX10_9 (by decide) (by decide) rfl (hL.K 26 11) (hL.R 322 26 27) ?_
      refine zr_iload_n dX10_copyEntry_74 rfl ?_
      refine zr_iconst (v := nI 1) dX10_copyEntry_75 (by decide) ?_
      refine zr_iaddN dX10_copyEntry_76 ?_
      refine zr_baldN dX10_copyEntry_77 (hL.K 27 14) (hL.N 27 512) (by omega) (by omega) (fun f77 => ?_)
      refine zr_sipush (v := nI 255) dX10_copyEntry_78 (by decide) ?_
      refine zr_iand255 dX10_copyEntry_81 ?_
      refine zr_as (y := nI (ekl (zA M (ad 2)) x)) (by rw [show zA (zsetA M (ad 27) (va_cpy (zA M (ad 2)) (zA M (ad 27)) x f0 (eln (zA M (ad 2)) x))) (ad 27) (f0 + 1) = (zA M (ad 2)) (x + 1) from by rw [zsetA_hit, pk_cpy_in (by omega) (by unfold eln; omega)]; congr 1; omega]; rfl) ?_
      refine zr_callS (md' := mX8_hash) (As := [.ref ((ad 2)), .int (nI (x + 8)), .int (nI (ekl (zA M (ad 2)) x))]) dX10_copyEntry_82 mlX10_108 okX8_hash rfl stX8_hash rfl (by omega) (Nat.le_of_ble_eq_true rfl) hcb (c_Table_hash (d := d - 1) (M := (zsetA M (ad 27) (va_cpy (zA M (ad 2)) (zA M (ad 27)) x f0 (eln (zA M (ad 2)) x)))) (by omega) hcb (hL.K 2 14) (hL.N 2 304128) (by decide) (by have := hxe; unfold eln at this; omega)) (fun k M1 h => by cases h.1) (fun v M1 hq => ?_)
      obtain ⟨e0, e1⟩ := hq
      cases e0
      rw [e1]
      rw [show rwl (fun i => zA (zsetA M (ad 27) (va_cpy (zA M (ad 2)) (zA M (ad 27)) x f0 (eln (zA M (ad 2)) x))) (ad 2) (x + 8 + i)) (ekl (zA M (ad 2)) x) = eky (zA M (ad 2)) x from by rw [(zsetA_ms (M := M) (hL.ne (by decide)) rfl)]; rfl]
      refine zr_istore (lv' := [some (.ref ((ad 26))), some (.int (nI x)), some (.int (nI (eln (zA M (ad 2)) x))), some (.int (nI f0)), some (.int ((hsh (eky (zA M (ad 2)) x)))), none, none, none]) dX10_copyEntry_85 (Nat.le_of_ble_eq_true rfl) (Nat.le_of_ble_eq_true rfl) rfl rfl ?_
      refine zr_iload dX10_copyEntry_87 rfl ?_
      refine zr_callS (md' := mX8_strideOf) (As := [.int ((hsh (eky (zA M (ad 2)) x)))]) dX10_copyEntry_89 mlX10_112 okX8_strideOf rfl stX8_strideOf rfl (by omega) (Nat.le_of_ble_eq_true rfl) hcb (c_Table_strideOf (d := d - 1) hcb) (fun k M1 h => by cases h.1) (fun v M1 hq => ?_)
      obtain ⟨e0, e1⟩ := hq
      cases e0
      rw [e1]
      refine zr_istore (lv' := [some (.ref ((ad 26))), some (.int (nI x)), some (.int (nI (eln (zA M (ad 2)) x))), some (.int (nI f0)), some (.int ((hsh (eky (zA M (ad 2)) x)))), some (.int ((srd (hsh (eky (zA M (ad 2)) x))))), none, none]) dX10_copyEntry_92 (Nat.le_of_ble_eq_true rfl) (Nat.le_of_ble_eq_true rfl) rfl rfl ?_
      refine zr_iconst (v := nI 0) dX10_copyEntry_94 (by decide) ?_
      refine zr_istore (lv' := [some (.ref ((ad 26))), some (.int (nI x)), some (.int (nI (eln (zA M (ad 2)) x))), some (.int (nI f0)), some (.int ((hsh (eky (zA M (ad 2)) x)))), some (.int ((srd (hsh (eky (zA M (ad 2)) x))))), some (.int (nI 0)), none]) dX10_copyEntry_95 (Nat.le_of_ble_eq_true rfl) (Nat.le_of_ble_eq_true rfl) rfl rfl ?_
      refine zr_asM (M' := zsetA (zsetA M (ad 27) (va_cpy (zA M (ad 2)) (zA M (ad 27)) x f0 (eln (zA M (ad 2)) x))) (ad 28) (zA M (ad 28))) (zsetA_self (zsetA_ms (M := M) (hL.ne (by decide)) rfl)).symm ?_
      exact l_Writer_copy (g0 := zA M (ad 28)) (M := (zsetA M (ad 27) (va_cpy (zA M (ad 2)) (zA M (ad 27)) x f0 (eln (zA M (ad 2)) x)))) hL (fun g h1 h2 => ⟨rfl, g, rfl, h1, h2⟩) _ 0 _ rfl (by omega) (fun y hy => hy) (fun x hx => by omega)
    · exfalso; omega
set_option maxRecDepth 100000 in
set_option maxHeartbeats 4000000 in
theorem c_Writer_current {G : zG} {ad : Nat → Nat} {d n j : Nat} {M : zM} (hcb : zC M ≤ 600128 ∧ zS M ≤ 7301098) (hL : Lay ad M) (hn : zI M 325 (ad 26) = nI n) (hn1 : 1 ≤ n) (hn2 : n ≤ 256) (hm : zB M (ad 29) (n - 1) = some (ad (tA j))) (hj : j < 256)  : zMet G mX10_current d [.ref ((ad 26))] M (fun o M' => o = .inl (some (.ref (ad (tA j)))) ∧ M' = M) := by
  refine zMet_of (by decide +kernel) (Nat.le_of_ble_eq_true rfl) rfl hcb ?_
  show zw G mX10_current d _ _ _ 0 [some (.ref ((ad 26)))] [] M
  refine zr_aload_n dX10_current_0 rfl ?_
  refine zr_getI dX10_current_1 lkX10_74 (by decide) (by decide) rfl (hL.K 26 11) ?_
  refine zr_as (y := (nI n)) hn ?_
  refine zr_if_leN 31 dX10_current_4 (by decide) (by omega) (fun h4 => ?_) (fun h4 => ?_)
  · refine zr_null dX10_current_31 ?_
    refine zr_aret dX10_current_32 rfl (Or.inl ⟨_, rfl⟩) (Or.inl rfl) ?_
    exfalso; omega
  · refine zr_aload_n dX10_current_7 rfl ?_
    refine zr_getI dX10_current_8 lkX10_74 (by decide) (by decide) rfl (hL.K 26 11) ?_
    refine zr_as (y := (nI n)) hn ?_
    refine zr_sipush (v := nI 256) dX10_current_11 (by decide) ?_
    refine zr_icmp_gtN 31 dX10_current_14 (by decide) (by omega) (by omega) (fun h14 => ?_) (fun h14 => ?_)
    · refine zr_null dX10_current_31 ?_
      refine zr_aret dX10_current_32 rfl (Or.inl ⟨_, rfl⟩) (Or.inl rfl) ?_
      exfalso; omega
    · refine zr_aload_n dX10_current_17 rfl ?_
      refine zr_getR dX10_current_18 lkX10_20 (by decide) (by decide) rfl (hL.K 26 11) (hL.R 324 26 29) ?_
      refine zr_aload_n dX10_current_21 rfl ?_
      refine zr_getI dX10_current_22 lkX10_74 (by decide) (by decide) rfl (hL.K 26 11) ?_
      refine zr_as (y := (nI n)) hn ?_
      refine zr_iconst (v := nI 1) dX10_current_25 (by decide) ?_
      refine zr_isubN dX10_current_26 (by omega) ?_
      refine zr_aaldK dX10_current_27 (Or.inr (hL.K 29 19)) (hL.N 29 256) (by omega) (by omega) hm ?_
      refine zr_goto 32 dX10_current_28 (by decide) ?_
      refine zr_aret dX10_current_32 rfl (Or.inl ⟨_, rfl⟩) (Or.inr ⟨_, rfl⟩) ?_
      exact ⟨rfl, rfl⟩
set_option maxRecDepth 100000 in
set_option maxHeartbeats 4000000 in
theorem c_Writer_closeTable {G : zG} {ad : Nat → Nat} {d n j b : Nat} {bl ps : List Nat} {la : Option Nat} {M : zM} (hd : 3 ≤ d) (hcb : zC M ≤ 600128 ∧ zS M ≤ 7301098) (hL : Lay ad M) (hn : zI M 325 (ad 26) = nI n) (hn1 : 1 ≤ n) (hn2 : n ≤ 256) (hm : zB M (ad 29) (n - 1) = some (ad (tA j))) (hj : j < 256) (hT : Tb ad M j bl la) (hbr : Br bl) (hb2 : 2 ≤ bl.length) (hb : bl[bl.length - 2]? = some b) (hch : Cb (zA M (ad 2)) (b * 512) ps) (hin : ∀ q ∈ b * 512 :: ps, q < 303096) (hl9 : 0 + ps.length < 511)  : zMet G mX10_closeTable d [.ref ((ad 26))] M (fun o M' => o = .inl none ∧ M' = zput M 259 (ad (tA j)) (nI ((b * 512 :: ps).getLast (List.cons_ne_nil _ _)))) := by
  refine zMet_of (by decide +kernel) (Nat.le_of_ble_eq_true rfl) rfl hcb ?_
  show zw G mX10_closeTable d _ _ _ 0 [some (.ref ((ad 26))), none] [] M
  refine zr_aload_n dX10_closeTable_0 rfl ?_
  refine zr_callV (md' := mX10_current) (As := []) dX10_closeTable_1 mlX10_115 okX10_current rfl inX10_current slX10_current (by decide) (hL.K 26 11) rfl (by omega) (Nat.le_of_ble_eq_true rfl) hcb (c_Writer_current (d := d - 1) hcb hL hn hn1 hn2 hm hj) (fun k M1 h => by cases h.1) (fun v M1 hq => ?_)
  obtain ⟨e0, e1⟩ := hq
  cases e0
  rw [e1]
  refine zr_astore_n (lv' := [some (.ref ((ad 26))), some (.ref ((ad (tA j))))]) dX10_closeTable_4 (Nat.le_of_ble_eq_true rfl) (Nat.le_of_ble_eq_true rfl) rfl rfl ?_
  refine zr_aload_n dX10_closeTable_5 rfl ?_
  refine zr_ifnull dX10_closeTable_6 ?_
  refine zr_aload_n dX10_closeTable_9 rfl ?_
  refine zr_callV (md' := mX8_close) (As := []) dX10_closeTable_10 mlX10_118 okX8_close rfl inX8_close slX8_close (by decide) (hL.Kt (by omega)) rfl (by omega) (Nat.le_of_ble_eq_true rfl) hcb (c_Table_close (d := d - 1) (by omega) hcb hL (by omega) hT hbr hb2 hb hch hin hl9) (fun k M1 h => by cases h.1) (fun v M1 hq => ?_)
  obtain ⟨e0, e1⟩ := hq
  cases e0
  rw [e1]
  refine zr_vret dX10_closeTable_13 rfl ?_
  exact ⟨rfl, rfl⟩
/-- a block is the table's next -/
def woM (ad : Nat → Nat) (M : zM) (j : Nat) (bl : List Nat) (b n : Nat) : zM := zput (zsetA (tbM ad M b n) (ad (tB j)) (upd (zA M (ad (tB j))) bl.length (nI b))) 258 (ad (tA j)) (nI (bl.length + 1))
theorem tbM_A {ad : Nat → Nat} {M : zM} (hL : Lay ad M) (b n : Nat) {i : Nat} (h : i ≠ 18) (hi : i < 582) : zA (tbM ad M b n) (ad i) = zA M (ad i) := zsetA_ms (M := zput M 71 (ad 17) (nI (b - 80 + 1))) (hL.ne h) rfl
theorem Tb.tb {ad : Nat → Nat} {M : zM} {j b n : Nat} {bl : List Nat} {la : Option Nat} (hL : Lay ad M) (h : Tb ad M j bl la) (hj : j < 259) : Tb ad (tbM ad M b n) j bl la := h.fl (tbM_fl hL b n) hj
theorem Pw.fl {ad : Nat → Nat} {c : Nat} {LF LA LB : List Nat} {M M1 : zM} {on wh lf ct du cn : Nat} (h : Pw ad M on wh lf ct du cn) (hF : Fl ad c LF LA LB M M1) (h1 : 34 ∉ LF := by decide) (h2 : 35 ∉ LF := by decide) (h3 : 36 ∉ LF := by decide) (h4 : 37 ∉ LF := by decide) (h5 : 38 ∉ LF := by decide) (h6 : 39 ∉ LF := by decide) : Pw ad M1 on wh lf ct du cn := ⟨(hF.rI h1 (by decide)).trans h.1, (hF.rI h2 (by decide)).trans h.2.1, (hF.rI h3 (by decide)).trans h.2.2.1, (hF.rI h4 (by decide)).trans h.2.2.2.1, (hF.rI h5 (by decide)).trans h.2.2.2.2.1, (hF.rI h6 (by decide)).trans h.2.2.2.2.2.1, h.2.2.2.2.2.2⟩
theorem woM_fl {ad : Nat → Nat} {M : zM} (hL : Lay ad M) {j : Nat} (hj : j < 256) (bl : List Nat) (b n : Nat) : Fl ad 0 [69, 71, 258] [18, 64] [] M (woM ad M j bl b n) := (((tbM_fl hL b n).mono).setA hL (i := tB j) (by unfold tB; rw [Nat.min_eq_right (by omega)]; decide) (by unfold tB; omega)).put hL (f := 258) (i := tA j) (by decide) (by unfold tA; omega)
set_option maxRecDepth 100000 in
set_option maxHeartbeats 4000000 in
theorem c_Writer_writeOut {G : zG} {ad : Nat → Nat} {d n j q nx on wh lf ct du cn : Nat} {bl tk : List Nat} {la : Option Nat} {M : zM} (hd : 7 ≤ d) (hcb : zC M ≤ 600128 ∧ zS M ≤ 7301098) (hcx : zC M + 1 ≤ 600128 ∧ zS M + 6 ≤ 7301098) (hL : Lay ad M) (hn : zI M 325 (ad 26) = nI n) (hn1 : 1 ≤ n) (hn2 : n ≤ 256) (hm : zB M (ad 29) (n - 1) = some (ad (tA j))) (hj : j < 256) (hTk : Tk ad M tk) (htl : tk.length < 512) (hnx : zI M 71 (ad 17) = nI nx) (hn9 : nx ≤ 512) (hT : Tb ad M j bl la) (hbl : bl.length < 9) (hP : Pw ad M on wh lf ct du cn) (hq14 : q < 582 ∧ kd q = 14 ∧ 14 ≠ 0) (hq512 : q < 582 ∧ 14 ≤ kd q ∧ ln q = 512)  : zMet G mX10_writeOut d [.ref ((ad 26)), .ref ((ad q))] M (fun o M' => (∃ b lf' cn' : Nat, b ∉ tk ∧ 80 ≤ b ∧ b < 592 ∧ (cn = 1 → 0 < lf) ∧ lf' ≤ lf ∧ cn' ≤ 1 ∧ (cn' = 1 ↔ cn = 1) ∧ o = .inl none ∧ M' = wOk ad (woM ad M j bl b (512 - tk.length - 1)) (ad q) 0 (b * 512) 512 lf' cn') ∨ (∃ b r : Nat, b ∉ tk ∧ 80 ≤ b ∧ b < 592 ∧ r ≤ 512 ∧ cn = 1 ∧ o = .inr 2 ∧ M' = wCut ad (woM ad M j bl b (512 - tk.length - 1)) (ad q) 0 (b * 512) r)) := by
  refine zMet_of (by decide +kernel) (Nat.le_of_ble_eq_true rfl) rfl hcb ?_
  show zw G mX10_writeOut d _ _ _ 0 [some (.ref ((ad 26))), some (.ref ((ad q))), none, none] [] M
  refine zr_aload_n dX10_writeOut_0 rfl ?_
  refine zr_callV (md' := mX10_current) (As := []) dX10_writeOut_1 mlX10_115 okX10_current rfl inX10_current slX10_current (by decide) (hL.K 26 11) rfl (by omega) (Nat.le_of_ble_eq_true rfl) hcb (c_Writer_current (d := d - 1) hcb hL hn hn1 hn2 hm hj) (fun k M1 h => by cases h.1) (fun v M1 hq => ?_)
  obtain ⟨e0, e1⟩ := hq
  cases e0
  rw [e1]
  refine zr_astore_n (lv' := [some (.ref ((ad 26))), some (.ref ((ad q))), some (.ref ((ad (tA j)))), none]) dX10_writeOut_4 (Nat.le_of_ble_eq_true rfl) (Nat.le_of_ble_eq_true rfl) rfl rfl ?_
  refine zr_aload_n dX10_writeOut_5 rfl ?_
  refine zr_getR dX10_writeOut_6 lkX10_28 (by decide) (by decide) rfl (hL.K 26 11) (hL.R 321 26 17) ?_
  refine zr_callV (md' := mX2_takeBlock) (As := []) dX10_writeOut_9 mlX10_121 okX2_takeBlock rfl inX2_takeBlock slX2_takeBlock (by decide) (hL.K 17 3) rfl (by omega) (Nat.le_of_ble_eq_true rfl) hcb (c_Files_takeBlock (d := d - 1) (by omega) hcb hL hTk htl hnx hn9) (fun k M1 h => by obtain ⟨b, h, -⟩ := h; cases h) (fun v M1 hq => ?_)
  obtain ⟨b, e0, hb1, hb2, hb3, e1⟩ := hq
  cases e0
  rw [e1]
  refine zr_istore_n (lv' := [some (.ref ((ad 26))), some (.ref ((ad q))), some (.ref ((ad (tA j)))), some (.int (nI b))]) dX10_writeOut_12 (Nat.le_of_ble_eq_true rfl) (Nat.le_of_ble_eq_true rfl) rfl rfl ?_
  refine zr_aload_n dX10_writeOut_13 rfl ?_
  refine zr_ifnull dX10_writeOut_14 ?_
  refine zr_iload_n dX10_writeOut_17 rfl ?_
  refine zr_iconst (v := -1) dX10_writeOut_18 (by decide) ?_
  refine zr_icmp_eqM 45 dX10_writeOut_19 (by decide) (by omega) ?_
  refine zr_aload_n dX10_writeOut_22 rfl ?_
  refine zr_iload_n dX10_writeOut_23 rfl ?_
  refine zr_callV (md' := mX8_addBlock) (As := [.int (nI b)]) dX10_writeOut_24 mlX10_125 okX8_addBlock rfl inX8_addBlock slX8_addBlock (by decide) (hL.Kt (by omega)) rfl (by omega) (Nat.le_of_ble_eq_true rfl) hcb (c_Table_addBlock (d := d - 1) (M := tbM ad M b (512 - tk.length - 1)) hcb hL (by omega) (hT.tb hL (by omega)) hbl) (fun k M1 h => by cases h.1) (fun v M1 hq => ?_)
  obtain ⟨e0, e1⟩ := hq
  cases e0
  rw [e1, tbM_A hL _ _ (by unfold tB; omega) (by unfold tB; omega)]
  refine zr_aload_n dX10_writeOut_27 rfl ?_
  refine zr_getR dX10_writeOut_28 lkX10_24 (by decide) (by decide) rfl (hL.K 26 11) (hL.R 320 26 1) ?_
  refine zr_iload_n dX10_writeOut_31 rfl ?_
  refine zr_sipush (v := nI 512) dX10_writeOut_32 (by decide) ?_
  refine zr_imulN dX10_writeOut_35 ?_
  refine zr_aload_n dX10_writeOut_36 rfl ?_
  refine zr_iconst (v := nI 0) dX10_writeOut_37 (by decide) ?_
  refine zr_sipush (v := nI 512) dX10_writeOut_38 (by decide) ?_
  refine zr_iconst (v := nI 0) dX10_writeOut_41 (by decide) ?_
  refine zr_callV (md' := mX1_write) (As := [.int (nI (b * 512)), .ref ((ad q)), .int (nI 0), .int (nI 512), .int (nI 0)]) dX10_writeOut_42 mlX10_128 okX1_write rfl inX1_write slX1_write (by decide) (hL.K 1 2) rfl (by omega) (Nat.le_of_ble_eq_true rfl) hcb (c_Disk_write (d := d - 1) (M := woM ad M j bl b (512 - tk.length - 1)) (by omega) hcb hcx hL (hP.fl (woM_fl hL hj _ _ _)) (hL.K q 14 hq14) (hL.N q 512 hq512) (by decide) (by decide) (by decide) (by decide) (by omega)) (fun k M1 h => zt_out rfl (by rcases h with ⟨_, _, _, _, _, _, _, h, _⟩ | ⟨r, h1, h2, h3, h4⟩; exact absurd h (by simp); cases h3; exact Or.inr ⟨b, r, hb1, hb2, hb3, h1, h2.elim (fun z => absurd z.2.1 (by decide)) id, rfl, h4⟩)) (fun v M1 hq => ?_)
  rcases hq with ⟨lf1, cn1, h1, h2, h3, h4, h5, e0, e1⟩ | ⟨r, h1, h2, e0, e1⟩
  rotate_left
  · cases e0
  cases e0
  refine zr_vret dX10_writeOut_45 rfl ?_
  exact Or.inl ⟨b, lf1, cn1, hb1, hb2, hb3, h2, h3, h4, by rw [h5]; simp, rfl, e1⟩
