/-! ===== isBefore; the power: plan, enter, leave, write, erase ===== -/
set_option maxRecDepth 100000 in
set_option maxHeartbeats 4000000 in
theorem l_Disk_isBefore {G : zG} {d k0 n0 a b p v r rc len cap : Nat} {M : zM} {Q : zOut → zM → Prop} (hd : 1 ≤ d) (hcb : zC M ≤ 600128 ∧ zS M ≤ 7301098) (hv : zDk M a b) (hw : zRw M r rc len cap) (hp : p < 303096) (hcm : ecm (zA M b) p < 2 ^ 31) (hvb : v < 2 ^ 31) (hq : ∀ t : Nat, t ≤ 1 → (t = 1 ↔ bef (zA M b) p (rwl (zA M rc) len) v) → Q (.inl (some (.int (nI t)))) M) : ∀ (m i : Nat) , min (ekl (zA M b) p) (min len cap) - i = m → i ≤ min (ekl (zA M b) p) (min len cap) → (∀ j, j < i → zb (zA M b (p + 8 + j)) = zb (zA M rc j)) → zw G mX1_isBefore d k0 n0 Q 48 [some (.ref a), some (.int (nI p)), some (.ref r), some (.int (nI v)), some (.int (nI (ekl (zA M b) p))), some (.int (nI (min (ekl (zA M b) p) (min len cap)))), some (.int (nI i)), none] [] M := by
  intro m
  induction m using Nat.strongRecOn with
  | _ m ih =>
    intro i hm hi heq
    obtain ⟨hK, hR, hKb, hNb⟩ := id hv
    obtain ⟨gK, gR, gKb, gNb, gI, gl, gc⟩ := id hw
    have hkl2 : ekl (zA M b) p < 256 := zb_lt _
    refine zr_iload dX1_isBefore_48 rfl ?_
    refine zr_iload dX1_isBefore_50 rfl ?_
    refine zr_icmp_geN 107 dX1_isBefore_52 (by decide) (by omega) (by omega) (fun h52 => ?_) (fun h52 => ?_)
    · refine zr_iload dX1_isBefore_107 rfl ?_
      refine zr_aload_n dX1_isBefore_109 rfl ?_
      refine zr_getI dX1_isBefore_110 lkX1_78 (by decide) (by decide) rfl gK ?_
      refine zr_as (y := (nI len)) gI ?_
      refine zr_icmp_ltN 137 dX1_isBefore_113 (by decide) (by omega) (by omega) (fun h113 => ?_) (fun h113 => ?_)
      · refine zr_iconst (v := nI 1) dX1_isBefore_137 (by decide) ?_
        refine zr_goto 142 dX1_isBefore_138 (by decide) ?_
        refine zr_zret dX1_isBefore_142 rfl (Or.inr rfl) ?_
        have hE := bef_end (n := len) (v := v) (fun j h1 h2 => heq j (by omega))
        first
          | (refine hq 1 (by decide) ⟨fun _ => hE.mpr (by unfold ecm; omega), fun _ => rfl⟩)
          | (refine hq 0 (by decide) ⟨fun z => absurd z (by decide), fun z => absurd (hE.mp z) (by unfold ecm; omega)⟩)
      · refine zr_iload dX1_isBefore_116 rfl ?_
        refine zr_aload_n dX1_isBefore_118 rfl ?_
        refine zr_getI dX1_isBefore_119 lkX1_78 (by decide) (by decide) rfl gK ?_
        refine zr_as (y := (nI len)) gI ?_
        refine zr_icmp_neN 141 dX1_isBefore_122 (by decide) (by omega) (by omega) (fun h122 => ?_) (fun h122 => ?_)
        · refine zr_iconst (v := nI 0) dX1_isBefore_141 (by decide) ?_
          refine zr_zret dX1_isBefore_142 rfl (Or.inl rfl) ?_
          have hE := bef_end (n := len) (v := v) (fun j h1 h2 => heq j (by omega))
          first
            | (refine hq 1 (by decide) ⟨fun _ => hE.mpr (by unfold ecm; omega), fun _ => rfl⟩)
            | (refine hq 0 (by decide) ⟨fun z => absurd z (by decide), fun z => absurd (hE.mp z) (by unfold ecm; omega)⟩)
        · refine zr_aload_n dX1_isBefore_125 rfl ?_
          refine zr_iload_n dX1_isBefore_126 rfl ?_
          refine zr_iconst (v := nI 4) dX1_isBefore_127 (by decide) ?_
          refine zr_iaddN dX1_isBefore_128 ?_
          refine zr_iconst (v := nI 4) dX1_isBefore_129 (by decide) ?_
          refine zr_callV (md' := mX1_number) (As := [.int (nI (p + 4)), .int (nI 4)]) dX1_isBefore_130 mlX1_75 okX1_number rfl inX1_number slX1_number (by decide) hK rfl (by omega) (Nat.le_of_ble_eq_true rfl) hcb (c_Disk_number (d := d - 1) hcb hv (by omega) (by decide) hcm) (fun k M1 h => by cases h.1) (fun v M1 hq => ?_)
          obtain ⟨e0, e1⟩ := hq
          cases e0
          rw [e1]
          refine zr_iload_n dX1_isBefore_133 rfl ?_
          refine zr_icmp_leN 141 dX1_isBefore_134 (by decide) hcm hvb (fun h134 => ?_) (fun h134 => ?_)
          · refine zr_iconst (v := nI 0) dX1_isBefore_141 (by decide) ?_
            refine zr_zret dX1_isBefore_142 rfl (Or.inl rfl) ?_
            have hE := bef_end (n := len) (v := v) (fun j h1 h2 => heq j (by omega))
            first
              | (refine hq 1 (by decide) ⟨fun _ => hE.mpr (by unfold ecm; omega), fun _ => rfl⟩)
              | (refine hq 0 (by decide) ⟨fun z => absurd z (by decide), fun z => absurd (hE.mp z) (by unfold ecm; omega)⟩)
          · refine zr_iconst (v := nI 1) dX1_isBefore_137 (by decide) ?_
            refine zr_goto 142 dX1_isBefore_138 (by decide) ?_
            refine zr_zret dX1_isBefore_142 rfl (Or.inr rfl) ?_
            have hE := bef_end (n := len) (v := v) (fun j h1 h2 => heq j (by omega))
            first
              | (refine hq 1 (by decide) ⟨fun _ => hE.mpr (by unfold ecm; omega), fun _ => rfl⟩)
              | (refine hq 0 (by decide) ⟨fun z => absurd z (by decide), fun z => absurd (hE.mp z) (by unfold ecm; omega)⟩)
    · refine zr_aload_n dX1_isBefore_55 rfl ?_
      refine zr_getR dX1_isBefore_56 lkX1_10 (by decide) (by decide) rfl hK hR ?_
      refine zr_iload_n dX1_isBefore_59 rfl ?_
      refine zr_bipush (v := nI 8) dX1_isBefore_60 (by decide) ?_
      refine zr_iaddN dX1_isBefore_62 ?_
      refine zr_iload dX1_isBefore_63 rfl ?_
      refine zr_iaddN dX1_isBefore_65 ?_
      refine zr_baldN dX1_isBefore_66 hKb hNb (by omega) (by omega) (fun f66 => ?_)
      refine zr_sipush (v := nI 255) dX1_isBefore_67 (by decide) ?_
      refine zr_iand255 dX1_isBefore_70 ?_
      refine zr_aload_n dX1_isBefore_71 rfl ?_
      refine zr_getR dX1_isBefore_72 lkX1_81 (by decide) (by decide) rfl gK gR ?_
      refine zr_iload dX1_isBefore_75 rfl ?_
      refine zr_baldN dX1_isBefore_77 gKb gNb (by omega) (by omega) (fun f77 => ?_)
      refine zr_sipush (v := nI 255) dX1_isBefore_78 (by decide) ?_
      refine zr_iand255 dX1_isBefore_81 ?_
      refine zr_isub dX1_isBefore_82 ?_
      refine zr_istore (lv' := [some (.ref a), some (.int (nI p)), some (.ref r), some (.int (nI v)), some (.int (nI (ekl (zA M b) p))), some (.int (nI (min (ekl (zA M b) p) (min len cap)))), some (.int (nI i)), some (.int (((nI (zb (zA M b ((p + 8) + i)))) - (nI (zb (zA M rc i))))))]) dX1_isBefore_83 (Nat.le_of_ble_eq_true rfl) (Nat.le_of_ble_eq_true rfl) rfl rfl ?_
      refine zr_iload dX1_isBefore_85 rfl ?_
      refine zr_if_eq 101 dX1_isBefore_87 (by decide) (fun h87 => ?_) (fun h87 => ?_)
      · refine zr_iincN (n := 1) (lv' := [some (.ref a), some (.int (nI p)), some (.ref r), some (.int (nI v)), some (.int (nI (ekl (zA M b) p))), some (.int (nI (min (ekl (zA M b) p) (min len cap)))), some (.int (nI (i + 1))), some (.int (((nI (zb (zA M b ((p + 8) + i)))) - (nI (zb (zA M rc i))))))]) dX1_isBefore_101 (Nat.le_of_ble_eq_true rfl) (Nat.le_of_ble_eq_true rfl) rfl rfl rfl ?_
        refine zr_goto 48 dX1_isBefore_104 (by decide) ?_
        refine zr_drop 7 rfl ?_
        exact ih _ (by omega) (i + 1) rfl (by omega) (fun j hj => (Nat.lt_or_ge j i).elim (fun z => heq j z) (fun z => by rw [show j = i by omega]; exact (zdiff (Nat.lt_trans (zb_lt _) (by decide)) (Nat.lt_trans (zb_lt _) (by decide))).2.mp h87))
      · refine zr_iload dX1_isBefore_90 rfl ?_
        refine zr_if_ge 99 dX1_isBefore_92 (by decide) (fun h92 => ?_) (fun h92 => ?_)
        · refine zr_iconst (v := nI 0) dX1_isBefore_99 (by decide) ?_
          refine zr_zret dX1_isBefore_100 rfl (Or.inl rfl) ?_
          refine hq 0 (by decide) ⟨fun z => absurd z (by decide), fun z => absurd z (bef_gt (i := i) (by omega) (by omega) heq (Nat.lt_of_le_of_ne (Nat.not_lt.mp (fun y => Int32.not_lt.mpr h92 ((zdiff (Nat.lt_trans (zb_lt _) (by decide)) (Nat.lt_trans (zb_lt _) (by decide))).1.mpr y))) (fun y => h87 ((zdiff (Nat.lt_trans (zb_lt _) (by decide)) (Nat.lt_trans (zb_lt _) (by decide))).2.mpr y.symm))))⟩
        · refine zr_iconst (v := nI 1) dX1_isBefore_95 (by decide) ?_
          refine zr_goto 100 dX1_isBefore_96 (by decide) ?_
          refine zr_zret dX1_isBefore_100 rfl (Or.inr rfl) ?_
          refine hq 1 (by decide) ⟨fun _ => bef_lt (i := i) (by omega) (by omega) heq ((zdiff (Nat.lt_trans (zb_lt _) (by decide)) (Nat.lt_trans (zb_lt _) (by decide))).1.mp (Int32.not_le.mp h92)), fun _ => rfl⟩
set_option maxRecDepth 100000 in
set_option maxHeartbeats 4000000 in
theorem c_Disk_isBefore {G : zG} {d a b p v r rc len cap : Nat} {M : zM} (hd : 1 ≤ d) (hcb : zC M ≤ 600128 ∧ zS M ≤ 7301098) (hv : zDk M a b) (hw : zRw M r rc len cap) (hp : p < 303096) (hcm : ecm (zA M b) p < 2 ^ 31) (hvb : v < 2 ^ 31)  : zMet G mX1_isBefore d [.ref a, .int (nI p), .ref r, .int (nI v)] M (fun o M' => M' = M ∧ ∃ t : Nat, t ≤ 1 ∧ o = .inl (some (.int (nI t))) ∧ (t = 1 ↔ bef (zA M b) p (rwl (zA M rc) len) v)) := by
  refine zMet_of (by decide +kernel) (Nat.le_of_ble_eq_true rfl) rfl hcb ?_
  show zw G mX1_isBefore d _ _ _ 0 [some (.ref a), some (.int (nI p)), some (.ref r), some (.int (nI v)), none, none, none, none] [] M
  obtain ⟨hK, hR, hKb, hNb⟩ := id hv
  obtain ⟨gK, gR, gKb, gNb, gI, gl, gc⟩ := id hw
  refine zr_iload_n dX1_isBefore_0 rfl ?_
  refine zr_if_ltN 10 dX1_isBefore_1 (by decide) (by omega) ?_
  refine zr_iload_n dX1_isBefore_4 rfl ?_
  refine zr_ldc dX1_isBefore_5 ctX1_55 ?_
  refine zr_as (y := nI 303104) (by decide) ?_
  refine zr_icmp_ltN 12 dX1_isBefore_7 (by decide) (by omega) (by omega) (fun h7 => ?_) (fun h7 => ?_)
  · refine zr_aload_n dX1_isBefore_12 rfl ?_
    refine zr_getR dX1_isBefore_13 lkX1_10 (by decide) (by decide) rfl hK hR ?_
    refine zr_iload_n dX1_isBefore_16 rfl ?_
    refine zr_iconst (v := nI 1) dX1_isBefore_17 (by decide) ?_
    refine zr_iaddN dX1_isBefore_18 ?_
    refine zr_baldN dX1_isBefore_19 hKb hNb (by omega) (by omega) (fun f19 => ?_)
    refine zr_sipush (v := nI 255) dX1_isBefore_20 (by decide) ?_
    refine zr_iand255 dX1_isBefore_23 ?_
    refine zr_istore (lv' := [some (.ref a), some (.int (nI p)), some (.ref r), some (.int (nI v)), some (.int (nI (zb (zA M b (p + 1))))), none, none, none]) dX1_isBefore_24 (Nat.le_of_ble_eq_true rfl) (Nat.le_of_ble_eq_true rfl) rfl rfl ?_
    have hkl2 := zb_lt (zA M b (p + 1))
    refine zr_iload dX1_isBefore_26 rfl ?_
    refine zr_aload_n dX1_isBefore_28 rfl ?_
    refine zr_getI dX1_isBefore_29 lkX1_78 (by decide) (by decide) rfl gK ?_
    refine zr_as (y := (nI len)) gI ?_
    refine zr_aload_n dX1_isBefore_32 rfl ?_
    refine zr_getR dX1_isBefore_33 lkX1_81 (by decide) (by decide) rfl gK gR ?_
    refine zr_alenN dX1_isBefore_36 gKb (by decide) gNb ?_
    refine zr_callS (md' := mJ9_min_7cf53) (As := [.int (nI len), .int (nI cap)]) dX1_isBefore_37 mlX1_49 okJ9_min_7cf53 rfl stJ9_min_7cf53 rfl (by omega) (Nat.le_of_ble_eq_true rfl) hcb (c_min (d := d - 1) hcb (by omega) (by omega)) (fun k M1 h => by cases h.1) (fun v M1 hq => ?_)
    obtain ⟨e0, e1⟩ := hq
    cases e0
    rw [e1]
    refine zr_callS (md' := mJ9_min_7cf53) (As := [.int (nI (zb (zA M b (p + 1)))), .int (nI (min len cap))]) dX1_isBefore_40 mlX1_49 okJ9_min_7cf53 rfl stJ9_min_7cf53 rfl (by omega) (Nat.le_of_ble_eq_true rfl) hcb (c_min (d := d - 1) hcb (by omega) (by omega)) (fun k M1 h => by cases h.1) (fun v M1 hq => ?_)
    obtain ⟨e0, e1⟩ := hq
    cases e0
    rw [e1]
    refine zr_istore (lv' := [some (.ref a), some (.int (nI p)), some (.ref r), some (.int (nI v)), some (.int (nI (zb (zA M b (p + 1))))), some (.int (nI (min (zb (zA M b (p + 1))) (min len cap)))), none, none]) dX1_isBefore_43 (Nat.le_of_ble_eq_true rfl) (Nat.le_of_ble_eq_true rfl) rfl rfl ?_
    refine zr_iconst (v := nI 0) dX1_isBefore_45 (by decide) ?_
    refine zr_istore (lv' := [some (.ref a), some (.int (nI p)), some (.ref r), some (.int (nI v)), some (.int (nI (zb (zA M b (p + 1))))), some (.int (nI (min (zb (zA M b (p + 1))) (min len cap)))), some (.int (nI 0)), none]) dX1_isBefore_46 (Nat.le_of_ble_eq_true rfl) (Nat.le_of_ble_eq_true rfl) rfl rfl ?_
    exact l_Disk_isBefore hd hcb hv hw hp hcm hvb (fun t h1 h2 => ⟨rfl, t, h1, rfl, h2⟩) _ 0 rfl (by omega) (fun j hj => by omega)
  · refine zr_iconst (v := nI 0) dX1_isBefore_10 (by decide) ?_
    refine zr_zret dX1_isBefore_11 rfl (Or.inl rfl) ?_
    first | (exfalso; omega) | skip
set_option maxRecDepth 100000 in
set_option maxHeartbeats 4000000 in
theorem c_Disk_isBeforeM {G : zG} {d a b r v : Nat} {M : zM} (hcb : zC M ≤ 600128 ∧ zS M ≤ 7301098) (hv : zDk M a b)  : zMet G mX1_isBefore d [.ref a, .int ((-1)), .ref r, .int (nI v)] M (fun o M' => o = .inl (some (.int (nI 0))) ∧ M' = M) := by
  refine zMet_of (by decide +kernel) (Nat.le_of_ble_eq_true rfl) rfl hcb ?_
  show zw G mX1_isBefore d _ _ _ 0 [some (.ref a), some (.int ((-1))), some (.ref r), some (.int (nI v)), none, none, none, none] [] M
  obtain ⟨hK, hR, hKb, hNb⟩ := id hv
  refine zr_iload_n dX1_isBefore_0 rfl ?_
  refine zr_if_ltM 10 dX1_isBefore_1 (by decide) ?_
  refine zr_iconst (v := nI 0) dX1_isBefore_10 (by decide) ?_
  refine zr_zret dX1_isBefore_11 rfl (Or.inl rfl) ?_
  exact ⟨rfl, rfl⟩
/-- the power: on, when it is to fail, writes left, bytes left, whether it is due, whether writes are counted -/
def Pw (ad : Nat → Nat) (M : zM) (on wh lf ct du cn : Nat) : Prop := zI M 34 (ad 1) = nI on ∧ zI M 35 (ad 1) = nI wh ∧ zI M 36 (ad 1) = nI lf ∧ zI M 37 (ad 1) = nI ct ∧ zI M 38 (ad 1) = nI du ∧ zI M 39 (ad 1) = nI cn ∧ on ≤ 1 ∧ wh ≤ 3 ∧ lf ≤ 400 ∧ ct ≤ 300 ∧ du ≤ 1 ∧ cn ≤ 1
theorem Pw.set {ad : Nat → Nat} {M : zM} {on wh lf ct du cn : Nat} (h : Pw ad M on wh lf ct du cn) {M' : zM} (e : zI M' = zI M) : Pw ad M' on wh lf ct du cn := by
  unfold Pw at *
  rw [e]; exact h
set_option maxRecDepth 100000 in
set_option maxHeartbeats 4000000 in
theorem c_Disk_plan {G : zG} {ad : Nat → Nat} {d x y z on wh lf ct du cn : Nat} {M : zM} (hcb : zC M ≤ 600128 ∧ zS M ≤ 7301098) (hL : Lay ad M) (hP : Pw ad M on wh lf ct du cn)  : zMet G mX1_plan d [.ref ((ad 1)), .int (nI x), .int (nI y), .int (nI z)] M (fun o M' => o = .inl none ∧ M' = zput (zput (zput M 35 (ad 1) (nI x)) 36 (ad 1) (nI y)) 37 (ad 1) (nI z)) := by
  refine zMet_of (by decide +kernel) (Nat.le_of_ble_eq_true rfl) rfl hcb ?_
  show zw G mX1_plan d _ _ _ 0 [some (.ref ((ad 1))), some (.int (nI x)), some (.int (nI y)), some (.int (nI z))] [] M
  obtain ⟨hp1, hp2, hp3, hp4, hp5, hp6, hb1, hb2, hb3, hb4, hb5, hb6⟩ := id hP
  refine zr_aload_n dX1_plan_0 rfl ?_
  refine zr_iload_n dX1_plan_1 rfl ?_
  refine zr_putI dX1_plan_2 lkX1_23 (by decide) (by decide) rfl rfl (hL.K 1 2) ?_
  refine zr_aload_n dX1_plan_5 rfl ?_
  refine zr_iload_n dX1_plan_6 rfl ?_
  refine zr_putI dX1_plan_7 lkX1_27 (by decide) (by decide) rfl rfl (hL.K 1 2) ?_
  refine zr_aload_n dX1_plan_10 rfl ?_
  refine zr_iload_n dX1_plan_11 rfl ?_
  refine zr_putI dX1_plan_12 lkX1_30 (by decide) (by decide) rfl rfl (hL.K 1 2) ?_
  refine zr_vret dX1_plan_15 rfl ?_
  first | (exfalso; omega) | exact ⟨rfl, rfl⟩
set_option maxRecDepth 100000 in
set_option maxHeartbeats 4000000 in
theorem c_Disk_goOff {G : zG} {ad : Nat → Nat} {d : Nat} {M : zM} (hcb : zC M ≤ 600128 ∧ zS M ≤ 7301098) (hL : Lay ad M)  : zMet G mX1_goOff d [.ref ((ad 1))] M (fun o M' => o = .inl none ∧ M' = zput (zput M 34 (ad 1) (nI 0)) 35 (ad 1) (nI 3)) := by
  refine zMet_of (by decide +kernel) (Nat.le_of_ble_eq_true rfl) rfl hcb ?_
  show zw G mX1_goOff d _ _ _ 0 [some (.ref ((ad 1)))] [] M
  refine zr_aload_n dX1_goOff_0 rfl ?_
  refine zr_iconst (v := nI 0) dX1_goOff_1 (by decide) ?_
  refine zr_putZ dX1_goOff_2 lkX1_19 (by decide) (by decide) rfl rfl (Or.inl rfl) (hL.K 1 2) ?_
  refine zr_aload_n dX1_goOff_5 rfl ?_
  refine zr_iconst (v := nI 3) dX1_goOff_6 (by decide) ?_
  refine zr_putI dX1_goOff_7 lkX1_23 (by decide) (by decide) rfl rfl (hL.K 1 2) ?_
  refine zr_vret dX1_goOff_10 rfl ?_
  first | (exfalso; omega) | exact ⟨rfl, rfl⟩
set_option maxRecDepth 100000 in
set_option maxHeartbeats 4000000 in
theorem c_Disk_enter {G : zG} {ad : Nat → Nat} {d cm on wh lf ct du cn : Nat} {M : zM} (hcb : zC M ≤ 600128 ∧ zS M ≤ 7301098) (hL : Lay ad M) (hP : Pw ad M on wh lf ct du cn) (hcm : cm ≤ 1) : zMet G mX1_enter d [.ref ((ad 1)), .int (nI cm)] M (fun o M' => o = .inl none ∧ ∃ x y : Nat, M' = zput (zput M 38 (ad 1) (nI x)) 39 (ad 1) (nI y) ∧ (x = 1 ↔ (cm = 1 ∧ wh ≤ 1) ∨ (cm = 0 ∧ wh = 2)) ∧ x ≤ 1 ∧ (y = 1 ↔ cm = 0 ∧ wh = 2) ∧ y ≤ 1) := by
  refine zMet_of (by decide +kernel) (Nat.le_of_ble_eq_true rfl) rfl hcb ?_
  show zw G mX1_enter d _ _ _ 0 [some (.ref ((ad 1))), some (.int (nI cm))] [] M
  obtain ⟨hp1, hp2, hp3, hp4, hp5, hp6, hb1, hb2, hb3, hb4, hb5, hb6⟩ := id hP
  refine zr_aload_n dX1_enter_0 rfl ?_
  refine zr_iload_n dX1_enter_1 rfl ?_
  refine zr_if_eqN 28 dX1_enter_2 (by decide) (by omega) (fun h2 => ?_) (fun h2 => ?_)
  · refine zr_aload_n dX1_enter_28 rfl ?_
    refine zr_getI dX1_enter_29 lkX1_23 (by decide) (by decide) rfl (hL.K 1 2) ?_
    refine zr_as (y := (nI wh)) hp2 ?_
    refine zr_iconst (v := nI 2) dX1_enter_32 (by decide) ?_
    refine zr_icmp_neN 40 dX1_enter_33 (by decide) (by omega) (by omega) (fun h33 => ?_) (fun h33 => ?_)
    · refine zr_iconst (v := nI 0) dX1_enter_40 (by decide) ?_
      refine zr_putZ dX1_enter_41 lkX1_33 (by decide) (by decide) rfl rfl (Or.inl rfl) (hL.K 1 2) ?_
      refine zr_aload_n dX1_enter_44 rfl ?_
      refine zr_iload_n dX1_enter_45 rfl ?_
      refine zr_if_neN 60 dX1_enter_46 (by decide) (by omega) (fun h46 => ?_) (fun h46 => ?_)
      · refine zr_iconst (v := nI 0) dX1_enter_60 (by decide) ?_
        refine zr_putZ dX1_enter_61 lkX1_36 (by decide) (by decide) rfl rfl (Or.inl rfl) (hL.K 1 2) ?_
        refine zr_vret dX1_enter_64 rfl ?_
        refine ⟨rfl, ?_⟩
        first
          | (exfalso; omega)
          | (refine ⟨1, 0, ?_, by omega, by omega, by omega, by omega⟩; rfl)
          | (refine ⟨0, 0, ?_, by omega, by omega, by omega, by omega⟩; rfl)
          | (refine ⟨1, 1, ?_, by omega, by omega, by omega, by omega⟩; rfl)
      · refine zr_aload_n dX1_enter_49 rfl ?_
        refine zr_getI dX1_enter_50 lkX1_33 (by decide) (by decide) rfl (hL.K 1 2) ?_
        refine zr_as (y := (nI 0)) (zput_hit _ _ _ _) ?_
        refine zr_if_eq 60 dX1_enter_53 (by decide) (fun h53 => ?_) (fun h53 => absurd rfl h53)
        refine zr_iconst (v := nI 0) dX1_enter_60 (by decide) ?_
        refine zr_putZ dX1_enter_61 lkX1_36 (by decide) (by decide) rfl rfl (Or.inl rfl) (hL.K 1 2) ?_
        refine zr_vret dX1_enter_64 rfl ?_
        refine ⟨rfl, ?_⟩
        first
          | (exfalso; omega)
          | (refine ⟨1, 0, ?_, by omega, by omega, by omega, by omega⟩; rfl)
          | (refine ⟨0, 0, ?_, by omega, by omega, by omega, by omega⟩; rfl)
          | (refine ⟨1, 1, ?_, by omega, by omega, by omega, by omega⟩; rfl)
    · refine zr_iconst (v := nI 1) dX1_enter_36 (by decide) ?_
      refine zr_goto 41 dX1_enter_37 (by decide) ?_
      refine zr_putZ dX1_enter_41 lkX1_33 (by decide) (by decide) rfl rfl (Or.inr rfl) (hL.K 1 2) ?_
      refine zr_aload_n dX1_enter_44 rfl ?_
      refine zr_iload_n dX1_enter_45 rfl ?_
      refine zr_if_neN 60 dX1_enter_46 (by decide) (by omega) (fun h46 => ?_) (fun h46 => ?_)
      · refine zr_iconst (v := nI 0) dX1_enter_60 (by decide) ?_
        refine zr_putZ dX1_enter_61 lkX1_36 (by decide) (by decide) rfl rfl (Or.inl rfl) (hL.K 1 2) ?_
        refine zr_vret dX1_enter_64 rfl ?_
        refine ⟨rfl, ?_⟩
        first
          | (exfalso; omega)
          | (refine ⟨1, 0, ?_, by omega, by omega, by omega, by omega⟩; rfl)
          | (refine ⟨0, 0, ?_, by omega, by omega, by omega, by omega⟩; rfl)
          | (refine ⟨1, 1, ?_, by omega, by omega, by omega, by omega⟩; rfl)
      · refine zr_aload_n dX1_enter_49 rfl ?_
        refine zr_getI dX1_enter_50 lkX1_33 (by decide) (by decide) rfl (hL.K 1 2) ?_
        refine zr_as (y := (nI 1)) (zput_hit _ _ _ _) ?_
        refine zr_if_eq 60 dX1_enter_53 (by decide) (fun h53 => absurd h53 (by decide)) (fun h53 => ?_)
        refine zr_iconst (v := nI 1) dX1_enter_56 (by decide) ?_
        refine zr_goto 61 dX1_enter_57 (by decide) ?_
        refine zr_putZ dX1_enter_61 lkX1_36 (by decide) (by decide) rfl rfl (Or.inr rfl) (hL.K 1 2) ?_
        refine zr_vret dX1_enter_64 rfl ?_
        refine ⟨rfl, ?_⟩
        first
          | (exfalso; omega)
          | (refine ⟨1, 0, ?_, by omega, by omega, by omega, by omega⟩; rfl)
          | (refine ⟨0, 0, ?_, by omega, by omega, by omega, by omega⟩; rfl)
          | (refine ⟨1, 1, ?_, by omega, by omega, by omega, by omega⟩; rfl)
  · refine zr_aload_n dX1_enter_5 rfl ?_
    refine zr_getI dX1_enter_6 lkX1_23 (by decide) (by decide) rfl (hL.K 1 2) ?_
    refine zr_as (y := (nI wh)) hp2 ?_
    refine zr_if_eqN 20 dX1_enter_9 (by decide) (by omega) (fun h9 => ?_) (fun h9 => ?_)
    · refine zr_iconst (v := nI 1) dX1_enter_20 (by decide) ?_
      refine zr_goto 41 dX1_enter_21 (by decide) ?_
      refine zr_putZ dX1_enter_41 lkX1_33 (by decide) (by decide) rfl rfl (Or.inr rfl) (hL.K 1 2) ?_
      refine zr_aload_n dX1_enter_44 rfl ?_
      refine zr_iload_n dX1_enter_45 rfl ?_
      refine zr_if_neN 60 dX1_enter_46 (by decide) (by omega) (fun h46 => ?_) (fun h46 => ?_)
      · refine zr_iconst (v := nI 0) dX1_enter_60 (by decide) ?_
        refine zr_putZ dX1_enter_61 lkX1_36 (by decide) (by decide) rfl rfl (Or.inl rfl) (hL.K 1 2) ?_
        refine zr_vret dX1_enter_64 rfl ?_
        refine ⟨rfl, ?_⟩
        first
          | (exfalso; omega)
          | (refine ⟨1, 0, ?_, by omega, by omega, by omega, by omega⟩; rfl)
          | (refine ⟨0, 0, ?_, by omega, by omega, by omega, by omega⟩; rfl)
          | (refine ⟨1, 1, ?_, by omega, by omega, by omega, by omega⟩; rfl)
      · refine zr_aload_n dX1_enter_49 rfl ?_
        refine zr_getI dX1_enter_50 lkX1_33 (by decide) (by decide) rfl (hL.K 1 2) ?_
        refine zr_as (y := (nI 1)) (zput_hit _ _ _ _) ?_
        refine zr_if_eq 60 dX1_enter_53 (by decide) (fun h53 => absurd h53 (by decide)) (fun h53 => ?_)
        refine zr_iconst (v := nI 1) dX1_enter_56 (by decide) ?_
        refine zr_goto 61 dX1_enter_57 (by decide) ?_
        refine zr_putZ dX1_enter_61 lkX1_36 (by decide) (by decide) rfl rfl (Or.inr rfl) (hL.K 1 2) ?_
        refine zr_vret dX1_enter_64 rfl ?_
        refine ⟨rfl, ?_⟩
        first
          | (exfalso; omega)
          | (refine ⟨1, 0, ?_, by omega, by omega, by omega, by omega⟩; rfl)
          | (refine ⟨0, 0, ?_, by omega, by omega, by omega, by omega⟩; rfl)
          | (refine ⟨1, 1, ?_, by omega, by omega, by omega, by omega⟩; rfl)
    · refine zr_aload_n dX1_enter_12 rfl ?_
      refine zr_getI dX1_enter_13 lkX1_23 (by decide) (by decide) rfl (hL.K 1 2) ?_
      refine zr_as (y := (nI wh)) hp2 ?_
      refine zr_iconst (v := nI 1) dX1_enter_16 (by decide) ?_
      refine zr_icmp_neN 24 dX1_enter_17 (by decide) (by omega) (by omega) (fun h17 => ?_) (fun h17 => ?_)
      · refine zr_iconst (v := nI 0) dX1_enter_24 (by decide) ?_
        refine zr_goto 41 dX1_enter_25 (by decide) ?_
        refine zr_putZ dX1_enter_41 lkX1_33 (by decide) (by decide) rfl rfl (Or.inl rfl) (hL.K 1 2) ?_
        refine zr_aload_n dX1_enter_44 rfl ?_
        refine zr_iload_n dX1_enter_45 rfl ?_
        refine zr_if_neN 60 dX1_enter_46 (by decide) (by omega) (fun h46 => ?_) (fun h46 => ?_)
        · refine zr_iconst (v := nI 0) dX1_enter_60 (by decide) ?_
          refine zr_putZ dX1_enter_61 lkX1_36 (by decide) (by decide) rfl rfl (Or.inl rfl) (hL.K 1 2) ?_
          refine zr_vret dX1_enter_64 rfl ?_
          refine ⟨rfl, ?_⟩
          first
            | (exfalso; omega)
            | (refine ⟨1, 0, ?_, by omega, by omega, by omega, by omega⟩; rfl)
            | (refine ⟨0, 0, ?_, by omega, by omega, by omega, by omega⟩; rfl)
            | (refine ⟨1, 1, ?_, by omega, by omega, by omega, by omega⟩; rfl)
        · refine zr_aload_n dX1_enter_49 rfl ?_
          refine zr_getI dX1_enter_50 lkX1_33 (by decide) (by decide) rfl (hL.K 1 2) ?_
          refine zr_as (y := (nI 0)) (zput_hit _ _ _ _) ?_
          refine zr_if_eq 60 dX1_enter_53 (by decide) (fun h53 => ?_) (fun h53 => absurd rfl h53)
          refine zr_iconst (v := nI 0) dX1_enter_60 (by decide) ?_
          refine zr_putZ dX1_enter_61 lkX1_36 (by decide) (by decide) rfl rfl (Or.inl rfl) (hL.K 1 2) ?_
          refine zr_vret dX1_enter_64 rfl ?_
          refine ⟨rfl, ?_⟩
          first
            | (exfalso; omega)
            | (refine ⟨1, 0, ?_, by omega, by omega, by omega, by omega⟩; rfl)
            | (refine ⟨0, 0, ?_, by omega, by omega, by omega, by omega⟩; rfl)
            | (refine ⟨1, 1, ?_, by omega, by omega, by omega, by omega⟩; rfl)
      · refine zr_iconst (v := nI 1) dX1_enter_20 (by decide) ?_
        refine zr_goto 41 dX1_enter_21 (by decide) ?_
        refine zr_putZ dX1_enter_41 lkX1_33 (by decide) (by decide) rfl rfl (Or.inr rfl) (hL.K 1 2) ?_
        refine zr_aload_n dX1_enter_44 rfl ?_
        refine zr_iload_n dX1_enter_45 rfl ?_
        refine zr_if_neN 60 dX1_enter_46 (by decide) (by omega) (fun h46 => ?_) (fun h46 => ?_)
        · refine zr_iconst (v := nI 0) dX1_enter_60 (by decide) ?_
          refine zr_putZ dX1_enter_61 lkX1_36 (by decide) (by decide) rfl rfl (Or.inl rfl) (hL.K 1 2) ?_
          refine zr_vret dX1_enter_64 rfl ?_
          refine ⟨rfl, ?_⟩
          first
            | (exfalso; omega)
            | (refine ⟨1, 0, ?_, by omega, by omega, by omega, by omega⟩; rfl)
            | (refine ⟨0, 0, ?_, by omega, by omega, by omega, by omega⟩; rfl)
            | (refine ⟨1, 1, ?_, by omega, by omega, by omega, by omega⟩; rfl)
        · refine zr_aload_n dX1_enter_49 rfl ?_
          refine zr_getI dX1_enter_50 lkX1_33 (by decide) (by decide) rfl (hL.K 1 2) ?_
          refine zr_as (y := (nI 1)) (zput_hit _ _ _ _) ?_
          refine zr_if_eq 60 dX1_enter_53 (by decide) (fun h53 => absurd h53 (by decide)) (fun h53 => ?_)
          refine zr_iconst (v := nI 1) dX1_enter_56 (by decide) ?_
          refine zr_goto 61 dX1_enter_57 (by decide) ?_
          refine zr_putZ dX1_enter_61 lkX1_36 (by decide) (by decide) rfl rfl (Or.inr rfl) (hL.K 1 2) ?_
          refine zr_vret dX1_enter_64 rfl ?_
          refine ⟨rfl, ?_⟩
          first
            | (exfalso; omega)
            | (refine ⟨1, 0, ?_, by omega, by omega, by omega, by omega⟩; rfl)
            | (refine ⟨0, 0, ?_, by omega, by omega, by omega, by omega⟩; rfl)
            | (refine ⟨1, 1, ?_, by omega, by omega, by omega, by omega⟩; rfl)
set_option maxRecDepth 100000 in
set_option maxHeartbeats 4000000 in
theorem c_Disk_leave {G : zG} {ad : Nat → Nat} {d on wh lf ct du cn : Nat} {M : zM} (hd : 6 ≤ d) (hcb : zC M ≤ 600128 ∧ zS M ≤ 7301098) (hcb1 : zC M + 1 ≤ 600128 ∧ zS M + 6 ≤ 7301098) (hL : Lay ad M) (hP : Pw ad M on wh lf ct du cn)  : zMet G mX1_leave d [.ref ((ad 1))] M (fun o M' => (du = 0 ∧ o = .inl none ∧ M' = M) ∨ (du = 1 ∧ o = .inr 2 ∧ M' = zthr (zput (zput M 34 (ad 1) (nI 0)) 35 (ad 1) (nI 3)))) := by
  refine zMet_of (by decide +kernel) (Nat.le_of_ble_eq_true rfl) rfl hcb ?_
  show zw G mX1_leave d _ _ _ 0 [some (.ref ((ad 1)))] [] M
  obtain ⟨hp1, hp2, hp3, hp4, hp5, hp6, hb1, hb2, hb3, hb4, hb5, hb6⟩ := id hP
  refine zr_aload_n dX1_leave_0 rfl ?_
  refine zr_getI dX1_leave_1 lkX1_33 (by decide) (by decide) rfl (hL.K 1 2) ?_
  refine zr_as (y := (nI du)) hp5 ?_
  refine zr_if_eqN 21 dX1_leave_4 (by decide) (by omega) (fun h4 => ?_) (fun h4 => ?_)
  · refine zr_vret dX1_leave_21 rfl ?_
    exact Or.inl ⟨by omega, rfl, rfl⟩
  · refine zr_aload_n dX1_leave_7 rfl ?_
    refine zr_callV (md' := mX1_goOff) (As := []) dX1_leave_8 mlX1_39 okX1_goOff rfl inX1_goOff slX1_goOff (by decide) (hL.K 1 2) rfl (by omega) (Nat.le_of_ble_eq_true rfl) hcb (c_Disk_goOff (d := d - 1) hcb hL) (fun k M1 h => by cases h.1) (fun v M1 hq => ?_)
    obtain ⟨e0, e1⟩ := hq
    cases e0
    rw [e1]
    refine zr_throw (k := 2) (sk := 0) dX1_leave_11 dX1_leave_14 dX1_leave_15 dX1_leave_17 dX1_leave_20 thX1_2 rfl rfl (by omega) (Nat.le_of_ble_eq_true rfl) hcb1 ?_
    exact Or.inr ⟨by omega, rfl, rfl⟩
theorem va_cpy0 {α : Type} (f g : Nat → α) (s p : Nat) : va_cpy f g s p 0 = g := by
  funext k
  unfold va_cpy
  rw [if_neg (by omega)]
/-- the memory behind a write of n bytes, and behind one that power cut after n -/
def wOk (ad : Nat → Nat) (M : zM) (fr s p n lf cn : Nat) : zM := zput (zput (zsetA M (ad 2) (va_cpy (zA M fr) (zA M (ad 2)) s p n)) 36 (ad 1) (nI lf)) 39 (ad 1) (nI cn)
def wCut (ad : Nat → Nat) (M : zM) (fr s p n : Nat) : zM := zthr (zput (zput (zsetA M (ad 2) (va_cpy (zA M fr) (zA M (ad 2)) s p n)) 34 (ad 1) (nI 0)) 35 (ad 1) (nI 3))
set_option maxRecDepth 100000 in
set_option maxHeartbeats 4000000 in
theorem t_Disk_write2 {G : zG} {ad : Nat → Nat} {d k0 n0 p s n ls f r fr du cn : Nat} {M : zM} {Q : zOut → zM → Prop} (hd : 6 ≤ d) (hcb : zC M ≤ 600128 ∧ zS M ≤ 7301098) (hcb1 : zC M + 1 ≤ 600128 ∧ zS M + 6 ≤ 7301098) (hL : Lay ad M) (hp5 : zI M 38 (ad 1) = nI du) (hp6 : zI M 39 (ad 1) = nI cn) (hb5 : du ≤ 1) (hb6 : cn ≤ 1) (hls : ls ≤ 1) (hf : f ≤ 1) (hq0 : f = 0 → ∀ y : Nat, y ≤ 1 → (y = 1 ↔ cn = 1 ∨ (du = 1 ∧ ls = 1)) → Q (.inl none) (zput M 39 (ad 1) (nI y))) (hq1 : f = 1 → Q (.inr 2) (zthr (zput (zput M 34 (ad 1) (nI 0)) 35 (ad 1) (nI 3)))) : zw G mX1_write d k0 n0 Q 136 [some (.ref ((ad 1))), some (.int (nI p)), some (.ref fr), some (.int (nI s)), some (.int (nI n)), some (.int (nI ls)), some (.int (nI f)), some (.int (nI r))] [] M := by
  refine zr_iload dX1_write_136 rfl ?_
  refine zr_if_eqN 155 dX1_write_138 (by decide) (by omega) (fun h138 => ?_) (fun h138 => ?_)
  · refine zr_aload_n dX1_write_155 rfl ?_
    refine zr_aload_n dX1_write_156 rfl ?_
    refine zr_getI dX1_write_157 lkX1_36 (by decide) (by decide) rfl (hL.K 1 2) ?_
    refine zr_as (y := (nI cn)) hp6 ?_
    refine zr_if_neN 175 dX1_write_160 (by decide) (by omega) (fun h160 => ?_) (fun h160 => ?_)
    · refine zr_iconst (v := nI 1) dX1_write_175 (by decide) ?_
      refine zr_goto 180 dX1_write_176 (by decide) ?_
      refine zr_putZ dX1_write_180 lkX1_36 (by decide) (by decide) rfl rfl (Or.inr rfl) (hL.K 1 2) ?_
      refine zr_vret dX1_write_183 rfl ?_
      first
        | (exfalso; omega)
        | exact hq0 (by omega) 1 (by omega) (by omega)
        | exact hq0 (by omega) 0 (by omega) (by omega)
    · refine zr_aload_n dX1_write_163 rfl ?_
      refine zr_getI dX1_write_164 lkX1_33 (by decide) (by decide) rfl (hL.K 1 2) ?_
      refine zr_as (y := (nI du)) hp5 ?_
      refine zr_if_eqN 179 dX1_write_167 (by decide) (by omega) (fun h167 => ?_) (fun h167 => ?_)
      · refine zr_iconst (v := nI 0) dX1_write_179 (by decide) ?_
        refine zr_putZ dX1_write_180 lkX1_36 (by decide) (by decide) rfl rfl (Or.inl rfl) (hL.K 1 2) ?_
        refine zr_vret dX1_write_183 rfl ?_
        first
          | (exfalso; omega)
          | exact hq0 (by omega) 1 (by omega) (by omega)
          | exact hq0 (by omega) 0 (by omega) (by omega)
      · refine zr_iload dX1_write_170 rfl ?_
        refine zr_if_eqN 179 dX1_write_172 (by decide) (by omega) (fun h172 => ?_) (fun h172 => ?_)
        · refine zr_iconst (v := nI 0) dX1_write_179 (by decide) ?_
          refine zr_putZ dX1_write_180 lkX1_36 (by decide) (by decide) rfl rfl (Or.inl rfl) (hL.K 1 2) ?_
          refine zr_vret dX1_write_183 rfl ?_
          first
            | (exfalso; omega)
            | exact hq0 (by omega) 1 (by omega) (by omega)
            | exact hq0 (by omega) 0 (by omega) (by omega)
        · refine zr_iconst (v := nI 1) dX1_write_175 (by decide) ?_
          refine zr_goto 180 dX1_write_176 (by decide) ?_
          refine zr_putZ dX1_write_180 lkX1_36 (by decide) (by decide) rfl rfl (Or.inr rfl) (hL.K 1 2) ?_
          refine zr_vret dX1_write_183 rfl ?_
          first
            | (exfalso; omega)
            | exact hq0 (by omega) 1 (by omega) (by omega)
            | exact hq0 (by omega) 0 (by omega) (by omega)
  · refine zr_aload_n dX1_write_141 rfl ?_
    refine zr_callV (md' := mX1_goOff) (As := []) dX1_write_142 mlX1_39 okX1_goOff rfl inX1_goOff slX1_goOff (by decide) (hL.K 1 2) rfl (by omega) (Nat.le_of_ble_eq_true rfl) hcb (c_Disk_goOff (d := d - 1) hcb hL) (fun k M1 h => by cases h.1) (fun v M1 hq => ?_)
    obtain ⟨e0, e1⟩ := hq
    cases e0
    rw [e1]
    refine zr_throw (k := 2) (sk := 0) dX1_write_145 dX1_write_148 dX1_write_149 dX1_write_151 dX1_write_154 thX1_2 rfl rfl (by omega) (Nat.le_of_ble_eq_true rfl) hcb1 ?_
    exact hq1 (by omega)
set_option maxRecDepth 100000 in
set_option maxHeartbeats 4000000 in
theorem t_Disk_write1 {G : zG} {ad : Nat → Nat} {d k0 n0 p s n ls f r fr nf du cn : Nat} {M : zM} {Q : zOut → zM → Prop} (hd : 6 ≤ d) (hcb : zC M ≤ 600128 ∧ zS M ≤ 7301098) (hcb1 : zC M + 1 ≤ 600128 ∧ zS M + 6 ≤ 7301098) (hL : Lay ad M) (hp5 : zI M 38 (ad 1) = nI du) (hp6 : zI M 39 (ad 1) = nI cn) (hb5 : du ≤ 1) (hb6 : cn ≤ 1) (hls : ls ≤ 1) (hf : f ≤ 1) (hKf : zK M fr = 14) (hNf : zN M fr = nf) (hnf : nf < 2 ^ 31) (hr1 : s + r ≤ nf) (hr2 : p + r ≤ 303104) (hq0 : f = 0 → ∀ y : Nat, y ≤ 1 → (y = 1 ↔ cn = 1 ∨ (du = 1 ∧ ls = 1)) → Q (.inl none) (zput (zsetA M (ad 2) (va_cpy (zA M fr) (zA M (ad 2)) s p r)) 39 (ad 1) (nI y))) (hq1 : f = 1 → Q (.inr 2) (zthr (zput (zput (zsetA M (ad 2) (va_cpy (zA M fr) (zA M (ad 2)) s p r)) 34 (ad 1) (nI 0)) 35 (ad 1) (nI 3)))) : zw G mX1_write d k0 n0 Q 93 [some (.ref ((ad 1))), some (.int (nI p)), some (.ref fr), some (.int (nI s)), some (.int (nI n)), some (.int (nI ls)), some (.int (nI f)), some (.int (nI r))] [] M := by
  refine zr_iload_n dX1_write_93 rfl ?_
  refine zr_if_ltN 136 dX1_write_94 (by decide) (by omega) ?_
  refine zr_iload_n dX1_write_97 rfl ?_
  refine zr_if_ltN 136 dX1_write_98 (by decide) (by omega) ?_
  refine zr_iload dX1_write_101 rfl ?_
  refine zr_if_leN 136 dX1_write_103 (by decide) (by omega) (fun h103 => ?_) (fun h103 => ?_)
  · refine zr_asM (M' := zsetA M (ad 2) (va_cpy (zA M fr) (zA M (ad 2)) s p r)) (by first | (exfalso; omega) | (rw [show r = 0 by omega, va_cpy0, zsetA_self rfl])) ?_
    exact t_Disk_write2 hd hcb hcb1 hL hp5 hp6 hb5 hb6 hls hf hq0 hq1
  · refine zr_iload_n dX1_write_106 rfl ?_
    refine zr_ldc dX1_write_107 ctX1_55 ?_
    refine zr_as (y := nI 303104) (by decide) ?_
    refine zr_iload dX1_write_109 rfl ?_
    refine zr_isubN dX1_write_111 (by omega) ?_
    refine zr_icmp_gtN 136 dX1_write_112 (by decide) (by omega) (by omega) (fun h112 => ?_) (fun h112 => ?_)
    · refine zr_asM (M' := zsetA M (ad 2) (va_cpy (zA M fr) (zA M (ad 2)) s p r)) (by first | (exfalso; omega) | (rw [show r = 0 by omega, va_cpy0, zsetA_self rfl])) ?_
      exact t_Disk_write2 hd hcb hcb1 hL hp5 hp6 hb5 hb6 hls hf hq0 hq1
    · refine zr_iload_n dX1_write_115 rfl ?_
      refine zr_aload_n dX1_write_116 rfl ?_
      refine zr_alenN dX1_write_117 hKf (by decide) hNf ?_
      refine zr_iload dX1_write_118 rfl ?_
      refine zr_isubN dX1_write_120 (by omega) ?_
      refine zr_icmp_gtN 136 dX1_write_121 (by decide) (by omega) (by omega) (fun h121 => ?_) (fun h121 => ?_)
      · refine zr_asM (M' := zsetA M (ad 2) (va_cpy (zA M fr) (zA M (ad 2)) s p r)) (by first | (exfalso; omega) | (rw [show r = 0 by omega, va_cpy0, zsetA_self rfl])) ?_
        exact t_Disk_write2 hd hcb hcb1 hL hp5 hp6 hb5 hb6 hls hf hq0 hq1
      · refine zr_aload_n dX1_write_124 rfl ?_
        refine zr_iload_n dX1_write_125 rfl ?_
        refine zr_aload_n dX1_write_126 rfl ?_
        refine zr_getR dX1_write_127 lkX1_10 (by decide) (by decide) rfl (hL.K 1 2) (hL.R 32 1 2) ?_
        refine zr_iload_n dX1_write_130 rfl ?_
        refine zr_iload dX1_write_131 rfl ?_
        refine zr_copyN dX1_write_133 mlX1_56 (Or.inl ⟨hKf, (hL.K 2 14)⟩) hNf (hL.N 2 304128) (by omega) (by omega) (by omega) (by omega) (by omega) (Nat.le_of_ble_eq_true rfl) ?_
        exact t_Disk_write2 hd hcb hcb1 hL hp5 hp6 hb5 hb6 hls hf hq0 hq1
set_option maxRecDepth 100000 in
set_option maxHeartbeats 4000000 in
theorem c_Disk_write {G : zG} {ad : Nat → Nat} {d p s n ls fr nf on wh lf ct du cn : Nat} {M : zM} (hd : 6 ≤ d) (hcb : zC M ≤ 600128 ∧ zS M ≤ 7301098) (hcb1 : zC M + 1 ≤ 600128 ∧ zS M + 6 ≤ 7301098) (hL : Lay ad M) (hP : Pw ad M on wh lf ct du cn) (hKf : zK M fr = 14) (hNf : zN M fr = nf) (hnf : nf < 2 ^ 31) (hls : ls ≤ 1) (hn : 1 ≤ n) (hr1 : s + n ≤ nf) (hr2 : p + n ≤ 303104)  : zMet G mX1_write d [.ref ((ad 1)), .int (nI p), .ref fr, .int (nI s), .int (nI n), .int (nI ls)] M (fun o M' => (∃ lf' cn' : Nat, ¬ (du = 1 ∧ ls = 1 ∧ wh = 0) ∧ (cn = 1 → 0 < lf) ∧ lf' ≤ lf ∧ cn' ≤ 1 ∧ (cn' = 1 ↔ cn = 1 ∨ (du = 1 ∧ ls = 1)) ∧ o = .inl none ∧ M' = wOk ad M fr s p n lf' cn') ∨ (∃ r : Nat, r ≤ n ∧ (du = 1 ∧ ls = 1 ∧ wh = 0 ∧ r < n ∨ cn = 1) ∧ o = .inr 2 ∧ M' = wCut ad M fr s p r)) := by
  refine zMet_of (by decide +kernel) (Nat.le_of_ble_eq_true rfl) rfl hcb ?_
  show zw G mX1_write d _ _ _ 0 [some (.ref ((ad 1))), some (.int (nI p)), some (.ref fr), some (.int (nI s)), some (.int (nI n)), some (.int (nI ls)), none, none] [] M
  obtain ⟨hp1, hp2, hp3, hp4, hp5, hp6, hb1, hb2, hb3, hb4, hb5, hb6⟩ := id hP
  refine zr_iconst (v := nI 0) dX1_write_0 (by decide) ?_
  refine zr_istore (lv' := [some (.ref ((ad 1))), some (.int (nI p)), some (.ref fr), some (.int (nI s)), some (.int (nI n)), some (.int (nI ls)), some (.int (nI 0)), none]) dX1_write_1 (Nat.le_of_ble_eq_true rfl) (Nat.le_of_ble_eq_true rfl) rfl rfl ?_
  refine zr_iload dX1_write_3 rfl ?_
  refine zr_istore (lv' := [some (.ref ((ad 1))), some (.int (nI p)), some (.ref fr), some (.int (nI s)), some (.int (nI n)), some (.int (nI ls)), some (.int (nI 0)), some (.int (nI n))]) dX1_write_5 (Nat.le_of_ble_eq_true rfl) (Nat.le_of_ble_eq_true rfl) rfl rfl ?_
  refine zr_aload_n dX1_write_7 rfl ?_
  refine zr_getI dX1_write_8 lkX1_33 (by decide) (by decide) rfl (hL.K 1 2) ?_
  refine zr_as (y := (nI du)) hp5 ?_
  refine zr_if_eqN 45 dX1_write_11 (by decide) (by omega) (fun h11 => ?_) (fun h11 => ?_)
  · refine zr_aload_n dX1_write_45 rfl ?_
    refine zr_getI dX1_write_46 lkX1_36 (by decide) (by decide) rfl (hL.K 1 2) ?_
    refine zr_as (y := (nI cn)) hp6 ?_
    refine zr_if_eqN 76 dX1_write_49 (by decide) (by omega) (fun h49 => ?_) (fun h49 => ?_)
    · refine zr_aload_n dX1_write_76 rfl ?_
      refine zr_getI dX1_write_77 lkX1_36 (by decide) (by decide) rfl (hL.K 1 2) ?_
      refine zr_as (y := (nI cn)) hp6 ?_
      refine zr_if_eqN 93 dX1_write_80 (by decide) (by omega) (fun h80 => ?_) (fun h80 => ?_)
      · refine t_Disk_write1 (M := M) (f := 0) (r := n) hd hcb hcb1 hL hp5 hp6 hb5 hb6 hls (by omega) hKf hNf hnf (by omega) (by omega) ?_ ?_
        · intro _ y hy hy2
          refine Or.inl ⟨lf, y, by omega, by omega, by omega, hy, hy2, rfl, ?_⟩
          unfold wOk
          rw [zput_self (M := zsetA M (ad 2) _) (f := 36) (a := ad 1) (v := nI lf) hp3]
        · intro z; exact absurd z (by decide)
      · refine zr_aload_n dX1_write_83 rfl ?_
        refine zr_dup dX1_write_84 rfl ?_
        refine zr_getI dX1_write_85 lkX1_27 (by decide) (by decide) rfl (hL.K 1 2) ?_
        refine zr_as (y := (nI lf)) hp3 ?_
        refine zr_iconst (v := nI 1) dX1_write_88 (by decide) ?_
        refine zr_isubN dX1_write_89 (by omega) ?_
        refine zr_putI dX1_write_90 lkX1_27 (by decide) (by decide) rfl rfl (hL.K 1 2) ?_
        refine t_Disk_write1 (M := (zput M 36 (ad 1) (nI (lf - 1)))) (f := 0) (r := n) hd hcb hcb1 hL (zput_ms (by decide) hp5) (zput_ms (by decide) hp6) hb5 hb6 hls (by omega) hKf hNf hnf (by omega) (by omega) ?_ ?_
        · intro _ y hy hy2
          exact Or.inl ⟨lf - 1, y, by omega, by omega, by omega, hy, hy2, rfl, rfl⟩
        · intro z; exact absurd z (by decide)
    · refine zr_aload_n dX1_write_52 rfl ?_
      refine zr_getI dX1_write_53 lkX1_27 (by decide) (by decide) rfl (hL.K 1 2) ?_
      refine zr_as (y := (nI lf)) hp3 ?_
      refine zr_if_neN 76 dX1_write_56 (by decide) (by omega) (fun h56 => ?_) (fun h56 => ?_)
      · refine zr_aload_n dX1_write_76 rfl ?_
        refine zr_getI dX1_write_77 lkX1_36 (by decide) (by decide) rfl (hL.K 1 2) ?_
        refine zr_as (y := (nI cn)) hp6 ?_
        refine zr_if_eqN 93 dX1_write_80 (by decide) (by omega) (fun h80 => ?_) (fun h80 => ?_)
        · refine t_Disk_write1 (M := M) (f := 0) (r := n) hd hcb hcb1 hL hp5 hp6 hb5 hb6 hls (by omega) hKf hNf hnf (by omega) (by omega) ?_ ?_
          · intro _ y hy hy2
            refine Or.inl ⟨lf, y, by omega, by omega, by omega, hy, hy2, rfl, ?_⟩
            unfold wOk
            rw [zput_self (M := zsetA M (ad 2) _) (f := 36) (a := ad 1) (v := nI lf) hp3]
          · intro z; exact absurd z (by decide)
        · refine zr_aload_n dX1_write_83 rfl ?_
          refine zr_dup dX1_write_84 rfl ?_
          refine zr_getI dX1_write_85 lkX1_27 (by decide) (by decide) rfl (hL.K 1 2) ?_
          refine zr_as (y := (nI lf)) hp3 ?_
          refine zr_iconst (v := nI 1) dX1_write_88 (by decide) ?_
          refine zr_isubN dX1_write_89 (by omega) ?_
          refine zr_putI dX1_write_90 lkX1_27 (by decide) (by decide) rfl rfl (hL.K 1 2) ?_
          refine t_Disk_write1 (M := (zput M 36 (ad 1) (nI (lf - 1)))) (f := 0) (r := n) hd hcb hcb1 hL (zput_ms (by decide) hp5) (zput_ms (by decide) hp6) hb5 hb6 hls (by omega) hKf hNf hnf (by omega) (by omega) ?_ ?_
          · intro _ y hy hy2
            exact Or.inl ⟨lf - 1, y, by omega, by omega, by omega, hy, hy2, rfl, rfl⟩
          · intro z; exact absurd z (by decide)
      · refine zr_aload_n dX1_write_59 rfl ?_
        refine zr_getI dX1_write_60 lkX1_30 (by decide) (by decide) rfl (hL.K 1 2) ?_
        refine zr_as (y := (nI ct)) hp4 ?_
        refine zr_iload dX1_write_63 rfl ?_
        refine zr_callS (md' := mJ9_min_7cf53) (As := [.int (nI ct), .int (nI n)]) dX1_write_65 mlX1_49 okJ9_min_7cf53 rfl stJ9_min_7cf53 rfl (by omega) (Nat.le_of_ble_eq_true rfl) hcb (c_min (d := d - 1) hcb (by omega) (by omega)) (fun k M1 h => by cases h.1) (fun v M1 hq => ?_)
        obtain ⟨e0, e1⟩ := hq
        cases e0
        rw [e1]
        refine zr_istore (lv' := [some (.ref ((ad 1))), some (.int (nI p)), some (.ref fr), some (.int (nI s)), some (.int (nI n)), some (.int (nI ls)), some (.int (nI 0)), some (.int (nI (min ct n)))]) dX1_write_68 (Nat.le_of_ble_eq_true rfl) (Nat.le_of_ble_eq_true rfl) rfl rfl ?_
        refine zr_iconst (v := nI 1) dX1_write_70 (by decide) ?_
        refine zr_istore (lv' := [some (.ref ((ad 1))), some (.int (nI p)), some (.ref fr), some (.int (nI s)), some (.int (nI n)), some (.int (nI ls)), some (.int (nI 1)), some (.int (nI (min ct n)))]) dX1_write_71 (Nat.le_of_ble_eq_true rfl) (Nat.le_of_ble_eq_true rfl) rfl rfl ?_
        refine zr_goto 93 dX1_write_73 (by decide) ?_
        refine t_Disk_write1 (M := M) (f := 1) (r := (min ct n)) hd hcb hcb1 hL hp5 hp6 hb5 hb6 hls (by omega) hKf hNf hnf (by omega) (by omega) ?_ ?_
        · intro z; exact absurd z (by decide)
        · intro _
          exact Or.inr ⟨_, by omega, by omega, rfl, rfl⟩
  · refine zr_iload dX1_write_14 rfl ?_
    refine zr_if_eqN 45 dX1_write_16 (by decide) (by omega) (fun h16 => ?_) (fun h16 => ?_)
    · refine zr_aload_n dX1_write_45 rfl ?_
      refine zr_getI dX1_write_46 lkX1_36 (by decide) (by decide) rfl (hL.K 1 2) ?_
      refine zr_as (y := (nI cn)) hp6 ?_
      refine zr_if_eqN 76 dX1_write_49 (by decide) (by omega) (fun h49 => ?_) (fun h49 => ?_)
      · refine zr_aload_n dX1_write_76 rfl ?_
        refine zr_getI dX1_write_77 lkX1_36 (by decide) (by decide) rfl (hL.K 1 2) ?_
        refine zr_as (y := (nI cn)) hp6 ?_
        refine zr_if_eqN 93 dX1_write_80 (by decide) (by omega) (fun h80 => ?_) (fun h80 => ?_)
        · refine t_Disk_write1 (M := M) (f := 0) (r := n) hd hcb hcb1 hL hp5 hp6 hb5 hb6 hls (by omega) hKf hNf hnf (by omega) (by omega) ?_ ?_
          · intro _ y hy hy2
            refine Or.inl ⟨lf, y, by omega, by omega, by omega, hy, hy2, rfl, ?_⟩
            unfold wOk
            rw [zput_self (M := zsetA M (ad 2) _) (f := 36) (a := ad 1) (v := nI lf) hp3]
          · intro z; exact absurd z (by decide)
        · refine zr_aload_n dX1_write_83 rfl ?_
          refine zr_dup dX1_write_84 rfl ?_
          refine zr_getI dX1_write_85 lkX1_27 (by decide) (by decide) rfl (hL.K 1 2) ?_
          refine zr_as (y := (nI lf)) hp3 ?_
          refine zr_iconst (v := nI 1) dX1_write_88 (by decide) ?_
          refine zr_isubN dX1_write_89 (by omega) ?_
          refine zr_putI dX1_write_90 lkX1_27 (by decide) (by decide) rfl rfl (hL.K 1 2) ?_
          refine t_Disk_write1 (M := (zput M 36 (ad 1) (nI (lf - 1)))) (f := 0) (r := n) hd hcb hcb1 hL (zput_ms (by decide) hp5) (zput_ms (by decide) hp6) hb5 hb6 hls (by omega) hKf hNf hnf (by omega) (by omega) ?_ ?_
          · intro _ y hy hy2
            exact Or.inl ⟨lf - 1, y, by omega, by omega, by omega, hy, hy2, rfl, rfl⟩
          · intro z; exact absurd z (by decide)
      · refine zr_aload_n dX1_write_52 rfl ?_
        refine zr_getI dX1_write_53 lkX1_27 (by decide) (by decide) rfl (hL.K 1 2) ?_
        refine zr_as (y := (nI lf)) hp3 ?_
        refine zr_if_neN 76 dX1_write_56 (by decide) (by omega) (fun h56 => ?_) (fun h56 => ?_)
        · refine zr_aload_n dX1_write_76 rfl ?_
          refine zr_getI dX1_write_77 lkX1_36 (by decide) (by decide) rfl (hL.K 1 2) ?_
          refine zr_as (y := (nI cn)) hp6 ?_
          refine zr_if_eqN 93 dX1_write_80 (by decide) (by omega) (fun h80 => ?_) (fun h80 => ?_)
          · refine t_Disk_write1 (M := M) (f := 0) (r := n) hd hcb hcb1 hL hp5 hp6 hb5 hb6 hls (by omega) hKf hNf hnf (by omega) (by omega) ?_ ?_
            · intro _ y hy hy2
              refine Or.inl ⟨lf, y, by omega, by omega, by omega, hy, hy2, rfl, ?_⟩
              unfold wOk
              rw [zput_self (M := zsetA M (ad 2) _) (f := 36) (a := ad 1) (v := nI lf) hp3]
            · intro z; exact absurd z (by decide)
          · refine zr_aload_n dX1_write_83 rfl ?_
            refine zr_dup dX1_write_84 rfl ?_
            refine zr_getI dX1_write_85 lkX1_27 (by decide) (by decide) rfl (hL.K 1 2) ?_
            refine zr_as (y := (nI lf)) hp3 ?_
            refine zr_iconst (v := nI 1) dX1_write_88 (by decide) ?_
            refine zr_isubN dX1_write_89 (by omega) ?_
            refine zr_putI dX1_write_90 lkX1_27 (by decide) (by decide) rfl rfl (hL.K 1 2) ?_
            refine t_Disk_write1 (M := (zput M 36 (ad 1) (nI (lf - 1)))) (f := 0) (r := n) hd hcb hcb1 hL (zput_ms (by decide) hp5) (zput_ms (by decide) hp6) hb5 hb6 hls (by omega) hKf hNf hnf (by omega) (by omega) ?_ ?_
            · intro _ y hy hy2
              exact Or.inl ⟨lf - 1, y, by omega, by omega, by omega, hy, hy2, rfl, rfl⟩
            · intro z; exact absurd z (by decide)
        · refine zr_aload_n dX1_write_59 rfl ?_
          refine zr_getI dX1_write_60 lkX1_30 (by decide) (by decide) rfl (hL.K 1 2) ?_
          refine zr_as (y := (nI ct)) hp4 ?_
          refine zr_iload dX1_write_63 rfl ?_
          refine zr_callS (md' := mJ9_min_7cf53) (As := [.int (nI ct), .int (nI n)]) dX1_write_65 mlX1_49 okJ9_min_7cf53 rfl stJ9_min_7cf53 rfl (by omega) (Nat.le_of_ble_eq_true rfl) hcb (c_min (d := d - 1) hcb (by omega) (by omega)) (fun k M1 h => by cases h.1) (fun v M1 hq => ?_)
          obtain ⟨e0, e1⟩ := hq
          cases e0
          rw [e1]
          refine zr_istore (lv' := [some (.ref ((ad 1))), some (.int (nI p)), some (.ref fr), some (.int (nI s)), some (.int (nI n)), some (.int (nI ls)), some (.int (nI 0)), some (.int (nI (min ct n)))]) dX1_write_68 (Nat.le_of_ble_eq_true rfl) (Nat.le_of_ble_eq_true rfl) rfl rfl ?_
          refine zr_iconst (v := nI 1) dX1_write_70 (by decide) ?_
          refine zr_istore (lv' := [some (.ref ((ad 1))), some (.int (nI p)), some (.ref fr), some (.int (nI s)), some (.int (nI n)), some (.int (nI ls)), some (.int (nI 1)), some (.int (nI (min ct n)))]) dX1_write_71 (Nat.le_of_ble_eq_true rfl) (Nat.le_of_ble_eq_true rfl) rfl rfl ?_
          refine zr_goto 93 dX1_write_73 (by decide) ?_
          refine t_Disk_write1 (M := M) (f := 1) (r := (min ct n)) hd hcb hcb1 hL hp5 hp6 hb5 hb6 hls (by omega) hKf hNf hnf (by omega) (by omega) ?_ ?_
          · intro z; exact absurd z (by decide)
          · intro _
            exact Or.inr ⟨_, by omega, by omega, rfl, rfl⟩
    · refine zr_aload_n dX1_write_19 rfl ?_
      refine zr_getI dX1_write_20 lkX1_23 (by decide) (by decide) rfl (hL.K 1 2) ?_
      refine zr_as (y := (nI wh)) hp2 ?_
      refine zr_if_neN 45 dX1_write_23 (by decide) (by omega) (fun h23 => ?_) (fun h23 => ?_)
      · refine zr_aload_n dX1_write_45 rfl ?_
        refine zr_getI dX1_write_46 lkX1_36 (by decide) (by decide) rfl (hL.K 1 2) ?_
        refine zr_as (y := (nI cn)) hp6 ?_
        refine zr_if_eqN 76 dX1_write_49 (by decide) (by omega) (fun h49 => ?_) (fun h49 => ?_)
        · refine zr_aload_n dX1_write_76 rfl ?_
          refine zr_getI dX1_write_77 lkX1_36 (by decide) (by decide) rfl (hL.K 1 2) ?_
          refine zr_as (y := (nI cn)) hp6 ?_
          refine zr_if_eqN 93 dX1_write_80 (by decide) (by omega) (fun h80 => ?_) (fun h80 => ?_)
          · refine t_Disk_write1 (M := M) (f := 0) (r := n) hd hcb hcb1 hL hp5 hp6 hb5 hb6 hls (by omega) hKf hNf hnf (by omega) (by omega) ?_ ?_
            · intro _ y hy hy2
              refine Or.inl ⟨lf, y, by omega, by omega, by omega, hy, hy2, rfl, ?_⟩
              unfold wOk
              rw [zput_self (M := zsetA M (ad 2) _) (f := 36) (a := ad 1) (v := nI lf) hp3]
            · intro z; exact absurd z (by decide)
          · refine zr_aload_n dX1_write_83 rfl ?_
            refine zr_dup dX1_write_84 rfl ?_
            refine zr_getI dX1_write_85 lkX1_27 (by decide) (by decide) rfl (hL.K 1 2) ?_
            refine zr_as (y := (nI lf)) hp3 ?_
            refine zr_iconst (v := nI 1) dX1_write_88 (by decide) ?_
            refine zr_isubN dX1_write_89 (by omega) ?_
            refine zr_putI dX1_write_90 lkX1_27 (by decide) (by decide) rfl rfl (hL.K 1 2) ?_
            refine t_Disk_write1 (M := (zput M 36 (ad 1) (nI (lf - 1)))) (f := 0) (r := n) hd hcb hcb1 hL (zput_ms (by decide) hp5) (zput_ms (by decide) hp6) hb5 hb6 hls (by omega) hKf hNf hnf (by omega) (by omega) ?_ ?_
            · intro _ y hy hy2
              exact Or.inl ⟨lf - 1, y, by omega, by omega, by omega, hy, hy2, rfl, rfl⟩
            · intro z; exact absurd z (by decide)
        · refine zr_aload_n dX1_write_52 rfl ?_
          refine zr_getI dX1_write_53 lkX1_27 (by decide) (by decide) rfl (hL.K 1 2) ?_
          refine zr_as (y := (nI lf)) hp3 ?_
          refine zr_if_neN 76 dX1_write_56 (by decide) (by omega) (fun h56 => ?_) (fun h56 => ?_)
          · refine zr_aload_n dX1_write_76 rfl ?_
            refine zr_getI dX1_write_77 lkX1_36 (by decide) (by decide) rfl (hL.K 1 2) ?_
            refine zr_as (y := (nI cn)) hp6 ?_
            refine zr_if_eqN 93 dX1_write_80 (by decide) (by omega) (fun h80 => ?_) (fun h80 => ?_)
            · refine t_Disk_write1 (M := M) (f := 0) (r := n) hd hcb hcb1 hL hp5 hp6 hb5 hb6 hls (by omega) hKf hNf hnf (by omega) (by omega) ?_ ?_
              · intro _ y hy hy2
                refine Or.inl ⟨lf, y, by omega, by omega, by omega, hy, hy2, rfl, ?_⟩
                unfold wOk
                rw [zput_self (M := zsetA M (ad 2) _) (f := 36) (a := ad 1) (v := nI lf) hp3]
              · intro z; exact absurd z (by decide)
            · refine zr_aload_n dX1_write_83 rfl ?_
              refine zr_dup dX1_write_84 rfl ?_
              refine zr_getI dX1_write_85 lkX1_27 (by decide) (by decide) rfl (hL.K 1 2) ?_
              refine zr_as (y := (nI lf)) hp3 ?_
              refine zr_iconst (v := nI 1) dX1_write_88 (by decide) ?_
              refine zr_isubN dX1_write_89 (by omega) ?_
              refine zr_putI dX1_write_90 lkX1_27 (by decide) (by decide) rfl rfl (hL.K 1 2) ?_
              refine t_Disk_write1 (M := (zput M 36 (ad 1) (nI (lf - 1)))) (f := 0) (r := n) hd hcb hcb1 hL (zput_ms (by decide) hp5) (zput_ms (by decide) hp6) hb5 hb6 hls (by omega) hKf hNf hnf (by omega) (by omega) ?_ ?_
              · intro _ y hy hy2
                exact Or.inl ⟨lf - 1, y, by omega, by omega, by omega, hy, hy2, rfl, rfl⟩
              · intro z; exact absurd z (by decide)
          · refine zr_aload_n dX1_write_59 rfl ?_
            refine zr_getI dX1_write_60 lkX1_30 (by decide) (by decide) rfl (hL.K 1 2) ?_
            refine zr_as (y := (nI ct)) hp4 ?_
            refine zr_iload dX1_write_63 rfl ?_
            refine zr_callS (md' := mJ9_min_7cf53) (As := [.int (nI ct), .int (nI n)]) dX1_write_65 mlX1_49 okJ9_min_7cf53 rfl stJ9_min_7cf53 rfl (by omega) (Nat.le_of_ble_eq_true rfl) hcb (c_min (d := d - 1) hcb (by omega) (by omega)) (fun k M1 h => by cases h.1) (fun v M1 hq => ?_)
            obtain ⟨e0, e1⟩ := hq
            cases e0
            rw [e1]
            refine zr_istore (lv' := [some (.ref ((ad 1))), some (.int (nI p)), some (.ref fr), some (.int (nI s)), some (.int (nI n)), some (.int (nI ls)), some (.int (nI 0)), some (.int (nI (min ct n)))]) dX1_write_68 (Nat.le_of_ble_eq_true rfl) (Nat.le_of_ble_eq_true rfl) rfl rfl ?_
            refine zr_iconst (v := nI 1) dX1_write_70 (by decide) ?_
            refine zr_istore (lv' := [some (.ref ((ad 1))), some (.int (nI p)), some (.ref fr), some (.int (nI s)), some (.int (nI n)), some (.int (nI ls)), some (.int (nI 1)), some (.int (nI (min ct n)))]) dX1_write_71 (Nat.le_of_ble_eq_true rfl) (Nat.le_of_ble_eq_true rfl) rfl rfl ?_
            refine zr_goto 93 dX1_write_73 (by decide) ?_
            refine t_Disk_write1 (M := M) (f := 1) (r := (min ct n)) hd hcb hcb1 hL hp5 hp6 hb5 hb6 hls (by omega) hKf hNf hnf (by omega) (by omega) ?_ ?_
            · intro z; exact absurd z (by decide)
            · intro _
              exact Or.inr ⟨_, by omega, by omega, rfl, rfl⟩
      · refine zr_aload_n dX1_write_26 rfl ?_
        refine zr_getI dX1_write_27 lkX1_30 (by decide) (by decide) rfl (hL.K 1 2) ?_
        refine zr_as (y := (nI ct)) hp4 ?_
        refine zr_iload dX1_write_30 rfl ?_
        refine zr_iconst (v := nI 1) dX1_write_32 (by decide) ?_
        refine zr_isubN dX1_write_33 (by omega) ?_
        refine zr_callS (md' := mJ9_min_7cf53) (As := [.int (nI ct), .int (nI (n - 1))]) dX1_write_34 mlX1_49 okJ9_min_7cf53 rfl stJ9_min_7cf53 rfl (by omega) (Nat.le_of_ble_eq_true rfl) hcb (c_min (d := d - 1) hcb (by omega) (by omega)) (fun k M1 h => by cases h.1) (fun v M1 hq => ?_)
        obtain ⟨e0, e1⟩ := hq
        cases e0
        rw [e1]
        refine zr_istore (lv' := [some (.ref ((ad 1))), some (.int (nI p)), some (.ref fr), some (.int (nI s)), some (.int (nI n)), some (.int (nI ls)), some (.int (nI 0)), some (.int (nI (min ct (n - 1))))]) dX1_write_37 (Nat.le_of_ble_eq_true rfl) (Nat.le_of_ble_eq_true rfl) rfl rfl ?_
        refine zr_iconst (v := nI 1) dX1_write_39 (by decide) ?_
        refine zr_istore (lv' := [some (.ref ((ad 1))), some (.int (nI p)), some (.ref fr), some (.int (nI s)), some (.int (nI n)), some (.int (nI ls)), some (.int (nI 1)), some (.int (nI (min ct (n - 1))))]) dX1_write_40 (Nat.le_of_ble_eq_true rfl) (Nat.le_of_ble_eq_true rfl) rfl rfl ?_
        refine zr_goto 93 dX1_write_42 (by decide) ?_
        refine t_Disk_write1 (M := M) (f := 1) (r := (min ct (n - 1))) hd hcb hcb1 hL hp5 hp6 hb5 hb6 hls (by omega) hKf hNf hnf (by omega) (by omega) ?_ ?_
        · intro z; exact absurd z (by decide)
        · intro _
          exact Or.inr ⟨_, by omega, by omega, rfl, rfl⟩
set_option maxRecDepth 100000 in
set_option maxHeartbeats 4000000 in
theorem c_Disk_erase {G : zG} {ad : Nat → Nat} {d p on wh lf ct du cn : Nat} {M : zM} (hd : 7 ≤ d) (hcb : zC M ≤ 600128 ∧ zS M ≤ 7301098) (hcb1 : zC M + 1 ≤ 600128 ∧ zS M + 6 ≤ 7301098) (hL : Lay ad M) (hP : Pw ad M on wh lf ct du cn) (hr2 : p + 512 ≤ 303104)  : zMet G mX1_erase d [.ref ((ad 1)), .int (nI p)] M (fun o M' => (∃ lf' cn' : Nat, (cn = 1 → 0 < lf) ∧ lf' ≤ lf ∧ cn' ≤ 1 ∧ (cn' = 1 ↔ cn = 1) ∧ o = .inl none ∧ M' = wOk ad M (ad 3) 0 p 512 lf' cn') ∨ (∃ r : Nat, r ≤ 512 ∧ cn = 1 ∧ o = .inr 2 ∧ M' = wCut ad M (ad 3) 0 p r)) := by
  refine zMet_of (by decide +kernel) (Nat.le_of_ble_eq_true rfl) rfl hcb ?_
  show zw G mX1_erase d _ _ _ 0 [some (.ref ((ad 1))), some (.int (nI p))] [] M
  obtain ⟨hp1, hp2, hp3, hp4, hp5, hp6, hb1, hb2, hb3, hb4, hb5, hb6⟩ := id hP
  refine zr_aload_n dX1_erase_0 rfl ?_
  refine zr_iload_n dX1_erase_1 rfl ?_
  refine zr_aload_n dX1_erase_2 rfl ?_
  refine zr_getR dX1_erase_3 lkX1_16 (by decide) (by decide) rfl (hL.K 1 2) (hL.R 33 1 3) ?_
  refine zr_iconst (v := nI 0) dX1_erase_6 (by decide) ?_
  refine zr_sipush (v := nI 512) dX1_erase_7 (by decide) ?_
  refine zr_iconst (v := nI 0) dX1_erase_10 (by decide) ?_
  refine zr_callV (md' := mX1_write) (As := [.int (nI p), .ref ((ad 3)), .int (nI 0), .int (nI 512), .int (nI 0)]) dX1_erase_11 mlX1_62 okX1_write rfl inX1_write slX1_write (by decide) (hL.K 1 2) rfl (by omega) (Nat.le_of_ble_eq_true rfl) hcb (c_Disk_write (d := d - 1) (by omega) hcb hcb1 hL hP (hL.K 3 14) (hL.N 3 512) (by decide) (by decide) (by decide) (by decide) hr2) (fun k M1 h => zt_out rfl (by rcases h with ⟨lf', cn', h1, h2, h3, h4, h5, h6, h7⟩ | ⟨r, h1, h2, h3, h4⟩; exact absurd h6 (by simp); cases h3; exact Or.inr ⟨r, h1, by omega, rfl, h4⟩)) (fun v M1 hq => ?_)
  rcases hq with ⟨lf', cn', h1, h2, h3, h4, h5, h6, h7⟩ | ⟨r, h1, h2, h3, h4⟩
  case inr => cases h3
  cases h6
  rw [h7]
  refine zr_vret dX1_erase_14 rfl ?_
  exact Or.inl ⟨lf', cn', h2, h3, h4, by omega, rfl, rfl⟩
