/-! ===== LsmStoreModel (6) ===== -/
set_option maxRecDepth 100000 in
set_option maxHeartbeats 4000000 in
theorem l_mkey {G : zG} {ad : Nat → Nat} {d k0 n0 p k : Nat} {w0 : Int64} {fr : Int32} {f : Nat → Int32} {M : zM} {Q : zOut → zM → Prop} (hL : Lay ad M) (hpk : p + k ≤ 32) (hk : k ≤ 8) (hq : Q (.inl (some (.int (nI (p + (k - 0)))))) (zput (zsetA M (ad 39) (zapp f p w0 k 0)) 386 (ad 38) (nI (p + (k - 0))))) : ∀ r, r ≤ k → zw G mX12_key d k0 n0 Q 63 [some (.ref ((ad 38))), some (.long w0), none, some (.int (nI k)), some (.int fr), some (.int (nI p)), some (.int ((nI r + (-1))))] [] (zput (zsetA M (ad 39) (zapp f p w0 k r)) 386 (ad 38) (nI (p + (k - r)))) := by
  intro r
  induction r with
  | zero =>
    intro _
    show zw G mX12_key d k0 n0 Q 63 [some (.ref ((ad 38))), some (.long w0), none, some (.int (nI k)), some (.int fr), some (.int (nI p)), some (.int ((-1)))] [] _
    refine zr_iload dX12_key_63 rfl ?_
    refine zr_if_ltM 99 dX12_key_65 (by decide) ?_
    refine zr_aload_n dX12_key_99 rfl ?_
    refine zr_getI dX12_key_100 lkX12_94 (by decide) (by decide) rfl (hL.K 38 13) ?_
    refine zr_as (y := (nI (p + (k - 0)))) (zput_hit _ _ _ _) ?_
    refine zr_iret dX12_key_103 rfl ?_
    exact hq
  | succ r ih =>
    intro hr
    rw [pk_m1]
    refine zr_iload dX12_key_63 rfl ?_
    refine zr_if_ltN 99 dX12_key_65 (by decide) (by omega) ?_
    refine zr_aload_n dX12_key_68 rfl ?_
    refine zr_getR dX12_key_69 lkX12_9 (by decide) (by decide) rfl (hL.K 38 13) (hL.R 384 38 39) ?_
    refine zr_aload_n dX12_key_72 rfl ?_
    refine zr_dup dX12_key_73 rfl ?_
    refine zr_getI dX12_key_74 lkX12_94 (by decide) (by decide) rfl (hL.K 38 13) ?_
    refine zr_as (y := (nI (p + (k - (r + 1))))) (zput_hit _ _ _ _) ?_
    refine zr_dup_x1 dX12_key_77 rfl rfl ?_
    refine zr_iconst (v := nI 1) dX12_key_78 (by decide) ?_
    refine zr_iaddN dX12_key_79 ?_
    refine zr_putI dX12_key_80 lkX12_94 (by decide) (by decide) rfl rfl (hL.K 38 13) ?_
    refine zr_lload_n dX12_key_83 rfl ?_
    refine zr_bipush (v := nI 8) dX12_key_84 (by decide) ?_
    refine zr_iload dX12_key_86 rfl ?_
    refine zr_imulN dX12_key_88 ?_
    refine zr_lshr dX12_key_89 ?_
    refine zr_l2i dX12_key_90 ?_
    refine zr_i2b dX12_key_91 ?_
    refine zr_bastN dX12_key_92 (hL.K 39 14) (hL.N 39 32) (by omega) (by omega) ?_
    refine zr_iinc (w := (nI r + (-1))) (lv' := [some (.ref ((ad 38))), some (.long w0), none, some (.int (nI k)), some (.int fr), some (.int (nI p)), some (.int ((nI r + (-1))))]) dX12_key_93 (Nat.le_of_ble_eq_true rfl) (Nat.le_of_ble_eq_true rfl) rfl rfl (by rw [show Int32.ofInt (-1) = (-1 : Int32) from by decide]) rfl ?_
    refine zr_goto 63 dX12_key_96 (by decide) ?_
    have e1 : (zsetA (zput (zput (zsetA M (ad 39) (zapp f p w0 k (r + 1))) 386 (ad 38) (nI (p + (k - (r + 1))))) 386 (ad 38) (nI ((p + (k - (r + 1))) + 1))) (ad 39) (upd (zA (zput (zput (zsetA M (ad 39) (zapp f p w0 k (r + 1))) 386 (ad 38) (nI (p + (k - (r + 1))))) 386 (ad 38) (nI ((p + (k - (r + 1))) + 1))) (ad 39)) (p + (k - (r + 1))) (vp_nar .byte (Int32.toInt8 (Int64.toInt32 (w0 >>> (Int32.toInt64 (nI (8 * r)) &&& 63)))).toInt32))) = (zput (zsetA M (ad 39) (zapp f p w0 k r)) 386 (ad 38) (nI (p + (k - r)))) := by
      rw [show p + (k - (r + 1)) + 1 = p + (k - r) by omega, zput_put]
      rw [show zA (zput (zsetA M (ad 39) (zapp f p w0 k (r + 1))) 386 (ad 38) (nI (p + (k - r)))) (ad 39) = zapp f p w0 k (r + 1) from zsetA_hit _ _ _]
      rw [show vp_nar .byte (Int32.toInt8 (Int64.toInt32 (w0 >>> (Int32.toInt64 (nI (8 * r)) &&& 63)))).toInt32 = zwb w0 r from rfl, zapp_step (by omega), zsetA_put, zsetA_setA]
    rw [e1]
    exact ih (by omega)
theorem wbs_len (w : Int64) (n : Nat) : (wbs w n).length = n := by unfold wbs; rw [List.length_map, List.length_range]
set_option maxRecDepth 100000 in
set_option maxHeartbeats 4000000 in
theorem b_key {G : zG} {ad : Nat → Nat} {d : Nat} {w0 : Int64} {n0 fr : Int32} {A : As} {M : zM} (hd : 2 ≤ d) (hcb : zC M ≤ 600128 ∧ zS M ≤ 7301098) (hT : Ta ad M A)  : zMet G mX12_key d [.ref ((ad 38)), .long w0, .int n0, .int fr] M (Mst ad M (sKey w0 n0 fr A) cd1 (some (.int 0))) := by
  obtain ⟨hL, tK, tV, tM, tS, tB, tX⟩ := id hT
  have hbd := hT.bd
  refine zMet_of (by decide +kernel) (Nat.le_of_ble_eq_true rfl) rfl hcb ?_
  show zw G mX12_key d _ _ _ 0 [some (.ref ((ad 38))), some (.long w0), none, some (.int n0), some (.int fr), none, none] [] M
  refine zr_iload dX12_key_0 rfl ?_
  refine zr_if_eq 9 dX12_key_2 (by decide) (fun h2 => ?_) (fun h2 => ?_)
  · refine zr_aload_n dX12_key_9 rfl ?_
    refine zr_getI dX12_key_10 lkX12_94 (by decide) (by decide) rfl (hL.K 38 13) ?_
    refine zr_as (y := (nI ((aK A).length))) tK.1 ?_
    refine zr_istore (lv' := [some (.ref ((ad 38))), some (.long w0), none, some (.int n0), some (.int fr), some (.int (nI ((aK A).length))), none]) dX12_key_13 (Nat.le_of_ble_eq_true rfl) (Nat.le_of_ble_eq_true rfl) rfl rfl ?_
    refine zr_aload_n dX12_key_15 rfl ?_
    refine zr_iload_n dX12_key_16 rfl ?_
    refine zr_if_lt 35 dX12_key_17 (by decide) (fun h17 => ?_) (fun h17 => ?_)
    · refine zr_iconst (v := nI 1) dX12_key_35 (by decide) ?_
      refine zr_goto 40 dX12_key_36 (by decide) ?_
      refine zr_putI dX12_key_40 lkX12_38 (by decide) (by decide) rfl rfl (hL.K 38 13) ?_
      refine zr_aload_n dX12_key_43 rfl ?_
      refine zr_getI dX12_key_44 lkX12_38 (by decide) (by decide) rfl (hL.K 38 13) ?_
      refine zr_as (y := (nI 1)) (zput_hit _ _ _ _) ?_
      refine zr_if_leN 52 dX12_key_47 (by decide) (by decide) (fun h47 => absurd h47 (by decide)) (fun h47 => ?_)
      refine zr_iconst (v := nI 0) dX12_key_50 (by decide) ?_
      refine zr_iret dX12_key_51 rfl ?_
      obtain ⟨M9, e9⟩ : ∃ z, z = (zput M 402 (ad 38) (nI 1)) := ⟨_, rfl⟩
      rw [← e9]
      have hF9 : Fl ad 0 [402] [] [] M M9 := by rw [e9]; exact ((Fl.refl ad _ _ _ M).put hL (f := 402) (i := 38))
      have g9_402 : zI M9 402 (ad 38) = (nI 1) := by rw [e9]; exact zput_hit _ _ _ _
      have e8 : sKey w0 n0 fr A = (A, .inr 1) := if_neg (fun z => by have := i32_neg h17; omega)
      rw [e8]
      exact ⟨⟨hF9.lay hL, tK.fl hF9, tV.fl hF9, tM.fl hF9, tS.fl hF9, tB.fl hF9, tX.fl hF9⟩, hF9.mono, g9_402, rfl⟩
    · refine zr_iload_n dX12_key_20 rfl ?_
      refine zr_bipush (v := nI 8) dX12_key_21 (by decide) ?_
      refine zr_icmp_gt 35 dX12_key_23 (by decide) (fun h23 => ?_) (fun h23 => ?_)
      · refine zr_iconst (v := nI 1) dX12_key_35 (by decide) ?_
        refine zr_goto 40 dX12_key_36 (by decide) ?_
        refine zr_putI dX12_key_40 lkX12_38 (by decide) (by decide) rfl rfl (hL.K 38 13) ?_
        refine zr_aload_n dX12_key_43 rfl ?_
        refine zr_getI dX12_key_44 lkX12_38 (by decide) (by decide) rfl (hL.K 38 13) ?_
        refine zr_as (y := (nI 1)) (zput_hit _ _ _ _) ?_
        refine zr_if_leN 52 dX12_key_47 (by decide) (by decide) (fun h47 => absurd h47 (by decide)) (fun h47 => ?_)
        refine zr_iconst (v := nI 0) dX12_key_50 (by decide) ?_
        refine zr_iret dX12_key_51 rfl ?_
        obtain ⟨M9, e9⟩ : ∃ z, z = (zput M 402 (ad 38) (nI 1)) := ⟨_, rfl⟩
        rw [← e9]
        have hF9 : Fl ad 0 [402] [] [] M M9 := by rw [e9]; exact ((Fl.refl ad _ _ _ M).put hL (f := 402) (i := 38))
        have g9_402 : zI M9 402 (ad 38) = (nI 1) := by rw [e9]; exact zput_hit _ _ _ _
        have e8 : sKey w0 n0 fr A = (A, .inr 1) := if_neg (fun z => by have := (i32_lt (k := 8) (by decide)).mp h23; omega)
        rw [e8]
        exact ⟨⟨hF9.lay hL, tK.fl hF9, tV.fl hF9, tM.fl hF9, tS.fl hF9, tB.fl hF9, tX.fl hF9⟩, hF9.mono, g9_402, rfl⟩
      · have q1 := i32_nn h17
        have q2 : n0.toInt ≤ 8 := Int.not_lt.mp (fun z => h23 (Int32.lt_iff_toInt_lt.mpr (by rw [nI_toInt (by decide)]; exact z)))
        have hnn := toInt_nat q1
        have hcl : n0.toInt = (n0.toNatClampNeg : Int) := by show n0.toInt = ((n0.toInt.toNat : Nat) : Int); omega
        obtain ⟨k9, ek⟩ : ∃ z, z = n0.toNatClampNeg := ⟨_, rfl⟩
        rw [← ek] at hnn hcl
        refine zr_asL (lv' := [some (.ref ((ad 38))), some (.long w0), none, some (.int (nI k9)), some (.int fr), some (.int (nI ((aK A).length))), none]) (by rw [hnn]) ?_
        refine zr_iload dX12_key_26 rfl ?_
        refine zr_iload_n dX12_key_28 rfl ?_
        refine zr_iaddN dX12_key_29 ?_
        refine zr_bipush (v := nI 32) dX12_key_30 (by decide) ?_
        refine zr_icmp_leN 39 dX12_key_32 (by decide) (by omega) (by omega) (fun h32 => ?_) (fun h32 => ?_)
        · refine zr_iconst (v := nI 0) dX12_key_39 (by decide) ?_
          refine zr_putI dX12_key_40 lkX12_38 (by decide) (by decide) rfl rfl (hL.K 38 13) ?_
          refine zr_aload_n dX12_key_43 rfl ?_
          refine zr_getI dX12_key_44 lkX12_38 (by decide) (by decide) rfl (hL.K 38 13) ?_
          refine zr_as (y := (nI 0)) (zput_hit _ _ _ _) ?_
          refine zr_if_leN 52 dX12_key_47 (by decide) (by decide) (fun h47 => ?_) (fun h47 => absurd h47 (by decide))
          refine zr_aload_n dX12_key_52 rfl ?_
          refine zr_iload dX12_key_53 rfl ?_
          refine zr_putI dX12_key_55 lkX12_94 (by decide) (by decide) rfl rfl (hL.K 38 13) ?_
          refine zr_iload_n dX12_key_58 rfl ?_
          refine zr_iconst (v := nI 1) dX12_key_59 (by decide) ?_
          refine zr_isub dX12_key_60 ?_
          refine zr_istore (lv' := [some (.ref ((ad 38))), some (.long w0), none, some (.int (nI k9)), some (.int fr), some (.int (nI ((aK A).length))), some (.int (((nI k9) - (nI 1))))]) dX12_key_61 (Nat.le_of_ble_eq_true rfl) (Nat.le_of_ble_eq_true rfl) rfl rfl ?_
          rw [zsub1]
          refine zr_asM (M' := zput (zsetA (zput M 402 (ad 38) (nI 0)) (ad 39) (zapp (zA (zput M 402 (ad 38) (nI 0)) (ad 39)) (aK A).length w0 k9 k9)) 386 (ad 38) (nI ((aK A).length + (k9 - k9)))) (by rw [zapp_all, zsetA_self rfl, Nat.sub_self]; try rfl) ?_
          refine l_mkey (M := (zput M 402 (ad 38) (nI 0))) hT.t402.1 (by omega) (by omega) ?_ k9 (Nat.le_refl k9)
          have hc9 : 0 ≤ n0.toInt ∧ n0.toInt ≤ 8 ∧ (((if fr = 0 then (aK A).length else 0 : Nat) : Int) + n0.toInt ≤ (32 : Nat)) := ⟨q1, q2, by rw [if_pos h2]; omega⟩
          obtain ⟨M9, e9⟩ : ∃ z, z = zput (zsetA (zput M 402 (ad 38) (nI 0)) (ad 39) (zapp (zA (zput M 402 (ad 38) (nI 0)) (ad 39)) (aK A).length w0 k9 0)) 386 (ad 38) (nI ((aK A).length + (k9 - 0))) := ⟨_, rfl⟩
          rw [← e9]
          have hF9 : Fl ad 0 [386, 402] [39] [] M M9 := by rw [e9]; exact (((Fl.refl ad _ _ _ M).put hL (f := 402) (i := 38)).setA hL (i := 39)).put hL (f := 386) (i := 38)
          have g4 : zI M9 402 (ad 38) = nI 0 := by rw [e9]; exact zput_ms (f := 386) (by decide) (zput_hit _ _ _ _)
          have hr9 : zA M9 (ad 39) = zapp (zA M (ad 39)) (aK A).length w0 k9 0 := by rw [e9]; exact zsetA_hit _ _ _
          have hi9 : zI M9 386 (ad 38) = nI ((aK A).length + k9) := by rw [e9]; exact zput_hit _ _ _ _
          have e8 : sKey w0 n0 fr A = ((aM A, aK A ++ wbs w0 k9, aV A, aS A, aO A, aF A, aW A, aC A, aN A), .inl (some (.int (nI ((aK A).length + k9))))) := by
            unfold sKey
            rw [if_pos hc9, if_pos h2, if_pos h2, ← ek]
          rw [e8]
          have hlen : (aK A ++ wbs w0 k9).length = (aK A).length + k9 := by rw [List.length_append, wbs_len]
          have hnew : TaK ad M9 (aK A ++ wbs w0 k9) := ⟨by rw [hlen]; exact hi9, rwl_rc (by rw [hlen, hr9]; exact zapp_rwl _ _ _ _ (rc_rwl tK.2.1)), by rw [hlen]; omega⟩
          exact ⟨⟨hF9.lay hL, hnew, tV.fl hF9, tM.fl hF9, tS.fl hF9, tB.fl hF9, tX.fl hF9⟩, hF9.mono, g4, rfl⟩
        · refine zr_iconst (v := nI 1) dX12_key_35 (by decide) ?_
          refine zr_goto 40 dX12_key_36 (by decide) ?_
          refine zr_putI dX12_key_40 lkX12_38 (by decide) (by decide) rfl rfl (hL.K 38 13) ?_
          refine zr_aload_n dX12_key_43 rfl ?_
          refine zr_getI dX12_key_44 lkX12_38 (by decide) (by decide) rfl (hL.K 38 13) ?_
          refine zr_as (y := (nI 1)) (zput_hit _ _ _ _) ?_
          refine zr_if_leN 52 dX12_key_47 (by decide) (by decide) (fun h47 => absurd h47 (by decide)) (fun h47 => ?_)
          refine zr_iconst (v := nI 0) dX12_key_50 (by decide) ?_
          refine zr_iret dX12_key_51 rfl ?_
          obtain ⟨M9, e9⟩ : ∃ z, z = (zput M 402 (ad 38) (nI 1)) := ⟨_, rfl⟩
          rw [← e9]
          have hF9 : Fl ad 0 [402] [] [] M M9 := by rw [e9]; exact ((Fl.refl ad _ _ _ M).put hL (f := 402) (i := 38))
          have g9_402 : zI M9 402 (ad 38) = (nI 1) := by rw [e9]; exact zput_hit _ _ _ _
          have e8 : sKey w0 n0 fr A = (A, .inr 1) := if_neg (fun z => by have z1 := z.2.2; rw [if_pos h2] at z1; omega)
          rw [e8]
          exact ⟨⟨hF9.lay hL, tK.fl hF9, tV.fl hF9, tM.fl hF9, tS.fl hF9, tB.fl hF9, tX.fl hF9⟩, hF9.mono, g9_402, rfl⟩
  · refine zr_iconst (v := nI 0) dX12_key_5 (by decide) ?_
    refine zr_goto 13 dX12_key_6 (by decide) ?_
    refine zr_istore (lv' := [some (.ref ((ad 38))), some (.long w0), none, some (.int n0), some (.int fr), some (.int (nI 0)), none]) dX12_key_13 (Nat.le_of_ble_eq_true rfl) (Nat.le_of_ble_eq_true rfl) rfl rfl ?_
    refine zr_aload_n dX12_key_15 rfl ?_
    refine zr_iload_n dX12_key_16 rfl ?_
    refine zr_if_lt 35 dX12_key_17 (by decide) (fun h17 => ?_) (fun h17 => ?_)
    · refine zr_iconst (v := nI 1) dX12_key_35 (by decide) ?_
      refine zr_goto 40 dX12_key_36 (by decide) ?_
      refine zr_putI dX12_key_40 lkX12_38 (by decide) (by decide) rfl rfl (hL.K 38 13) ?_
      refine zr_aload_n dX12_key_43 rfl ?_
      refine zr_getI dX12_key_44 lkX12_38 (by decide) (by decide) rfl (hL.K 38 13) ?_
      refine zr_as (y := (nI 1)) (zput_hit _ _ _ _) ?_
      refine zr_if_leN 52 dX12_key_47 (by decide) (by decide) (fun h47 => absurd h47 (by decide)) (fun h47 => ?_)
      refine zr_iconst (v := nI 0) dX12_key_50 (by decide) ?_
      refine zr_iret dX12_key_51 rfl ?_
      obtain ⟨M9, e9⟩ : ∃ z, z = (zput M 402 (ad 38) (nI 1)) := ⟨_, rfl⟩
      rw [← e9]
      have hF9 : Fl ad 0 [402] [] [] M M9 := by rw [e9]; exact ((Fl.refl ad _ _ _ M).put hL (f := 402) (i := 38))
      have g9_402 : zI M9 402 (ad 38) = (nI 1) := by rw [e9]; exact zput_hit _ _ _ _
      have e8 : sKey w0 n0 fr A = (A, .inr 1) := if_neg (fun z => by have := i32_neg h17; omega)
      rw [e8]
      exact ⟨⟨hF9.lay hL, tK.fl hF9, tV.fl hF9, tM.fl hF9, tS.fl hF9, tB.fl hF9, tX.fl hF9⟩, hF9.mono, g9_402, rfl⟩
    · refine zr_iload_n dX12_key_20 rfl ?_
      refine zr_bipush (v := nI 8) dX12_key_21 (by decide) ?_
      refine zr_icmp_gt 35 dX12_key_23 (by decide) (fun h23 => ?_) (fun h23 => ?_)
      · refine zr_iconst (v := nI 1) dX12_key_35 (by decide) ?_
        refine zr_goto 40 dX12_key_36 (by decide) ?_
        refine zr_putI dX12_key_40 lkX12_38 (by decide) (by decide) rfl rfl (hL.K 38 13) ?_
        refine zr_aload_n dX12_key_43 rfl ?_
        refine zr_getI dX12_key_44 lkX12_38 (by decide) (by decide) rfl (hL.K 38 13) ?_
        refine zr_as (y := (nI 1)) (zput_hit _ _ _ _) ?_
        refine zr_if_leN 52 dX12_key_47 (by decide) (by decide) (fun h47 => absurd h47 (by decide)) (fun h47 => ?_)
        refine zr_iconst (v := nI 0) dX12_key_50 (by decide) ?_
        refine zr_iret dX12_key_51 rfl ?_
        obtain ⟨M9, e9⟩ : ∃ z, z = (zput M 402 (ad 38) (nI 1)) := ⟨_, rfl⟩
        rw [← e9]
        have hF9 : Fl ad 0 [402] [] [] M M9 := by rw [e9]; exact ((Fl.refl ad _ _ _ M).put hL (f := 402) (i := 38))
        have g9_402 : zI M9 402 (ad 38) = (nI 1) := by rw [e9]; exact zput_hit _ _ _ _
        have e8 : sKey w0 n0 fr A = (A, .inr 1) := if_neg (fun z => by have := (i32_lt (k := 8) (by decide)).mp h23; omega)
        rw [e8]
        exact ⟨⟨hF9.lay hL, tK.fl hF9, tV.fl hF9, tM.fl hF9, tS.fl hF9, tB.fl hF9, tX.fl hF9⟩, hF9.mono, g9_402, rfl⟩
      · have q1 := i32_nn h17
        have q2 : n0.toInt ≤ 8 := Int.not_lt.mp (fun z => h23 (Int32.lt_iff_toInt_lt.mpr (by rw [nI_toInt (by decide)]; exact z)))
        have hnn := toInt_nat q1
        have hcl : n0.toInt = (n0.toNatClampNeg : Int) := by show n0.toInt = ((n0.toInt.toNat : Nat) : Int); omega
        obtain ⟨k9, ek⟩ : ∃ z, z = n0.toNatClampNeg := ⟨_, rfl⟩
        rw [← ek] at hnn hcl
        refine zr_asL (lv' := [some (.ref ((ad 38))), some (.long w0), none, some (.int (nI k9)), some (.int fr), some (.int (nI 0)), none]) (by rw [hnn]) ?_
        refine zr_iload dX12_key_26 rfl ?_
        refine zr_iload_n dX12_key_28 rfl ?_
        refine zr_iaddN dX12_key_29 ?_
        refine zr_bipush (v := nI 32) dX12_key_30 (by decide) ?_
        refine zr_icmp_leN 39 dX12_key_32 (by decide) (by omega) (by omega) (fun h32 => ?_) (fun h32 => ?_)
        · refine zr_iconst (v := nI 0) dX12_key_39 (by decide) ?_
          refine zr_putI dX12_key_40 lkX12_38 (by decide) (by decide) rfl rfl (hL.K 38 13) ?_
          refine zr_aload_n dX12_key_43 rfl ?_
          refine zr_getI dX12_key_44 lkX12_38 (by decide) (by decide) rfl (hL.K 38 13) ?_
          refine zr_as (y := (nI 0)) (zput_hit _ _ _ _) ?_
          refine zr_if_leN 52 dX12_key_47 (by decide) (by decide) (fun h47 => ?_) (fun h47 => absurd h47 (by decide))
          refine zr_aload_n dX12_key_52 rfl ?_
          refine zr_iload dX12_key_53 rfl ?_
          refine zr_putI dX12_key_55 lkX12_94 (by decide) (by decide) rfl rfl (hL.K 38 13) ?_
          refine zr_iload_n dX12_key_58 rfl ?_
          refine zr_iconst (v := nI 1) dX12_key_59 (by decide) ?_
          refine zr_isub dX12_key_60 ?_
          refine zr_istore (lv' := [some (.ref ((ad 38))), some (.long w0), none, some (.int (nI k9)), some (.int fr), some (.int (nI 0)), some (.int (((nI k9) - (nI 1))))]) dX12_key_61 (Nat.le_of_ble_eq_true rfl) (Nat.le_of_ble_eq_true rfl) rfl rfl ?_
          rw [zsub1]
          refine zr_asM (M' := zput (zsetA (zput M 402 (ad 38) (nI 0)) (ad 39) (zapp (zA (zput M 402 (ad 38) (nI 0)) (ad 39)) 0 w0 k9 k9)) 386 (ad 38) (nI (0 + (k9 - k9)))) (by rw [zapp_all, zsetA_self rfl, Nat.sub_self]; try rfl) ?_
          refine l_mkey (M := (zput M 402 (ad 38) (nI 0))) hT.t402.1 (by omega) (by omega) ?_ k9 (Nat.le_refl k9)
          have hc9 : 0 ≤ n0.toInt ∧ n0.toInt ≤ 8 ∧ (((if fr = 0 then (aK A).length else 0 : Nat) : Int) + n0.toInt ≤ (32 : Nat)) := ⟨q1, q2, by rw [if_neg h2]; omega⟩
          obtain ⟨M9, e9⟩ : ∃ z, z = zput (zsetA (zput M 402 (ad 38) (nI 0)) (ad 39) (zapp (zA (zput M 402 (ad 38) (nI 0)) (ad 39)) 0 w0 k9 0)) 386 (ad 38) (nI (0 + (k9 - 0))) := ⟨_, rfl⟩
          rw [← e9]
          have hF9 : Fl ad 0 [386, 402] [39] [] M M9 := by rw [e9]; exact (((Fl.refl ad _ _ _ M).put hL (f := 402) (i := 38)).setA hL (i := 39)).put hL (f := 386) (i := 38)
          have g4 : zI M9 402 (ad 38) = nI 0 := by rw [e9]; exact zput_ms (f := 386) (by decide) (zput_hit _ _ _ _)
          have hr9 : zA M9 (ad 39) = zapp (zA M (ad 39)) 0 w0 k9 0 := by rw [e9]; exact zsetA_hit _ _ _
          have hi9 : zI M9 386 (ad 38) = nI (0 + k9) := by rw [e9]; exact zput_hit _ _ _ _
          have e8 : sKey w0 n0 fr A = ((aM A, wbs w0 k9, aV A, aS A, aO A, aF A, aW A, aC A, aN A), .inl (some (.int (nI (0 + k9))))) := by
            unfold sKey
            rw [if_pos hc9, if_neg h2, if_neg h2, ← ek]
            rfl
          rw [e8]
          have hlen : (wbs w0 k9).length = 0 + k9 := by rw [wbs_len, Nat.zero_add]
          have hnew : TaK ad M9 (wbs w0 k9) := ⟨by rw [hlen]; exact hi9, rwl_rc (by rw [hlen, hr9]; exact zapp_rwl0 _ _ _), by rw [hlen]; omega⟩
          exact ⟨⟨hF9.lay hL, hnew, tV.fl hF9, tM.fl hF9, tS.fl hF9, tB.fl hF9, tX.fl hF9⟩, hF9.mono, g4, rfl⟩
        · refine zr_iconst (v := nI 1) dX12_key_35 (by decide) ?_
          refine zr_goto 40 dX12_key_36 (by decide) ?_
          refine zr_putI dX12_key_40 lkX12_38 (by decide) (by decide) rfl rfl (hL.K 38 13) ?_
          refine zr_aload_n dX12_key_43 rfl ?_
          refine zr_getI dX12_key_44 lkX12_38 (by decide) (by decide) rfl (hL.K 38 13) ?_
          refine zr_as (y := (nI 1)) (zput_hit _ _ _ _) ?_
          refine zr_if_leN 52 dX12_key_47 (by decide) (by decide) (fun h47 => absurd h47 (by decide)) (fun h47 => ?_)
          refine zr_iconst (v := nI 0) dX12_key_50 (by decide) ?_
          refine zr_iret dX12_key_51 rfl ?_
          obtain ⟨M9, e9⟩ : ∃ z, z = (zput M 402 (ad 38) (nI 1)) := ⟨_, rfl⟩
          rw [← e9]
          have hF9 : Fl ad 0 [402] [] [] M M9 := by rw [e9]; exact ((Fl.refl ad _ _ _ M).put hL (f := 402) (i := 38))
          have g9_402 : zI M9 402 (ad 38) = (nI 1) := by rw [e9]; exact zput_hit _ _ _ _
          have e8 : sKey w0 n0 fr A = (A, .inr 1) := if_neg (fun z => by have z1 := z.2.2; rw [if_neg h2] at z1; omega)
          rw [e8]
          exact ⟨⟨hF9.lay hL, tK.fl hF9, tV.fl hF9, tM.fl hF9, tS.fl hF9, tB.fl hF9, tX.fl hF9⟩, hF9.mono, g9_402, rfl⟩
set_option maxRecDepth 100000 in
set_option maxHeartbeats 4000000 in
theorem l_mvalue {G : zG} {ad : Nat → Nat} {d k0 n0 p k : Nat} {w0 : Int64} {fr : Int32} {f : Nat → Int32} {M : zM} {Q : zOut → zM → Prop} (hL : Lay ad M) (hpk : p + k ≤ 200) (hk : k ≤ 8) (hq : Q (.inl (some (.int (nI (p + (k - 0)))))) (zput (zsetA M (ad 40) (zapp f p w0 k 0)) 387 (ad 38) (nI (p + (k - 0))))) : ∀ r, r ≤ k → zw G mX12_value d k0 n0 Q 64 [some (.ref ((ad 38))), some (.long w0), none, some (.int (nI k)), some (.int fr), some (.int (nI p)), some (.int ((nI r + (-1))))] [] (zput (zsetA M (ad 40) (zapp f p w0 k r)) 387 (ad 38) (nI (p + (k - r)))) := by
  intro r
  induction r with
  | zero =>
    intro _
    show zw G mX12_value d k0 n0 Q 64 [some (.ref ((ad 38))), some (.long w0), none, some (.int (nI k)), some (.int fr), some (.int (nI p)), some (.int ((-1)))] [] _
    refine zr_iload dX12_value_64 rfl ?_
    refine zr_if_ltM 100 dX12_value_66 (by decide) ?_
    refine zr_aload_n dX12_value_100 rfl ?_
    refine zr_getI dX12_value_101 lkX12_97 (by decide) (by decide) rfl (hL.K 38 13) ?_
    refine zr_as (y := (nI (p + (k - 0)))) (zput_hit _ _ _ _) ?_
    refine zr_iret dX12_value_104 rfl ?_
    exact hq
  | succ r ih =>
    intro hr
    rw [pk_m1]
    refine zr_iload dX12_value_64 rfl ?_
    refine zr_if_ltN 100 dX12_value_66 (by decide) (by omega) ?_
    refine zr_aload_n dX12_value_69 rfl ?_
    refine zr_getR dX12_value_70 lkX12_13 (by decide) (by decide) rfl (hL.K 38 13) (hL.R 385 38 40) ?_
    refine zr_aload_n dX12_value_73 rfl ?_
    refine zr_dup dX12_value_74 rfl ?_
    refine zr_getI dX12_value_75 lkX12_97 (by decide) (by decide) rfl (hL.K 38 13) ?_
    refine zr_as (y := (nI (p + (k - (r + 1))))) (zput_hit _ _ _ _) ?_
    refine zr_dup_x1 dX12_value_78 rfl rfl ?_
    refine zr_iconst (v := nI 1) dX12_value_79 (by decide) ?_
    refine zr_iaddN dX12_value_80 ?_
    refine zr_putI dX12_value_81 lkX12_97 (by decide) (by decide) rfl rfl (hL.K 38 13) ?_
    refine zr_lload_n dX12_value_84 rfl ?_
    refine zr_bipush (v := nI 8) dX12_value_85 (by decide) ?_
    refine zr_iload dX12_value_87 rfl ?_
    refine zr_imulN dX12_value_89 ?_
    refine zr_lshr dX12_value_90 ?_
    refine zr_l2i dX12_value_91 ?_
    refine zr_i2b dX12_value_92 ?_
    refine zr_bastN dX12_value_93 (hL.K 40 14) (hL.N 40 200) (by omega) (by omega) ?_
    refine zr_iinc (w := (nI r + (-1))) (lv' := [some (.ref ((ad 38))), some (.long w0), none, some (.int (nI k)), some (.int fr), some (.int (nI p)), some (.int ((nI r + (-1))))]) dX12_value_94 (Nat.le_of_ble_eq_true rfl) (Nat.le_of_ble_eq_true rfl) rfl rfl (by rw [show Int32.ofInt (-1) = (-1 : Int32) from by decide]) rfl ?_
    refine zr_goto 64 dX12_value_97 (by decide) ?_
    have e1 : (zsetA (zput (zput (zsetA M (ad 40) (zapp f p w0 k (r + 1))) 387 (ad 38) (nI (p + (k - (r + 1))))) 387 (ad 38) (nI ((p + (k - (r + 1))) + 1))) (ad 40) (upd (zA (zput (zput (zsetA M (ad 40) (zapp f p w0 k (r + 1))) 387 (ad 38) (nI (p + (k - (r + 1))))) 387 (ad 38) (nI ((p + (k - (r + 1))) + 1))) (ad 40)) (p + (k - (r + 1))) (vp_nar .byte (Int32.toInt8 (Int64.toInt32 (w0 >>> (Int32.toInt64 (nI (8 * r)) &&& 63)))).toInt32))) = (zput (zsetA M (ad 40) (zapp f p w0 k r)) 387 (ad 38) (nI (p + (k - r)))) := by
      rw [show p + (k - (r + 1)) + 1 = p + (k - r) by omega, zput_put]
      rw [show zA (zput (zsetA M (ad 40) (zapp f p w0 k (r + 1))) 387 (ad 38) (nI (p + (k - r)))) (ad 40) = zapp f p w0 k (r + 1) from zsetA_hit _ _ _]
      rw [show vp_nar .byte (Int32.toInt8 (Int64.toInt32 (w0 >>> (Int32.toInt64 (nI (8 * r)) &&& 63)))).toInt32 = zwb w0 r from rfl, zapp_step (by omega), zsetA_put, zsetA_setA]
    rw [e1]
    exact ih (by omega)
set_option maxRecDepth 100000 in
set_option maxHeartbeats 4000000 in
theorem b_value {G : zG} {ad : Nat → Nat} {d : Nat} {w0 : Int64} {n0 fr : Int32} {A : As} {M : zM} (hd : 2 ≤ d) (hcb : zC M ≤ 600128 ∧ zS M ≤ 7301098) (hT : Ta ad M A)  : zMet G mX12_value d [.ref ((ad 38)), .long w0, .int n0, .int fr] M (Mst ad M (sVal w0 n0 fr A) cd1 (some (.int 0))) := by
  obtain ⟨hL, tK, tV, tM, tS, tB, tX⟩ := id hT
  have hbd := hT.bd
  refine zMet_of (by decide +kernel) (Nat.le_of_ble_eq_true rfl) rfl hcb ?_
  show zw G mX12_value d _ _ _ 0 [some (.ref ((ad 38))), some (.long w0), none, some (.int n0), some (.int fr), none, none] [] M
  refine zr_iload dX12_value_0 rfl ?_
  refine zr_if_eq 9 dX12_value_2 (by decide) (fun h2 => ?_) (fun h2 => ?_)
  · refine zr_aload_n dX12_value_9 rfl ?_
    refine zr_getI dX12_value_10 lkX12_97 (by decide) (by decide) rfl (hL.K 38 13) ?_
    refine zr_as (y := (nI ((aV A).length))) tV.1 ?_
    refine zr_istore (lv' := [some (.ref ((ad 38))), some (.long w0), none, some (.int n0), some (.int fr), some (.int (nI ((aV A).length))), none]) dX12_value_13 (Nat.le_of_ble_eq_true rfl) (Nat.le_of_ble_eq_true rfl) rfl rfl ?_
    refine zr_aload_n dX12_value_15 rfl ?_
    refine zr_iload_n dX12_value_16 rfl ?_
    refine zr_if_lt 36 dX12_value_17 (by decide) (fun h17 => ?_) (fun h17 => ?_)
    · refine zr_iconst (v := nI 1) dX12_value_36 (by decide) ?_
      refine zr_goto 41 dX12_value_37 (by decide) ?_
      refine zr_putI dX12_value_41 lkX12_38 (by decide) (by decide) rfl rfl (hL.K 38 13) ?_
      refine zr_aload_n dX12_value_44 rfl ?_
      refine zr_getI dX12_value_45 lkX12_38 (by decide) (by decide) rfl (hL.K 38 13) ?_
      refine zr_as (y := (nI 1)) (zput_hit _ _ _ _) ?_
      refine zr_if_leN 53 dX12_value_48 (by decide) (by decide) (fun h48 => absurd h48 (by decide)) (fun h48 => ?_)
      refine zr_iconst (v := nI 0) dX12_value_51 (by decide) ?_
      refine zr_iret dX12_value_52 rfl ?_
      obtain ⟨M9, e9⟩ : ∃ z, z = (zput M 402 (ad 38) (nI 1)) := ⟨_, rfl⟩
      rw [← e9]
      have hF9 : Fl ad 0 [402] [] [] M M9 := by rw [e9]; exact ((Fl.refl ad _ _ _ M).put hL (f := 402) (i := 38))
      have g9_402 : zI M9 402 (ad 38) = (nI 1) := by rw [e9]; exact zput_hit _ _ _ _
      have e8 : sVal w0 n0 fr A = (A, .inr 1) := if_neg (fun z => by have := i32_neg h17; omega)
      rw [e8]
      exact ⟨⟨hF9.lay hL, tK.fl hF9, tV.fl hF9, tM.fl hF9, tS.fl hF9, tB.fl hF9, tX.fl hF9⟩, hF9.mono, g9_402, rfl⟩
    · refine zr_iload_n dX12_value_20 rfl ?_
      refine zr_bipush (v := nI 8) dX12_value_21 (by decide) ?_
      refine zr_icmp_gt 36 dX12_value_23 (by decide) (fun h23 => ?_) (fun h23 => ?_)
      · refine zr_iconst (v := nI 1) dX12_value_36 (by decide) ?_
        refine zr_goto 41 dX12_value_37 (by decide) ?_
        refine zr_putI dX12_value_41 lkX12_38 (by decide) (by decide) rfl rfl (hL.K 38 13) ?_
        refine zr_aload_n dX12_value_44 rfl ?_
        refine zr_getI dX12_value_45 lkX12_38 (by decide) (by decide) rfl (hL.K 38 13) ?_
        refine zr_as (y := (nI 1)) (zput_hit _ _ _ _) ?_
        refine zr_if_leN 53 dX12_value_48 (by decide) (by decide) (fun h48 => absurd h48 (by decide)) (fun h48 => ?_)
        refine zr_iconst (v := nI 0) dX12_value_51 (by decide) ?_
        refine zr_iret dX12_value_52 rfl ?_
        obtain ⟨M9, e9⟩ : ∃ z, z = (zput M 402 (ad 38) (nI 1)) := ⟨_, rfl⟩
        rw [← e9]
        have hF9 : Fl ad 0 [402] [] [] M M9 := by rw [e9]; exact ((Fl.refl ad _ _ _ M).put hL (f := 402) (i := 38))
        have g9_402 : zI M9 402 (ad 38) = (nI 1) := by rw [e9]; exact zput_hit _ _ _ _
        have e8 : sVal w0 n0 fr A = (A, .inr 1) := if_neg (fun z => by have := (i32_lt (k := 8) (by decide)).mp h23; omega)
        rw [e8]
        exact ⟨⟨hF9.lay hL, tK.fl hF9, tV.fl hF9, tM.fl hF9, tS.fl hF9, tB.fl hF9, tX.fl hF9⟩, hF9.mono, g9_402, rfl⟩
      · have q1 := i32_nn h17
        have q2 : n0.toInt ≤ 8 := Int.not_lt.mp (fun z => h23 (Int32.lt_iff_toInt_lt.mpr (by rw [nI_toInt (by decide)]; exact z)))
        have hnn := toInt_nat q1
        have hcl : n0.toInt = (n0.toNatClampNeg : Int) := by show n0.toInt = ((n0.toInt.toNat : Nat) : Int); omega
        obtain ⟨k9, ek⟩ : ∃ z, z = n0.toNatClampNeg := ⟨_, rfl⟩
        rw [← ek] at hnn hcl
        refine zr_asL (lv' := [some (.ref ((ad 38))), some (.long w0), none, some (.int (nI k9)), some (.int fr), some (.int (nI ((aV A).length))), none]) (by rw [hnn]) ?_
        refine zr_iload dX12_value_26 rfl ?_
        refine zr_iload_n dX12_value_28 rfl ?_
        refine zr_iaddN dX12_value_29 ?_
        refine zr_sipush (v := nI 200) dX12_value_30 (by decide) ?_
        refine zr_icmp_leN 40 dX12_value_33 (by decide) (by omega) (by omega) (fun h33 => ?_) (fun h33 => ?_)
        · refine zr_iconst (v := nI 0) dX12_value_40 (by decide) ?_
          refine zr_putI dX12_value_41 lkX12_38 (by decide) (by decide) rfl rfl (hL.K 38 13) ?_
          refine zr_aload_n dX12_value_44 rfl ?_
          refine zr_getI dX12_value_45 lkX12_38 (by decide) (by decide) rfl (hL.K 38 13) ?_
          refine zr_as (y := (nI 0)) (zput_hit _ _ _ _) ?_
          refine zr_if_leN 53 dX12_value_48 (by decide) (by decide) (fun h48 => ?_) (fun h48 => absurd h48 (by decide))
          refine zr_aload_n dX12_value_53 rfl ?_
          refine zr_iload dX12_value_54 rfl ?_
          refine zr_putI dX12_value_56 lkX12_97 (by decide) (by decide) rfl rfl (hL.K 38 13) ?_
          refine zr_iload_n dX12_value_59 rfl ?_
          refine zr_iconst (v := nI 1) dX12_value_60 (by decide) ?_
          refine zr_isub dX12_value_61 ?_
          refine zr_istore (lv' := [some (.ref ((ad 38))), some (.long w0), none, some (.int (nI k9)), some (.int fr), some (.int (nI ((aV A).length))), some (.int (((nI k9) - (nI 1))))]) dX12_value_62 (Nat.le_of_ble_eq_true rfl) (Nat.le_of_ble_eq_true rfl) rfl rfl ?_
          rw [zsub1]
          refine zr_asM (M' := zput (zsetA (zput M 402 (ad 38) (nI 0)) (ad 40) (zapp (zA (zput M 402 (ad 38) (nI 0)) (ad 40)) (aV A).length w0 k9 k9)) 387 (ad 38) (nI ((aV A).length + (k9 - k9)))) (by rw [zapp_all, zsetA_self rfl, Nat.sub_self]; try rfl) ?_
          refine l_mvalue (M := (zput M 402 (ad 38) (nI 0))) hT.t402.1 (by omega) (by omega) ?_ k9 (Nat.le_refl k9)
          have hc9 : 0 ≤ n0.toInt ∧ n0.toInt ≤ 8 ∧ (((if fr = 0 then (aV A).length else 0 : Nat) : Int) + n0.toInt ≤ (200 : Nat)) := ⟨q1, q2, by rw [if_pos h2]; omega⟩
          obtain ⟨M9, e9⟩ : ∃ z, z = zput (zsetA (zput M 402 (ad 38) (nI 0)) (ad 40) (zapp (zA (zput M 402 (ad 38) (nI 0)) (ad 40)) (aV A).length w0 k9 0)) 387 (ad 38) (nI ((aV A).length + (k9 - 0))) := ⟨_, rfl⟩
          rw [← e9]
          have hF9 : Fl ad 0 [387, 402] [40] [] M M9 := by rw [e9]; exact (((Fl.refl ad _ _ _ M).put hL (f := 402) (i := 38)).setA hL (i := 40)).put hL (f := 387) (i := 38)
          have g4 : zI M9 402 (ad 38) = nI 0 := by rw [e9]; exact zput_ms (f := 387) (by decide) (zput_hit _ _ _ _)
          have hr9 : zA M9 (ad 40) = zapp (zA M (ad 40)) (aV A).length w0 k9 0 := by rw [e9]; exact zsetA_hit _ _ _
          have hi9 : zI M9 387 (ad 38) = nI ((aV A).length + k9) := by rw [e9]; exact zput_hit _ _ _ _
          have e8 : sVal w0 n0 fr A = ((aM A, aK A, aV A ++ wbs w0 k9, aS A, aO A, aF A, aW A, aC A, aN A), .inl (some (.int (nI ((aV A).length + k9))))) := by
            unfold sVal
            rw [if_pos hc9, if_pos h2, if_pos h2, ← ek]
          rw [e8]
          have hlen : (aV A ++ wbs w0 k9).length = (aV A).length + k9 := by rw [List.length_append, wbs_len]
          have hnew : TaV ad M9 (aV A ++ wbs w0 k9) := ⟨by rw [hlen]; exact hi9, rwl_rc (by rw [hlen, hr9]; exact zapp_rwl _ _ _ _ (rc_rwl tV.2.1)), by rw [hlen]; omega⟩
          exact ⟨⟨hF9.lay hL, tK.fl hF9, hnew, tM.fl hF9, tS.fl hF9, tB.fl hF9, tX.fl hF9⟩, hF9.mono, g4, rfl⟩
        · refine zr_iconst (v := nI 1) dX12_value_36 (by decide) ?_
          refine zr_goto 41 dX12_value_37 (by decide) ?_
          refine zr_putI dX12_value_41 lkX12_38 (by decide) (by decide) rfl rfl (hL.K 38 13) ?_
          refine zr_aload_n dX12_value_44 rfl ?_
          refine zr_getI dX12_value_45 lkX12_38 (by decide) (by decide) rfl (hL.K 38 13) ?_
          refine zr_as (y := (nI 1)) (zput_hit _ _ _ _) ?_
          refine zr_if_leN 53 dX12_value_48 (by decide) (by decide) (fun h48 => absurd h48 (by decide)) (fun h48 => ?_)
          refine zr_iconst (v := nI 0) dX12_value_51 (by decide) ?_
          refine zr_iret dX12_value_52 rfl ?_
          obtain ⟨M9, e9⟩ : ∃ z, z = (zput M 402 (ad 38) (nI 1)) := ⟨_, rfl⟩
          rw [← e9]
          have hF9 : Fl ad 0 [402] [] [] M M9 := by rw [e9]; exact ((Fl.refl ad _ _ _ M).put hL (f := 402) (i := 38))
          have g9_402 : zI M9 402 (ad 38) = (nI 1) := by rw [e9]; exact zput_hit _ _ _ _
          have e8 : sVal w0 n0 fr A = (A, .inr 1) := if_neg (fun z => by have z1 := z.2.2; rw [if_pos h2] at z1; omega)
          rw [e8]
          exact ⟨⟨hF9.lay hL, tK.fl hF9, tV.fl hF9, tM.fl hF9, tS.fl hF9, tB.fl hF9, tX.fl hF9⟩, hF9.mono, g9_402, rfl⟩
  · refine zr_iconst (v := nI 0) dX12_value_5 (by decide) ?_
    refine zr_goto 13 dX12_value_6 (by decide) ?_
    refine zr_istore (lv' := [some (.ref ((ad 38))), some (.long w0), none, some (.int n0), some (.int fr), some (.int (nI 0)), none]) dX12_value_13 (Nat.le_of_ble_eq_true rfl) (Nat.le_of_ble_eq_true rfl) rfl rfl ?_
    refine zr_aload_n dX12_value_15 rfl ?_
    refine zr_iload_n dX12_value_16 rfl ?_
    refine zr_if_lt 36 dX12_value_17 (by decide) (fun h17 => ?_) (fun h17 => ?_)
    · refine zr_iconst (v := nI 1) dX12_value_36 (by decide) ?_
      refine zr_goto 41 dX12_value_37 (by decide) ?_
      refine zr_putI dX12_value_41 lkX12_38 (by decide) (by decide) rfl rfl (hL.K 38 13) ?_
      refine zr_aload_n dX12_value_44 rfl ?_
      refine zr_getI dX12_value_45 lkX12_38 (by decide) (by decide) rfl (hL.K 38 13) ?_
      refine zr_as (y := (nI 1)) (zput_hit _ _ _ _) ?_
      refine zr_if_leN 53 dX12_value_48 (by decide) (by decide) (fun h48 => absurd h48 (by decide)) (fun h48 => ?_)
      refine zr_iconst (v := nI 0) dX12_value_51 (by decide) ?_
      refine zr_iret dX12_value_52 rfl ?_
      obtain ⟨M9, e9⟩ : ∃ z, z = (zput M 402 (ad 38) (nI 1)) := ⟨_, rfl⟩
      rw [← e9]
      have hF9 : Fl ad 0 [402] [] [] M M9 := by rw [e9]; exact ((Fl.refl ad _ _ _ M).put hL (f := 402) (i := 38))
      have g9_402 : zI M9 402 (ad 38) = (nI 1) := by rw [e9]; exact zput_hit _ _ _ _
      have e8 : sVal w0 n0 fr A = (A, .inr 1) := if_neg (fun z => by have := i32_neg h17; omega)
      rw [e8]
      exact ⟨⟨hF9.lay hL, tK.fl hF9, tV.fl hF9, tM.fl hF9, tS.fl hF9, tB.fl hF9, tX.fl hF9⟩, hF9.mono, g9_402, rfl⟩
    · refine zr_iload_n dX12_value_20 rfl ?_
      refine zr_bipush (v := nI 8) dX12_value_21 (by decide) ?_
      refine zr_icmp_gt 36 dX12_value_23 (by decide) (fun h23 => ?_) (fun h23 => ?_)
      · refine zr_iconst (v := nI 1) dX12_value_36 (by decide) ?_
        refine zr_goto 41 dX12_value_37 (by decide) ?_
        refine zr_putI dX12_value_41 lkX12_38 (by decide) (by decide) rfl rfl (hL.K 38 13) ?_
        refine zr_aload_n dX12_value_44 rfl ?_
        refine zr_getI dX12_value_45 lkX12_38 (by decide) (by decide) rfl (hL.K 38 13) ?_
        refine zr_as (y := (nI 1)) (zput_hit _ _ _ _) ?_
        refine zr_if_leN 53 dX12_value_48 (by decide) (by decide) (fun h48 => absurd h48 (by decide)) (fun h48 => ?_)
        refine zr_iconst (v := nI 0) dX12_value_51 (by decide) ?_
        refine zr_iret dX12_value_52 rfl ?_
        obtain ⟨M9, e9⟩ : ∃ z, z = (zput M 402 (ad 38) (nI 1)) := ⟨_, rfl⟩
        rw [← e9]
        have hF9 : Fl ad 0 [402] [] [] M M9 := by rw [e9]; exact ((Fl.refl ad _ _ _ M).put hL (f := 402) (i := 38))
        have g9_402 : zI M9 402 (ad 38) = (nI 1) := by rw [e9]; exact zput_hit _ _ _ _
        have e8 : sVal w0 n0 fr A = (A, .inr 1) := if_neg (fun z => by have := (i32_lt (k := 8) (by decide)).mp h23; omega)
        rw [e8]
        exact ⟨⟨hF9.lay hL, tK.fl hF9, tV.fl hF9, tM.fl hF9, tS.fl hF9, tB.fl hF9, tX.fl hF9⟩, hF9.mono, g9_402, rfl⟩
      · have q1 := i32_nn h17
        have q2 : n0.toInt ≤ 8 := Int.not_lt.mp (fun z => h23 (Int32.lt_iff_toInt_lt.mpr (by rw [nI_toInt (by decide)]; exact z)))
        have hnn := toInt_nat q1
        have hcl : n0.toInt = (n0.toNatClampNeg : Int) := by show n0.toInt = ((n0.toInt.toNat : Nat) : Int); omega
        obtain ⟨k9, ek⟩ : ∃ z, z = n0.toNatClampNeg := ⟨_, rfl⟩
        rw [← ek] at hnn hcl
        refine zr_asL (lv' := [some (.ref ((ad 38))), some (.long w0), none, some (.int (nI k9)), some (.int fr), some (.int (nI 0)), none]) (by rw [hnn]) ?_
        refine zr_iload dX12_value_26 rfl ?_
        refine zr_iload_n dX12_value_28 rfl ?_
        refine zr_iaddN dX12_value_29 ?_
        refine zr_sipush (v := nI 200) dX12_value_30 (by decide) ?_
        refine zr_icmp_leN 40 dX12_value_33 (by decide) (by omega) (by omega) (fun h33 => ?_) (fun h33 => ?_)
        · refine zr_iconst (v := nI 0) dX12_value_40 (by decide) ?_
          refine zr_putI dX12_value_41 lkX12_38 (by decide) (by decide) rfl rfl (hL.K 38 13) ?_
          refine zr_aload_n dX12_value_44 rfl ?_
          refine zr_getI dX12_value_45 lkX12_38 (by decide) (by decide) rfl (hL.K 38 13) ?_
          refine zr_as (y := (nI 0)) (zput_hit _ _ _ _) ?_
          refine zr_if_leN 53 dX12_value_48 (by decide) (by decide) (fun h48 => ?_) (fun h48 => absurd h48 (by decide))
          refine zr_aload_n dX12_value_53 rfl ?_
          refine zr_iload dX12_value_54 rfl ?_
          refine zr_putI dX12_value_56 lkX12_97 (by decide) (by decide) rfl rfl (hL.K 38 13) ?_
          refine zr_iload_n dX12_value_59 rfl ?_
          refine zr_iconst (v := nI 1) dX12_value_60 (by decide) ?_
          refine zr_isub dX12_value_61 ?_
          refine zr_istore (lv' := [some (.ref ((ad 38))), some (.long w0), none, some (.int (nI k9)), some (.int fr), some (.int (nI 0)), some (.int (((nI k9) - (nI 1))))]) dX12_value_62 (Nat.le_of_ble_eq_true rfl) (Nat.le_of_ble_eq_true rfl) rfl rfl ?_
          rw [zsub1]
          refine zr_asM (M' := zput (zsetA (zput M 402 (ad 38) (nI 0)) (ad 40) (zapp (zA (zput M 402 (ad 38) (nI 0)) (ad 40)) 0 w0 k9 k9)) 387 (ad 38) (nI (0 + (k9 - k9)))) (by rw [zapp_all, zsetA_self rfl, Nat.sub_self]; try rfl) ?_
          refine l_mvalue (M := (zput M 402 (ad 38) (nI 0))) hT.t402.1 (by omega) (by omega) ?_ k9 (Nat.le_refl k9)
          have hc9 : 0 ≤ n0.toInt ∧ n0.toInt ≤ 8 ∧ (((if fr = 0 then (aV A).length else 0 : Nat) : Int) + n0.toInt ≤ (200 : Nat)) := ⟨q1, q2, by rw [if_neg h2]; omega⟩
          obtain ⟨M9, e9⟩ : ∃ z, z = zput (zsetA (zput M 402 (ad 38) (nI 0)) (ad 40) (zapp (zA (zput M 402 (ad 38) (nI 0)) (ad 40)) 0 w0 k9 0)) 387 (ad 38) (nI (0 + (k9 - 0))) := ⟨_, rfl⟩
          rw [← e9]
          have hF9 : Fl ad 0 [387, 402] [40] [] M M9 := by rw [e9]; exact (((Fl.refl ad _ _ _ M).put hL (f := 402) (i := 38)).setA hL (i := 40)).put hL (f := 387) (i := 38)
          have g4 : zI M9 402 (ad 38) = nI 0 := by rw [e9]; exact zput_ms (f := 387) (by decide) (zput_hit _ _ _ _)
          have hr9 : zA M9 (ad 40) = zapp (zA M (ad 40)) 0 w0 k9 0 := by rw [e9]; exact zsetA_hit _ _ _
          have hi9 : zI M9 387 (ad 38) = nI (0 + k9) := by rw [e9]; exact zput_hit _ _ _ _
          have e8 : sVal w0 n0 fr A = ((aM A, aK A, wbs w0 k9, aS A, aO A, aF A, aW A, aC A, aN A), .inl (some (.int (nI (0 + k9))))) := by
            unfold sVal
            rw [if_pos hc9, if_neg h2, if_neg h2, ← ek]
            rfl
          rw [e8]
          have hlen : (wbs w0 k9).length = 0 + k9 := by rw [wbs_len, Nat.zero_add]
          have hnew : TaV ad M9 (wbs w0 k9) := ⟨by rw [hlen]; exact hi9, rwl_rc (by rw [hlen, hr9]; exact zapp_rwl0 _ _ _), by rw [hlen]; omega⟩
          exact ⟨⟨hF9.lay hL, tK.fl hF9, hnew, tM.fl hF9, tS.fl hF9, tB.fl hF9, tX.fl hF9⟩, hF9.mono, g4, rfl⟩
        · refine zr_iconst (v := nI 1) dX12_value_36 (by decide) ?_
          refine zr_goto 41 dX12_value_37 (by decide) ?_
          refine zr_putI dX12_value_41 lkX12_38 (by decide) (by decide) rfl rfl (hL.K 38 13) ?_
          refine zr_aload_n dX12_value_44 rfl ?_
          refine zr_getI dX12_value_45 lkX12_38 (by decide) (by decide) rfl (hL.K 38 13) ?_
          refine zr_as (y := (nI 1)) (zput_hit _ _ _ _) ?_
          refine zr_if_leN 53 dX12_value_48 (by decide) (by decide) (fun h48 => absurd h48 (by decide)) (fun h48 => ?_)
          refine zr_iconst (v := nI 0) dX12_value_51 (by decide) ?_
          refine zr_iret dX12_value_52 rfl ?_
          obtain ⟨M9, e9⟩ : ∃ z, z = (zput M 402 (ad 38) (nI 1)) := ⟨_, rfl⟩
          rw [← e9]
          have hF9 : Fl ad 0 [402] [] [] M M9 := by rw [e9]; exact ((Fl.refl ad _ _ _ M).put hL (f := 402) (i := 38))
          have g9_402 : zI M9 402 (ad 38) = (nI 1) := by rw [e9]; exact zput_hit _ _ _ _
          have e8 : sVal w0 n0 fr A = (A, .inr 1) := if_neg (fun z => by have z1 := z.2.2; rw [if_neg h2] at z1; omega)
          rw [e8]
          exact ⟨⟨hF9.lay hL, tK.fl hF9, tV.fl hF9, tM.fl hF9, tS.fl hF9, tB.fl hF9, tX.fl hF9⟩, hF9.mono, g9_402, rfl⟩
set_option maxRecDepth 100000 in
set_option maxHeartbeats 4000000 in
theorem l_mbytesK {G : zG} {ad : Nat → Nat} {d k0 n0 len p9 : Nat} {vl : Int32} {M : zM} {Q : zOut → zM → Prop} (hL : Lay ad M) (hvl : vl = 0) (hlen : zI M 386 (ad 38) = nI len) (hl : len ≤ 32) (hp : p9 ≤ 200) (hq : Q (.inl (some (.long (zwd (zA M (ad 39)) len p9 8)))) M) : ∀ (m i : Nat), p9 + 8 - i = m → p9 ≤ i → i ≤ p9 + 8 → zw G mX12_bytes d k0 n0 Q 34 [some (.ref ((ad 38))), some (.int vl), some (.int (nI p9)), some (.long ((zwd (zA M (ad 39)) len p9 (i - p9)))), none, some (.int (nI i))] [] M := by
  intro m
  induction m using Nat.strongRecOn with
  | _ m ih =>
    intro i hm hi1 hi2
    refine zr_iload dX12_bytes_34 rfl ?_
    refine zr_iload_n dX12_bytes_36 rfl ?_
    refine zr_bipush (v := nI 8) dX12_bytes_37 (by decide) ?_
    refine zr_iaddN dX12_bytes_39 ?_
    refine zr_icmp_geN 111 dX12_bytes_40 (by decide) (by omega) (by omega) (fun h40 => ?_) (fun h40 => ?_)
    · refine zr_lload_n dX12_bytes_111 rfl ?_
      refine zr_lret dX12_bytes_112 rfl ?_
      rw [show i - p9 = 8 by omega]
      exact hq
    · refine zr_lload_n dX12_bytes_43 rfl ?_
      refine zr_bipush (v := nI 8) dX12_bytes_44 (by decide) ?_
      refine zr_lshl dX12_bytes_46 ?_
      refine zr_iload_n dX12_bytes_47 rfl ?_
      refine zr_if_eq 78 dX12_bytes_48 (by decide) (fun h48 => ?_) (fun h48 => ?_)
      · refine zr_iload dX12_bytes_78 rfl ?_
        refine zr_aload_n dX12_bytes_80 rfl ?_
        refine zr_getI dX12_bytes_81 lkX12_94 (by decide) (by decide) rfl (hL.K 38 13) ?_
        refine zr_as (y := (nI len)) hlen ?_
        refine zr_icmp_geN 101 dX12_bytes_84 (by decide) (by omega) (by omega) (fun h84 => ?_) (fun h84 => ?_)
        · refine zr_iconst (v := nI 0) dX12_bytes_101 (by decide) ?_
          refine zr_i2l dX12_bytes_102 ?_
          refine zr_lor dX12_bytes_103 ?_
          refine zr_lstore_n (lv' := [some (.ref ((ad 38))), some (.int vl), some (.int (nI p9)), some (.long ((((zwd (zA M (ad 39)) len p9 (i - p9)) <<< (Int32.toInt64 (nI 8) &&& 63)) ||| (Int32.toInt64 (nI 0))))), none, some (.int (nI i))]) dX12_bytes_104 (Nat.le_of_ble_eq_true rfl) (Nat.le_of_ble_eq_true rfl) rfl rfl ?_
          refine zr_iincN (n := 1) (lv' := [some (.ref ((ad 38))), some (.int vl), some (.int (nI p9)), some (.long ((((zwd (zA M (ad 39)) len p9 (i - p9)) <<< (Int32.toInt64 (nI 8) &&& 63)) ||| (Int32.toInt64 (nI 0))))), none, some (.int (nI (i + 1)))]) dX12_bytes_105 (Nat.le_of_ble_eq_true rfl) (Nat.le_of_ble_eq_true rfl) rfl rfl rfl ?_
          refine zr_goto 34 dX12_bytes_108 (by decide) ?_
          rw [show (((zwd (zA M (ad 39)) len p9 (i - p9)) <<< (Int32.toInt64 (nI 8) &&& 63)) ||| (Int32.toInt64 (nI 0))) = zwd (zA M (ad 39)) len p9 (i + 1 - p9) from by
            rw [show i + 1 - p9 = (i - p9) + 1 by omega]; show _ = (zwd (zA M (ad 39)) len p9 (i - p9) <<< _) ||| _
            rw [show p9 + (i - p9) = i by omega]; unfold zgb; first | (exfalso; omega) | rw [if_pos (by omega)] | rw [if_neg (by omega)]]
          exact ih _ (by omega) (i + 1) rfl (by omega) (by omega)
        · refine zr_aload_n dX12_bytes_87 rfl ?_
          refine zr_getR dX12_bytes_88 lkX12_9 (by decide) (by decide) rfl (hL.K 38 13) (hL.R 384 38 39) ?_
          refine zr_iload dX12_bytes_91 rfl ?_
          refine zr_baldN dX12_bytes_93 (hL.K 39 14) (hL.N 39 32) (by omega) (by omega) (fun f93 => ?_)
          refine zr_sipush (v := nI 255) dX12_bytes_94 (by decide) ?_
          refine zr_iand255 dX12_bytes_97 ?_
          refine zr_goto 102 dX12_bytes_98 (by decide) ?_
          refine zr_i2l dX12_bytes_102 ?_
          refine zr_lor dX12_bytes_103 ?_
          refine zr_lstore_n (lv' := [some (.ref ((ad 38))), some (.int vl), some (.int (nI p9)), some (.long ((((zwd (zA M (ad 39)) len p9 (i - p9)) <<< (Int32.toInt64 (nI 8) &&& 63)) ||| (Int32.toInt64 (nI (zb (zA M (ad 39) i))))))), none, some (.int (nI i))]) dX12_bytes_104 (Nat.le_of_ble_eq_true rfl) (Nat.le_of_ble_eq_true rfl) rfl rfl ?_
          refine zr_iincN (n := 1) (lv' := [some (.ref ((ad 38))), some (.int vl), some (.int (nI p9)), some (.long ((((zwd (zA M (ad 39)) len p9 (i - p9)) <<< (Int32.toInt64 (nI 8) &&& 63)) ||| (Int32.toInt64 (nI (zb (zA M (ad 39) i))))))), none, some (.int (nI (i + 1)))]) dX12_bytes_105 (Nat.le_of_ble_eq_true rfl) (Nat.le_of_ble_eq_true rfl) rfl rfl rfl ?_
          refine zr_goto 34 dX12_bytes_108 (by decide) ?_
          rw [show (((zwd (zA M (ad 39)) len p9 (i - p9)) <<< (Int32.toInt64 (nI 8) &&& 63)) ||| (Int32.toInt64 (nI (zb (zA M (ad 39) i))))) = zwd (zA M (ad 39)) len p9 (i + 1 - p9) from by
            rw [show i + 1 - p9 = (i - p9) + 1 by omega]; show _ = (zwd (zA M (ad 39)) len p9 (i - p9) <<< _) ||| _
            rw [show p9 + (i - p9) = i by omega]; unfold zgb; first | (exfalso; omega) | rw [if_pos (by omega)] | rw [if_neg (by omega)]]
          exact ih _ (by omega) (i + 1) rfl (by omega) (by omega)
      · exact absurd hvl h48
set_option maxRecDepth 100000 in
set_option maxHeartbeats 4000000 in
theorem l_mbytesV {G : zG} {ad : Nat → Nat} {d k0 n0 len p9 : Nat} {vl : Int32} {M : zM} {Q : zOut → zM → Prop} (hL : Lay ad M) (hvl : ¬ vl = 0) (hlen : zI M 387 (ad 38) = nI len) (hl : len ≤ 200) (hp : p9 ≤ 200) (hq : Q (.inl (some (.long (zwd (zA M (ad 40)) len p9 8)))) M) : ∀ (m i : Nat), p9 + 8 - i = m → p9 ≤ i → i ≤ p9 + 8 → zw G mX12_bytes d k0 n0 Q 34 [some (.ref ((ad 38))), some (.int vl), some (.int (nI p9)), some (.long ((zwd (zA M (ad 40)) len p9 (i - p9)))), none, some (.int (nI i))] [] M := by
  intro m
  induction m using Nat.strongRecOn with
  | _ m ih =>
    intro i hm hi1 hi2
    refine zr_iload dX12_bytes_34 rfl ?_
    refine zr_iload_n dX12_bytes_36 rfl ?_
    refine zr_bipush (v := nI 8) dX12_bytes_37 (by decide) ?_
    refine zr_iaddN dX12_bytes_39 ?_
    refine zr_icmp_geN 111 dX12_bytes_40 (by decide) (by omega) (by omega) (fun h40 => ?_) (fun h40 => ?_)
    · refine zr_lload_n dX12_bytes_111 rfl ?_
      refine zr_lret dX12_bytes_112 rfl ?_
      rw [show i - p9 = 8 by omega]
      exact hq
    · refine zr_lload_n dX12_bytes_43 rfl ?_
      refine zr_bipush (v := nI 8) dX12_bytes_44 (by decide) ?_
      refine zr_lshl dX12_bytes_46 ?_
      refine zr_iload_n dX12_bytes_47 rfl ?_
      refine zr_if_eq 78 dX12_bytes_48 (by decide) (fun h48 => ?_) (fun h48 => ?_)
      · exact absurd h48 hvl
      · refine zr_iload dX12_bytes_51 rfl ?_
        refine zr_aload_n dX12_bytes_53 rfl ?_
        refine zr_getI dX12_bytes_54 lkX12_97 (by decide) (by decide) rfl (hL.K 38 13) ?_
        refine zr_as (y := (nI len)) hlen ?_
        refine zr_icmp_geN 74 dX12_bytes_57 (by decide) (by omega) (by omega) (fun h57 => ?_) (fun h57 => ?_)
        · refine zr_iconst (v := nI 0) dX12_bytes_74 (by decide) ?_
          refine zr_goto 102 dX12_bytes_75 (by decide) ?_
          refine zr_i2l dX12_bytes_102 ?_
          refine zr_lor dX12_bytes_103 ?_
          refine zr_lstore_n (lv' := [some (.ref ((ad 38))), some (.int vl), some (.int (nI p9)), some (.long ((((zwd (zA M (ad 40)) len p9 (i - p9)) <<< (Int32.toInt64 (nI 8) &&& 63)) ||| (Int32.toInt64 (nI 0))))), none, some (.int (nI i))]) dX12_bytes_104 (Nat.le_of_ble_eq_true rfl) (Nat.le_of_ble_eq_true rfl) rfl rfl ?_
          refine zr_iincN (n := 1) (lv' := [some (.ref ((ad 38))), some (.int vl), some (.int (nI p9)), some (.long ((((zwd (zA M (ad 40)) len p9 (i - p9)) <<< (Int32.toInt64 (nI 8) &&& 63)) ||| (Int32.toInt64 (nI 0))))), none, some (.int (nI (i + 1)))]) dX12_bytes_105 (Nat.le_of_ble_eq_true rfl) (Nat.le_of_ble_eq_true rfl) rfl rfl rfl ?_
          refine zr_goto 34 dX12_bytes_108 (by decide) ?_
          rw [show (((zwd (zA M (ad 40)) len p9 (i - p9)) <<< (Int32.toInt64 (nI 8) &&& 63)) ||| (Int32.toInt64 (nI 0))) = zwd (zA M (ad 40)) len p9 (i + 1 - p9) from by
            rw [show i + 1 - p9 = (i - p9) + 1 by omega]; show _ = (zwd (zA M (ad 40)) len p9 (i - p9) <<< _) ||| _
            rw [show p9 + (i - p9) = i by omega]; unfold zgb; first | (exfalso; omega) | rw [if_pos (by omega)] | rw [if_neg (by omega)]]
          exact ih _ (by omega) (i + 1) rfl (by omega) (by omega)
        · refine zr_aload_n dX12_bytes_60 rfl ?_
          refine zr_getR dX12_bytes_61 lkX12_13 (by decide) (by decide) rfl (hL.K 38 13) (hL.R 385 38 40) ?_
          refine zr_iload dX12_bytes_64 rfl ?_
          refine zr_baldN dX12_bytes_66 (hL.K 40 14) (hL.N 40 200) (by omega) (by omega) (fun f66 => ?_)
          refine zr_sipush (v := nI 255) dX12_bytes_67 (by decide) ?_
          refine zr_iand255 dX12_bytes_70 ?_
          refine zr_goto 102 dX12_bytes_71 (by decide) ?_
          refine zr_i2l dX12_bytes_102 ?_
          refine zr_lor dX12_bytes_103 ?_
          refine zr_lstore_n (lv' := [some (.ref ((ad 38))), some (.int vl), some (.int (nI p9)), some (.long ((((zwd (zA M (ad 40)) len p9 (i - p9)) <<< (Int32.toInt64 (nI 8) &&& 63)) ||| (Int32.toInt64 (nI (zb (zA M (ad 40) i))))))), none, some (.int (nI i))]) dX12_bytes_104 (Nat.le_of_ble_eq_true rfl) (Nat.le_of_ble_eq_true rfl) rfl rfl ?_
          refine zr_iincN (n := 1) (lv' := [some (.ref ((ad 38))), some (.int vl), some (.int (nI p9)), some (.long ((((zwd (zA M (ad 40)) len p9 (i - p9)) <<< (Int32.toInt64 (nI 8) &&& 63)) ||| (Int32.toInt64 (nI (zb (zA M (ad 40) i))))))), none, some (.int (nI (i + 1)))]) dX12_bytes_105 (Nat.le_of_ble_eq_true rfl) (Nat.le_of_ble_eq_true rfl) rfl rfl rfl ?_
          refine zr_goto 34 dX12_bytes_108 (by decide) ?_
          rw [show (((zwd (zA M (ad 40)) len p9 (i - p9)) <<< (Int32.toInt64 (nI 8) &&& 63)) ||| (Int32.toInt64 (nI (zb (zA M (ad 40) i))))) = zwd (zA M (ad 40)) len p9 (i + 1 - p9) from by
            rw [show i + 1 - p9 = (i - p9) + 1 by omega]; show _ = (zwd (zA M (ad 40)) len p9 (i - p9) <<< _) ||| _
            rw [show p9 + (i - p9) = i by omega]; unfold zgb; first | (exfalso; omega) | rw [if_pos (by omega)] | rw [if_neg (by omega)]]
          exact ih _ (by omega) (i + 1) rfl (by omega) (by omega)
set_option maxRecDepth 100000 in
set_option maxHeartbeats 4000000 in
theorem b_bytes {G : zG} {ad : Nat → Nat} {d : Nat} {vl at0 : Int32} {A : As} {M : zM} (hd : 2 ≤ d) (hcb : zC M ≤ 600128 ∧ zS M ≤ 7301098) (hT : Ta ad M A)  : zMet G mX12_bytes d [.ref ((ad 38)), .int vl, .int at0] M (Mst ad M (sBytes vl at0 A) cd1 (some (.long 0))) := by
  obtain ⟨hL, tK, tV, tM, tS, tB, tX⟩ := id hT
  have hbd := hT.bd
  refine zMet_of (by decide +kernel) (Nat.le_of_ble_eq_true rfl) rfl hcb ?_
  show zw G mX12_bytes d _ _ _ 0 [some (.ref ((ad 38))), some (.int vl), some (.int at0), none, none, none] [] M
  refine zr_aload_n dX12_bytes_0 rfl ?_
  refine zr_iload_n dX12_bytes_1 rfl ?_
  refine zr_if_lt 12 dX12_bytes_2 (by decide) (fun h2 => ?_) (fun h2 => ?_)
  · refine zr_iconst (v := nI 1) dX12_bytes_12 (by decide) ?_
    refine zr_goto 17 dX12_bytes_13 (by decide) ?_
    refine zr_putI dX12_bytes_17 lkX12_38 (by decide) (by decide) rfl rfl (hL.K 38 13) ?_
    refine zr_aload_n dX12_bytes_20 rfl ?_
    refine zr_getI dX12_bytes_21 lkX12_38 (by decide) (by decide) rfl (hL.K 38 13) ?_
    refine zr_as (y := (nI 1)) (zput_hit _ _ _ _) ?_
    refine zr_if_leN 29 dX12_bytes_24 (by decide) (by decide) (fun h24 => absurd h24 (by decide)) (fun h24 => ?_)
    refine zr_lconst (v := 0) dX12_bytes_27 (by decide) ?_
    refine zr_lret dX12_bytes_28 rfl ?_
    obtain ⟨M9, e9⟩ : ∃ z, z = (zput M 402 (ad 38) (nI 1)) := ⟨_, rfl⟩
    rw [← e9]
    have hF9 : Fl ad 0 [402] [] [] M M9 := by rw [e9]; exact ((Fl.refl ad _ _ _ M).put hL (f := 402) (i := 38))
    have g9_402 : zI M9 402 (ad 38) = (nI 1) := by rw [e9]; exact zput_hit _ _ _ _
    have e8 : sBytes vl at0 A = (A, .inr 1) := if_pos (Or.inl (i32_neg h2))
    rw [e8]
    exact ⟨⟨hF9.lay hL, tK.fl hF9, tV.fl hF9, tM.fl hF9, tS.fl hF9, tB.fl hF9, tX.fl hF9⟩, hF9.mono, g9_402, rfl⟩
  · refine zr_iload_n dX12_bytes_5 rfl ?_
    refine zr_sipush (v := nI 200) dX12_bytes_6 (by decide) ?_
    refine zr_icmp_le 16 dX12_bytes_9 (by decide) (fun h9 => ?_) (fun h9 => ?_)
    · refine zr_iconst (v := nI 0) dX12_bytes_16 (by decide) ?_
      refine zr_putI dX12_bytes_17 lkX12_38 (by decide) (by decide) rfl rfl (hL.K 38 13) ?_
      refine zr_aload_n dX12_bytes_20 rfl ?_
      refine zr_getI dX12_bytes_21 lkX12_38 (by decide) (by decide) rfl (hL.K 38 13) ?_
      refine zr_as (y := (nI 0)) (zput_hit _ _ _ _) ?_
      refine zr_if_leN 29 dX12_bytes_24 (by decide) (by decide) (fun h24 => ?_) (fun h24 => absurd h24 (by decide))
      have q1 := i32_nn h2
      have q2 : at0.toInt ≤ 200 := (i32_le (by decide)).mp h9
      have hnn := toInt_nat q1
      have hcl : at0.toInt = (at0.toNatClampNeg : Int) := by show at0.toInt = ((at0.toInt.toNat : Nat) : Int); omega
      obtain ⟨p9, ep⟩ : ∃ z, z = at0.toNatClampNeg := ⟨_, rfl⟩
      rw [← ep] at hnn hcl
      refine zr_asL (lv' := [some (.ref ((ad 38))), some (.int vl), some (.int (nI p9)), none, none, none]) (by rw [hnn]) ?_
      refine zr_lconst (v := 0) dX12_bytes_29 (by decide) ?_
      refine zr_lstore_n (lv' := [some (.ref ((ad 38))), some (.int vl), some (.int (nI p9)), some (.long 0), none, none]) dX12_bytes_30 (Nat.le_of_ble_eq_true rfl) (Nat.le_of_ble_eq_true rfl) rfl rfl ?_
      refine zr_iload_n dX12_bytes_31 rfl ?_
      refine zr_istore (lv' := [some (.ref ((ad 38))), some (.int vl), some (.int (nI p9)), some (.long 0), none, some (.int (nI p9))]) dX12_bytes_32 (Nat.le_of_ble_eq_true rfl) (Nat.le_of_ble_eq_true rfl) rfl rfl ?_
      obtain ⟨M9, e9⟩ : ∃ z, z = (zput M 402 (ad 38) (nI 0)) := ⟨_, rfl⟩
      rw [← e9]
      have hF9 : Fl ad 0 [402] [] [] M M9 := by rw [e9]; exact ((Fl.refl ad _ _ _ M).put hL (f := 402) (i := 38))
      have g9_402 : zI M9 402 (ad 38) = (nI 0) := by rw [e9]; exact zput_hit _ _ _ _
      have hL9 := hF9.lay hL
      by_cases hvl : vl = 0
      · have e8 : sBytes vl at0 A = (A, .inl (some (.long (wdl (aK A) p9 8)))) := by
          unfold sBytes
          rw [if_neg (by omega), if_pos hvl, ← ep]
        rw [e8]
        have t9 := tK.fl hF9
        have h := l_mbytesK (G := G) (d := d) (k0 := zC M) (n0 := zS M) (vl := vl) (Q := Mst ad M (A, .inl (some (.long (wdl (aK A) p9 8)))) cd1 (some (.long 0))) hL9 hvl t9.1 t9.2.2 (by omega) (p9 := p9) ⟨⟨hF9.lay hL, tK.fl hF9, tV.fl hF9, tM.fl hF9, tS.fl hF9, tB.fl hF9, tX.fl hF9⟩, hF9.mono, g9_402, by rw [zwd_wdl _ _ _ (rc_rwl t9.2.1)]; rfl⟩ _ p9 rfl (Nat.le_refl p9) (by omega)
        rw [Nat.sub_self] at h
        exact h
      · have e8 : sBytes vl at0 A = (A, .inl (some (.long (wdl (aV A) p9 8)))) := by
          unfold sBytes
          rw [if_neg (by omega), if_neg hvl, ← ep]
        rw [e8]
        have t9 := tV.fl hF9
        have h := l_mbytesV (G := G) (d := d) (k0 := zC M) (n0 := zS M) (vl := vl) (Q := Mst ad M (A, .inl (some (.long (wdl (aV A) p9 8)))) cd1 (some (.long 0))) hL9 hvl t9.1 t9.2.2 (by omega) (p9 := p9) ⟨⟨hF9.lay hL, tK.fl hF9, tV.fl hF9, tM.fl hF9, tS.fl hF9, tB.fl hF9, tX.fl hF9⟩, hF9.mono, g9_402, by rw [zwd_wdl _ _ _ (rc_rwl t9.2.1)]; rfl⟩ _ p9 rfl (Nat.le_refl p9) (by omega)
        rw [Nat.sub_self] at h
        exact h
    · refine zr_iconst (v := nI 1) dX12_bytes_12 (by decide) ?_
      refine zr_goto 17 dX12_bytes_13 (by decide) ?_
      refine zr_putI dX12_bytes_17 lkX12_38 (by decide) (by decide) rfl rfl (hL.K 38 13) ?_
      refine zr_aload_n dX12_bytes_20 rfl ?_
      refine zr_getI dX12_bytes_21 lkX12_38 (by decide) (by decide) rfl (hL.K 38 13) ?_
      refine zr_as (y := (nI 1)) (zput_hit _ _ _ _) ?_
      refine zr_if_leN 29 dX12_bytes_24 (by decide) (by decide) (fun h24 => absurd h24 (by decide)) (fun h24 => ?_)
      refine zr_lconst (v := 0) dX12_bytes_27 (by decide) ?_
      refine zr_lret dX12_bytes_28 rfl ?_
      obtain ⟨M9, e9⟩ : ∃ z, z = (zput M 402 (ad 38) (nI 1)) := ⟨_, rfl⟩
      rw [← e9]
      have hF9 : Fl ad 0 [402] [] [] M M9 := by rw [e9]; exact ((Fl.refl ad _ _ _ M).put hL (f := 402) (i := 38))
      have g9_402 : zI M9 402 (ad 38) = (nI 1) := by rw [e9]; exact zput_hit _ _ _ _
      have e8 : sBytes vl at0 A = (A, .inr 1) := if_pos (Or.inr (by have := (i32_lt (k := 200) (by decide)).mp (Int32.not_le.mp h9); exact this))
      rw [e8]
      exact ⟨⟨hF9.lay hL, tK.fl hF9, tV.fl hF9, tM.fl hF9, tS.fl hF9, tB.fl hF9, tX.fl hF9⟩, hF9.mono, g9_402, rfl⟩
set_option maxRecDepth 100000 in
set_option maxHeartbeats 4000000 in
theorem l_msnap {G : zG} {ad : Nat → Nat} {d k0 n0 : Nat} {A : As} {M : zM} {Q : zOut → zM → Prop} (hL : Lay ad M) (tS : TaS ad M (aN A)) (hk : ∀ i, i ≤ 8 → (∀ x, x < i → aN A x ≠ none) → (i = 8 ∨ (i < 8 ∧ aN A i = none)) → zw G mX12_snapshot d k0 n0 Q 26 [some (.ref ((ad 38))), some (.int (nI i))] [] M) : ∀ (m i : Nat), 8 - i = m → i ≤ 8 → (∀ x, x < i → aN A x ≠ none) → zw G mX12_snapshot d k0 n0 Q 2 [some (.ref ((ad 38))), some (.int (nI i))] [] M := by
  intro m
  induction m using Nat.strongRecOn with
  | _ m ih =>
    intro i hm hi hinv
    refine zr_iload_n dX12_snapshot_2 rfl ?_
    refine zr_bipush (v := nI 8) dX12_snapshot_3 (by decide) ?_
    refine zr_icmp_geN 26 dX12_snapshot_5 (by decide) (by omega) (by decide) (fun h5 => ?_) (fun h5 => ?_)
    · exact hk i hi hinv (Or.inl (by omega))
    · refine zr_aload_n dX12_snapshot_8 rfl ?_
      refine zr_getI dX12_snapshot_9 lkX12_91 (by decide) (by decide) rfl (hL.K 38 13) ?_
      refine zr_as (y := (nI (svb (aN A) 8))) tS.1 ?_
      refine zr_iload_n dX12_snapshot_12 rfl ?_
      refine zr_ishr dX12_snapshot_13 ?_
      refine zr_iconst (v := nI 1) dX12_snapshot_14 (by decide) ?_
      refine zr_iand dX12_snapshot_15 ?_
      refine zr_as (y := nI (svb (aN A) 8 / 2 ^ i % 2)) (bit_rd ⟨svb (aN A) 8, svb8 _⟩ ⟨i, by omega⟩) ?_
      have hbit := svb_bit (aN A) (show i < 8 by omega)
      have hb2 : svb (aN A) 8 / 2 ^ i % 2 < 2 := Nat.mod_lt _ (by decide)
      refine zr_iconst (v := nI 1) dX12_snapshot_16 (by decide) ?_
      refine zr_icmp_neN 26 dX12_snapshot_17 (by decide) (by omega) (by decide) (fun h17 => ?_) (fun h17 => ?_)
      · exact hk i hi hinv (Or.inr ⟨by omega, Classical.byContradiction (fun z => h17 (hbit.mpr z))⟩)
      · refine zr_iincN (n := 1) (lv' := [some (.ref ((ad 38))), some (.int (nI (i + 1)))]) dX12_snapshot_20 (Nat.le_of_ble_eq_true rfl) (Nat.le_of_ble_eq_true rfl) rfl rfl rfl ?_
        refine zr_goto 2 dX12_snapshot_23 (by decide) ?_
        exact ih _ (by omega) (i + 1) rfl (by omega) (fun x hx => by rcases Nat.lt_or_ge x i with z | z; exact hinv x z; rw [show x = i by omega]; exact hbit.mp h17)
set_option maxRecDepth 100000 in
set_option maxHeartbeats 4000000 in
theorem b_snapshot {G : zG} {ad : Nat → Nat} {d : Nat} {A : As} {M : zM} (hd : 2 ≤ d) (hcb : zC M ≤ 600128 ∧ zS M ≤ 7301098) (hT : Ta ad M A)  : zMet G mX12_snapshot d [.ref ((ad 38))] M (Mst ad M (sSnap A) cd1 (some (.int 0))) := by
  obtain ⟨hL, tK, tV, tM, tS, tB, tX⟩ := id hT
  have hbd := hT.bd
  refine zMet_of (by decide +kernel) (Nat.le_of_ble_eq_true rfl) rfl hcb ?_
  show zw G mX12_snapshot d _ _ _ 0 [some (.ref ((ad 38))), none] [] M
  refine zr_iconst (v := nI 0) dX12_snapshot_0 (by decide) ?_
  refine zr_istore_n (lv' := [some (.ref ((ad 38))), some (.int (nI 0))]) dX12_snapshot_1 (Nat.le_of_ble_eq_true rfl) (Nat.le_of_ble_eq_true rfl) rfl rfl ?_
  refine l_msnap hL tS (fun i hi hinv hfr => ?_) _ 0 rfl (by decide) (fun x hx => by omega)
  refine zr_aload_n dX12_snapshot_26 rfl ?_
  refine zr_aload_n dX12_snapshot_27 rfl ?_
  refine zr_getI dX12_snapshot_28 lkX12_75 (by decide) (by decide) rfl (hL.K 38 13) ?_
  refine zr_as (y := (nI (aF A))) tX.1 ?_
  refine zr_if_neN 40 dX12_snapshot_31 (by decide) (by omega) (fun h31 => ?_) (fun h31 => ?_)
  · refine zr_iconst (v := nI 1) dX12_snapshot_40 (by decide) ?_
    refine zr_goto 45 dX12_snapshot_41 (by decide) ?_
    refine zr_putI dX12_snapshot_45 lkX12_38 (by decide) (by decide) rfl rfl (hL.K 38 13) ?_
    refine zr_aload_n dX12_snapshot_48 rfl ?_
    refine zr_getI dX12_snapshot_49 lkX12_38 (by decide) (by decide) rfl (hL.K 38 13) ?_
    refine zr_as (y := (nI 1)) (zput_hit _ _ _ _) ?_
    refine zr_if_leN 57 dX12_snapshot_52 (by decide) (by decide) (fun h52 => absurd h52 (by decide)) (fun h52 => ?_)
    refine zr_iconst (v := nI 0) dX12_snapshot_55 (by decide) ?_
    refine zr_iret dX12_snapshot_56 rfl ?_
    obtain ⟨M9, e9⟩ : ∃ z, z = (zput M 402 (ad 38) (nI 1)) := ⟨_, rfl⟩
    rw [← e9]
    have hF9 : Fl ad 0 [402] [] [] M M9 := by rw [e9]; exact ((Fl.refl ad _ _ _ M).put hL (f := 402) (i := 38))
    have g9_402 : zI M9 402 (ad 38) = (nI 1) := by rw [e9]; exact zput_hit _ _ _ _
    have e8 : sSnap A = (A, .inr 0) := if_pos (by omega)
    rw [e8]
    exact ⟨⟨hF9.lay hL, tK.fl hF9, tV.fl hF9, tM.fl hF9, tS.fl hF9, tB.fl hF9, tX.fl hF9⟩, hF9.mono, g9_402, rfl⟩
  · refine zr_iload_n dX12_snapshot_34 rfl ?_
    refine zr_bipush (v := nI 8) dX12_snapshot_35 (by decide) ?_
    refine zr_icmp_neN 44 dX12_snapshot_37 (by decide) (by omega) (by decide) (fun h37 => ?_) (fun h37 => ?_)
    · refine zr_iconst (v := nI 0) dX12_snapshot_44 (by decide) ?_
      refine zr_putI dX12_snapshot_45 lkX12_38 (by decide) (by decide) rfl rfl (hL.K 38 13) ?_
      refine zr_aload_n dX12_snapshot_48 rfl ?_
      refine zr_getI dX12_snapshot_49 lkX12_38 (by decide) (by decide) rfl (hL.K 38 13) ?_
      refine zr_as (y := (nI 0)) (zput_hit _ _ _ _) ?_
      refine zr_if_leN 57 dX12_snapshot_52 (by decide) (by decide) (fun h52 => ?_) (fun h52 => absurd h52 (by decide))
      refine zr_aload_n dX12_snapshot_57 rfl ?_
      refine zr_dup dX12_snapshot_58 rfl ?_
      refine zr_getI dX12_snapshot_59 lkX12_91 (by decide) (by decide) rfl (hL.K 38 13) ?_
      refine zr_as (y := (nI (svb (aN A) 8))) (zput_ms (by decide) tS.1) ?_
      refine zr_iconst (v := nI 1) dX12_snapshot_62 (by decide) ?_
      refine zr_iload_n dX12_snapshot_63 rfl ?_
      refine zr_ishl dX12_snapshot_64 ?_
      refine zr_ior dX12_snapshot_65 ?_
      refine zr_putI dX12_snapshot_66 lkX12_91 (by decide) (by decide) rfl rfl (hL.K 38 13) ?_
      obtain ⟨M1, e1⟩ : ∃ z, z = (zput (zput M 402 (ad 38) (nI 0)) 394 (ad 38) ((nI (svb (aN A) 8)) ||| ((nI 1) <<< ((nI i) &&& 31)))) := ⟨_, rfl⟩
      rw [← e1]
      have hF1 : Fl ad 0 [394, 402] [] [] M M1 := by rw [e1]; exact (((Fl.refl ad _ _ _ M).put hL (f := 402) (i := 38)).put hL (f := 394) (i := 38))
      have g1_394 : zI M1 394 (ad 38) = ((nI (svb (aN A) 8)) ||| ((nI 1) <<< ((nI i) &&& 31))) := by rw [e1]; exact zput_hit _ _ _ _
      have g1_402 : zI M1 402 (ad 38) = (nI 0) := by rw [e1]; exact (zput_ms (f := 394) (by decide) (zput_hit _ _ _ _))
      have hL1 := hF1.lay hL
      have tM1 := tM.fl hF1
      have hi8 : i < 8 := by omega
      have hn9 : aN A i = none := by rcases hfr with z | z; omega; exact z.2
      refine zr_aload_n dX12_snapshot_69 rfl ?_
      refine zr_getR dX12_snapshot_70 lkX12_16 (by decide) (by decide) rfl (hL1.K 38 13) (hL1.R 388 38 41) ?_
      refine zr_iconst (v := nI 0) dX12_snapshot_73 (by decide) ?_
      refine zr_aload_n dX12_snapshot_74 rfl ?_
      refine zr_getR dX12_snapshot_75 lkX12_24 (by decide) (by decide) rfl (hL1.K 38 13) (hL1.R 390 38 43) ?_
      refine zr_iload_n dX12_snapshot_78 rfl ?_
      refine zr_sipush (v := nI 16400) dX12_snapshot_79 (by decide) ?_
      refine zr_imulN dX12_snapshot_82 ?_
      refine zr_aload_n dX12_snapshot_83 rfl ?_
      refine zr_getI dX12_snapshot_84 lkX12_58 (by decide) (by decide) rfl (hL1.K 38 13) ?_
      refine zr_as (y := (nI ((Mb (aM A)).length))) tM1.1 ?_
      refine zr_copyN dX12_snapshot_87 mlX12_52 (Or.inl ⟨(hL1.K 41 14), (hL1.K 43 14)⟩) (hL1.N 41 16400) (hL1.N 43 131200) (by omega) (by omega) (by omega) (by omega) (by omega) (Nat.le_of_ble_eq_true rfl) ?_
      refine zr_aload_n dX12_snapshot_90 rfl ?_
      refine zr_getR dX12_snapshot_91 lkX12_27 (by decide) (by decide) rfl (hL1.K 38 13) (hL1.R 393 38 44) ?_
      refine zr_iload_n dX12_snapshot_94 rfl ?_
      refine zr_aload_n dX12_snapshot_95 rfl ?_
      refine zr_getI dX12_snapshot_96 lkX12_58 (by decide) (by decide) rfl (hL1.K 38 13) ?_
      refine zr_as (y := (nI ((Mb (aM A)).length))) tM1.1 ?_
      refine zr_iastN dX12_snapshot_99 (hL1.K 44 15) (hL1.N 44 8) (by omega) (by omega) ?_
      refine zr_iload_n dX12_snapshot_100 rfl ?_
      refine zr_iret dX12_snapshot_101 rfl ?_
      obtain ⟨M2, e2⟩ : ∃ z, z = (zsetA (zsetA M1 (ad 43) (va_cpy (zA M1 (ad 41)) (zA M1 (ad 43)) 0 (i * 16400) (Mb (aM A)).length)) (ad 44) (upd (zA (zsetA M1 (ad 43) (va_cpy (zA M1 (ad 41)) (zA M1 (ad 43)) 0 (i * 16400) (Mb (aM A)).length)) (ad 44)) i (nI ((Mb (aM A)).length)))) := ⟨_, rfl⟩
      rw [← e2]
      have hF2 : Fl ad 0 [] [43, 44] [] M1 M2 := by rw [e2]; exact ((Fl.refl ad _ _ _ M1).setA hL1 (i := 43)).setA hL1 (i := 44)
      have e8 : sSnap A = ((aM A, aK A, aV A, aS A, aO A, aF A, aW A, aC A, fun j => if j = i then some (aM A) else aN A j), .inl (some (.int (nI i)))) := by
        unfold sSnap
        rw [if_neg (by omega), fre_some (j := i) (Nat.zero_le _) (by omega) hn9 (fun x _ hx => hinv x hx)]
      rw [e8]
      have h43 : zA M2 (ad 43) = (va_cpy (zA M1 (ad 41)) (zA M1 (ad 43)) 0 (i * 16400) (Mb (aM A)).length) := by rw [e2]; exact (va_up_ne _ _ (hL.ne (by decide))).trans (zsetA_hit _ _ _)
      have h44 : zA M2 (ad 44) = upd (zA M1 (ad 44)) i (nI (Mb (aM A)).length) := by rw [e2]; refine (zsetA_hit _ _ _).trans ?_; rw [show zA (zsetA M1 (ad 43) (va_cpy (zA M1 (ad 41)) (zA M1 (ad 43)) 0 (i * 16400) (Mb (aM A)).length)) (ad 44) = zA M1 (ad 44) from va_up_ne _ _ (hL.ne (by decide))]
      have e41 : zA M1 (ad 41) = zA M (ad 41) := hF1.rA (by decide) (by decide)
      have e43 : zA M1 (ad 43) = zA M (ad 43) := hF1.rA (by decide) (by decide)
      have e44 : zA M1 (ad 44) = zA M (ad 44) := hF1.rA (by decide) (by decide)
      have hnew : TaS ad M2 (fun j => if j = i then some (aM A) else aN A j) := by
        refine ⟨?_, fun x ms hx hs => ?_⟩
        · rw [svb_set (aN A) (aM A) hi8 hn9, hF2.rI (by decide) (by decide), g1_394]
          exact bit_set ⟨svb (aN A) 8, svb8 _⟩ ⟨i, hi8⟩ (by have z1 := svb_bit (aN A) hi8; have z2 : svb (aN A) 8 / 2 ^ i % 2 < 2 := Nat.mod_lt _ (by decide); have z3 : ¬ svb (aN A) 8 / 2 ^ i % 2 = 1 := fun z => z1.mp z hn9; show svb (aN A) 8 / 2 ^ i % 2 = 0; omega)
        · dsimp only at hs
          rw [h43, h44, e41, e43, e44]
          by_cases e : x = i
          · rw [if_pos e] at hs
            cases hs
            subst e
            refine ⟨tM.2.2, if_pos rfl, tM.2.1.congr (fun j hj => ?_)⟩
            show va_cpy _ _ _ _ _ (x * 16400 + j) = _
            rw [pk_cpy_in (by omega) (by omega)]
            congr 1
            omega
          · rw [if_neg e] at hs
            obtain ⟨b1, b2, b3⟩ := tS.2 x ms hx hs
            have hmb := b1.mb (Nat.le_refl _)
            refine ⟨b1, (if_neg e).trans b2, b3.congr (fun j hj => ?_)⟩
            show va_cpy _ _ _ _ _ (x * 16400 + j) = _
            exact pk_cpy_out (by omega)
      exact ⟨⟨hF2.lay hL1, (tK.fl hF1).fl hF2, (tV.fl hF1).fl hF2, tM1.fl hF2, hnew, (tB.fl hF1).fl hF2, (tX.fl hF1).fl hF2⟩, hF1.mono.trans0 hF2.mono, (hF2.rI (by decide) (by decide)).trans g1_402, rfl⟩
    · refine zr_iconst (v := nI 1) dX12_snapshot_40 (by decide) ?_
      refine zr_goto 45 dX12_snapshot_41 (by decide) ?_
      refine zr_putI dX12_snapshot_45 lkX12_38 (by decide) (by decide) rfl rfl (hL.K 38 13) ?_
      refine zr_aload_n dX12_snapshot_48 rfl ?_
      refine zr_getI dX12_snapshot_49 lkX12_38 (by decide) (by decide) rfl (hL.K 38 13) ?_
      refine zr_as (y := (nI 1)) (zput_hit _ _ _ _) ?_
      refine zr_if_leN 57 dX12_snapshot_52 (by decide) (by decide) (fun h52 => absurd h52 (by decide)) (fun h52 => ?_)
      refine zr_iconst (v := nI 0) dX12_snapshot_55 (by decide) ?_
      refine zr_iret dX12_snapshot_56 rfl ?_
      obtain ⟨M9, e9⟩ : ∃ z, z = (zput M 402 (ad 38) (nI 1)) := ⟨_, rfl⟩
      rw [← e9]
      have hF9 : Fl ad 0 [402] [] [] M M9 := by rw [e9]; exact ((Fl.refl ad _ _ _ M).put hL (f := 402) (i := 38))
      have g9_402 : zI M9 402 (ad 38) = (nI 1) := by rw [e9]; exact zput_hit _ _ _ _
      have e8 : sSnap A = (A, .inr 0) := by unfold sSnap; rw [if_neg (by omega), fre_none (fun x _ hx => hinv x (by omega))]
      rw [e8]
      exact ⟨⟨hF9.lay hL, tK.fl hF9, tV.fl hF9, tM.fl hF9, tS.fl hF9, tB.fl hF9, tX.fl hF9⟩, hF9.mono, g9_402, rfl⟩
