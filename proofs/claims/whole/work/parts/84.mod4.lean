/-! ===== LsmStoreModel (4) ===== -/
set_option maxRecDepth 100000 in
set_option maxHeartbeats 4000000 in
theorem b_reopen {G : zG} {ad : Nat → Nat} {d : Nat} {A : As} {M : zM} (hd : 3 ≤ d) (hcb : zC M ≤ 600128 ∧ zS M ≤ 7301098) (hT : Ta ad M A)  : zMet G mX12_reopen d [.ref ((ad 38))] M (Mst ad M (sReo A) cd1 (some (.int 0))) := by
  obtain ⟨hL, tK, tV, tM, tS, tB, tX⟩ := id hT
  have hbd := hT.bd
  refine zMet_of (by decide +kernel) (Nat.le_of_ble_eq_true rfl) rfl hcb ?_
  show zw G mX12_reopen d _ _ _ 0 [some (.ref ((ad 38))), none] [] M
  refine zr_aload_n dX12_reopen_0 rfl ?_
  refine zr_getI dX12_reopen_1 lkX12_34 (by decide) (by decide) rfl (hL.K 38 13) ?_
  refine zr_as (y := (nI (aW A))) tX.2.2.2.1 ?_
  refine zr_iconst (v := nI 2) dX12_reopen_4 (by decide) ?_
  refine zr_icmp_neN 12 dX12_reopen_5 (by decide) (by omega) (by decide) (fun h5 => ?_) (fun h5 => ?_)
  · refine zr_iconst (v := nI 0) dX12_reopen_12 (by decide) ?_
    refine zr_istore_n (lv' := [some (.ref ((ad 38))), some (.int (nI 0))]) dX12_reopen_13 (Nat.le_of_ble_eq_true rfl) (Nat.le_of_ble_eq_true rfl) rfl rfl ?_
    refine zr_aload_n dX12_reopen_14 rfl ?_
    refine zr_iconst (v := nI 0) dX12_reopen_15 (by decide) ?_
    refine zr_putI dX12_reopen_16 lkX12_38 (by decide) (by decide) rfl rfl (hL.K 38 13) ?_
    refine zr_aload_n dX12_reopen_19 rfl ?_
    refine zr_iconst (v := nI 3) dX12_reopen_20 (by decide) ?_
    refine zr_putI dX12_reopen_21 lkX12_34 (by decide) (by decide) rfl rfl (hL.K 38 13) ?_
    refine zr_aload_n dX12_reopen_24 rfl ?_
    refine zr_callV (md' := mX12_lost) (As := []) dX12_reopen_25 mlX12_79 okX12_lost rfl inX12_lost slX12_lost (by decide) (hL.K 38 13) rfl (by omega) (Nat.le_of_ble_eq_true rfl) hcb (c_lost (d := d - 1) (M := (zput (zput M 402 (ad 38) (nI 0)) 401 (ad 38) (nI 3))) (by show zC M ≤ 600128 ∧ zS M ≤ 7301098; exact hcb) ((hL.put 402 (ad 38) (nI 0)).put 401 (ad 38) (nI 3))) (fun k M1 h => by cases h.1) (fun v M1 hq => ?_)
    obtain ⟨e0, e1⟩ := hq
    cases e0
    rw [e1]
    refine zr_aload_n dX12_reopen_28 rfl ?_
    refine zr_iload_n dX12_reopen_29 rfl ?_
    refine zr_putZ dX12_reopen_30 lkX12_75 (by decide) (by decide) rfl rfl (Or.inl rfl) (hL.K 38 13) ?_
    obtain ⟨M2, e2⟩ : ∃ z, z = (zput (zput (zput (zput (zput (zput (zput M 402 (ad 38) (nI 0)) 401 (ad 38) (nI 3)) 398 (ad 38) (nI 0)) 397 (ad 38) (nI 0)) 396 (ad 38) (nI 0)) 394 (ad 38) (nI 0)) 399 (ad 38) (nI 0)) := ⟨_, rfl⟩
    rw [← e2]
    have hF2 : Fl ad 0 [394, 396, 397, 398, 399, 401, 402] [] [] M M2 := by rw [e2]; exact ((((((((Fl.refl ad _ _ _ M).put hL (f := 402) (i := 38)).put hL (f := 401) (i := 38)).put hL (f := 398) (i := 38)).put hL (f := 397) (i := 38)).put hL (f := 396) (i := 38)).put hL (f := 394) (i := 38)).put hL (f := 399) (i := 38))
    have g2_399 : zI M2 399 (ad 38) = (nI 0) := by rw [e2]; exact zput_hit _ _ _ _
    have g2_394 : zI M2 394 (ad 38) = (nI 0) := by rw [e2]; exact (zput_ms (f := 399) (by decide) (zput_hit _ _ _ _))
    have g2_396 : zI M2 396 (ad 38) = (nI 0) := by rw [e2]; exact (zput_ms (f := 399) (by decide) (zput_ms (f := 394) (by decide) (zput_hit _ _ _ _)))
    have g2_397 : zI M2 397 (ad 38) = (nI 0) := by rw [e2]; exact (zput_ms (f := 399) (by decide) (zput_ms (f := 394) (by decide) (zput_ms (f := 396) (by decide) (zput_hit _ _ _ _))))
    have g2_398 : zI M2 398 (ad 38) = (nI 0) := by rw [e2]; exact (zput_ms (f := 399) (by decide) (zput_ms (f := 394) (by decide) (zput_ms (f := 396) (by decide) (zput_ms (f := 397) (by decide) (zput_hit _ _ _ _)))))
    have g2_401 : zI M2 401 (ad 38) = (nI 3) := by rw [e2]; exact (zput_ms (f := 399) (by decide) (zput_ms (f := 394) (by decide) (zput_ms (f := 396) (by decide) (zput_ms (f := 397) (by decide) (zput_ms (f := 398) (by decide) (zput_hit _ _ _ _))))))
    have g2_402 : zI M2 402 (ad 38) = (nI 0) := by rw [e2]; exact (zput_ms (f := 399) (by decide) (zput_ms (f := 394) (by decide) (zput_ms (f := 396) (by decide) (zput_ms (f := 397) (by decide) (zput_ms (f := 398) (by decide) (zput_ms (f := 401) (by decide) (zput_hit _ _ _ _)))))))
    have hL2 := hF2.lay hL
    have hcb2 := hF2.cb hcb
    have hm2 := tM.fl hF2
    have hT2 : Ta ad M2 (aM A, aK A, aV A, [], 0, 0, 3, aC A, fun _ => none) := ⟨hL2, tK.fl hF2, tV.fl hF2, hm2, TaS.nil g2_394, TaB.nil g2_398 (Nat.le_of_ble_eq_true rfl) g2_397 g2_396, g2_399, (Nat.le_of_ble_eq_true rfl), (hF2.rI (by decide) (by decide)).trans tX.2.2.1, g2_401, (Nat.le_of_ble_eq_true rfl)⟩
    refine zr_iload_n dX12_reopen_33 rfl ?_
    refine zr_if_ne 50 dX12_reopen_34 (by decide) (fun h34 => absurd rfl h34) (fun h34 => ?_)
    refine zr_aload_n dX12_reopen_37 rfl ?_
    refine zr_getR dX12_reopen_38 lkX12_16 (by decide) (by decide) rfl (hL2.K 38 13) (hL2.R 388 38 41) ?_
    refine zr_iconst (v := nI 0) dX12_reopen_41 (by decide) ?_
    refine zr_aload_n dX12_reopen_42 rfl ?_
    refine zr_getI dX12_reopen_43 lkX12_58 (by decide) (by decide) rfl (hL2.K 38 13) ?_
    refine zr_as (y := (nI ((Mb (aM A)).length))) hm2.1 ?_
    refine zr_callS (md' := mX12_size) (As := [.ref ((ad 41)), .int (nI 0), .int (nI ((Mb (aM A)).length))]) dX12_reopen_46 mlX12_71 okX12_size rfl stX12_size rfl (by omega) (Nat.le_of_ble_eq_true rfl) hcb2 (c_size (d := d - 1) (m := aM A) (by omega) hcb2 ⟨hL2.K 41 14, hL2.N 41 16400, by decide⟩ (hm2.2.1.congr (fun i _ => by show zA M2 (ad 41) (0 + i) = zA M2 (ad 41) i; rw [Nat.zero_add])) hm2.2.2.shr (by omega)) (fun k M1 h => by cases h.1) (fun v M9 hq => ?_)
    obtain ⟨e0, e9⟩ := hq
    cases e0
    rw [e9]
    refine zr_iret dX12_reopen_49 rfl ?_
    have e8 : sReo A = ((aM A, aK A, aV A, [], 0, 0, 3, aC A, fun _ => none), .inl (some (.int (nI (msz (aM A)))))) := if_neg (by omega)
    rw [e8]
    exact ⟨hT2, hF2.mono, g2_402, rfl⟩
  · refine zr_iconst (v := nI 1) dX12_reopen_8 (by decide) ?_
    refine zr_goto 13 dX12_reopen_9 (by decide) ?_
    refine zr_istore_n (lv' := [some (.ref ((ad 38))), some (.int (nI 1))]) dX12_reopen_13 (Nat.le_of_ble_eq_true rfl) (Nat.le_of_ble_eq_true rfl) rfl rfl ?_
    refine zr_aload_n dX12_reopen_14 rfl ?_
    refine zr_iconst (v := nI 0) dX12_reopen_15 (by decide) ?_
    refine zr_putI dX12_reopen_16 lkX12_38 (by decide) (by decide) rfl rfl (hL.K 38 13) ?_
    refine zr_aload_n dX12_reopen_19 rfl ?_
    refine zr_iconst (v := nI 3) dX12_reopen_20 (by decide) ?_
    refine zr_putI dX12_reopen_21 lkX12_34 (by decide) (by decide) rfl rfl (hL.K 38 13) ?_
    refine zr_aload_n dX12_reopen_24 rfl ?_
    refine zr_callV (md' := mX12_lost) (As := []) dX12_reopen_25 mlX12_79 okX12_lost rfl inX12_lost slX12_lost (by decide) (hL.K 38 13) rfl (by omega) (Nat.le_of_ble_eq_true rfl) hcb (c_lost (d := d - 1) (M := (zput (zput M 402 (ad 38) (nI 0)) 401 (ad 38) (nI 3))) (by show zC M ≤ 600128 ∧ zS M ≤ 7301098; exact hcb) ((hL.put 402 (ad 38) (nI 0)).put 401 (ad 38) (nI 3))) (fun k M1 h => by cases h.1) (fun v M1 hq => ?_)
    obtain ⟨e0, e1⟩ := hq
    cases e0
    rw [e1]
    refine zr_aload_n dX12_reopen_28 rfl ?_
    refine zr_iload_n dX12_reopen_29 rfl ?_
    refine zr_putZ dX12_reopen_30 lkX12_75 (by decide) (by decide) rfl rfl (Or.inr rfl) (hL.K 38 13) ?_
    obtain ⟨M2, e2⟩ : ∃ z, z = (zput (zput (zput (zput (zput (zput (zput M 402 (ad 38) (nI 0)) 401 (ad 38) (nI 3)) 398 (ad 38) (nI 0)) 397 (ad 38) (nI 0)) 396 (ad 38) (nI 0)) 394 (ad 38) (nI 0)) 399 (ad 38) (nI 1)) := ⟨_, rfl⟩
    rw [← e2]
    have hF2 : Fl ad 0 [394, 396, 397, 398, 399, 401, 402] [] [] M M2 := by rw [e2]; exact ((((((((Fl.refl ad _ _ _ M).put hL (f := 402) (i := 38)).put hL (f := 401) (i := 38)).put hL (f := 398) (i := 38)).put hL (f := 397) (i := 38)).put hL (f := 396) (i := 38)).put hL (f := 394) (i := 38)).put hL (f := 399) (i := 38))
    have g2_399 : zI M2 399 (ad 38) = (nI 1) := by rw [e2]; exact zput_hit _ _ _ _
    have g2_394 : zI M2 394 (ad 38) = (nI 0) := by rw [e2]; exact (zput_ms (f := 399) (by decide) (zput_hit _ _ _ _))
    have g2_396 : zI M2 396 (ad 38) = (nI 0) := by rw [e2]; exact (zput_ms (f := 399) (by decide) (zput_ms (f := 394) (by decide) (zput_hit _ _ _ _)))
    have g2_397 : zI M2 397 (ad 38) = (nI 0) := by rw [e2]; exact (zput_ms (f := 399) (by decide) (zput_ms (f := 394) (by decide) (zput_ms (f := 396) (by decide) (zput_hit _ _ _ _))))
    have g2_398 : zI M2 398 (ad 38) = (nI 0) := by rw [e2]; exact (zput_ms (f := 399) (by decide) (zput_ms (f := 394) (by decide) (zput_ms (f := 396) (by decide) (zput_ms (f := 397) (by decide) (zput_hit _ _ _ _)))))
    have g2_401 : zI M2 401 (ad 38) = (nI 3) := by rw [e2]; exact (zput_ms (f := 399) (by decide) (zput_ms (f := 394) (by decide) (zput_ms (f := 396) (by decide) (zput_ms (f := 397) (by decide) (zput_ms (f := 398) (by decide) (zput_hit _ _ _ _))))))
    have g2_402 : zI M2 402 (ad 38) = (nI 0) := by rw [e2]; exact (zput_ms (f := 399) (by decide) (zput_ms (f := 394) (by decide) (zput_ms (f := 396) (by decide) (zput_ms (f := 397) (by decide) (zput_ms (f := 398) (by decide) (zput_ms (f := 401) (by decide) (zput_hit _ _ _ _)))))))
    have hL2 := hF2.lay hL
    have hcb2 := hF2.cb hcb
    have hm2 := tM.fl hF2
    have hT2 : Ta ad M2 (aM A, aK A, aV A, [], 0, 1, 3, aC A, fun _ => none) := ⟨hL2, tK.fl hF2, tV.fl hF2, hm2, TaS.nil g2_394, TaB.nil g2_398 (Nat.le_of_ble_eq_true rfl) g2_397 g2_396, g2_399, (Nat.le_of_ble_eq_true rfl), (hF2.rI (by decide) (by decide)).trans tX.2.2.1, g2_401, (Nat.le_of_ble_eq_true rfl)⟩
    refine zr_iload_n dX12_reopen_33 rfl ?_
    refine zr_if_ne 50 dX12_reopen_34 (by decide) (fun h34 => ?_) (fun h34 => absurd h34 (by decide))
    refine zr_aload_n dX12_reopen_50 rfl ?_
    refine zr_iconst (v := nI 1) dX12_reopen_51 (by decide) ?_
    refine zr_putI dX12_reopen_52 lkX12_38 (by decide) (by decide) rfl rfl (hL2.K 38 13) ?_
    refine zr_iconst (v := nI 0) dX12_reopen_55 (by decide) ?_
    refine zr_iret dX12_reopen_56 rfl ?_
    have e8 : sReo A = (fell A, .inr 2) := if_pos (by omega)
    rw [e8]
    exact ⟨hT2.t402, (hF2.mono : Fl ad 0 LM LMA [] M M2).put hL (f := 402) (i := 38), zput_hit _ _ _ _, rfl⟩
set_option maxRecDepth 100000 in
set_option maxHeartbeats 4000000 in
theorem c_taken1 {G : zG} {ad : Nat → Nat} {d r n q : Nat} {a : List Nat × List Nat} {M : zM} (hd : 2 ≤ d) (hcb : zC M ≤ 600128 ∧ zS M ≤ 7301098) (hL : Lay ad M) (hrr : r = ad 41 ∨ r = ad 43) (hr : Rw8 M r n) (hE : Ea (zA M r) q a) (hka : a.1.length ≤ 32 ∧ a.2.length ≤ 200) (hp : q + (eb a).length ≤ n)  : zMet G mX12_taken d [.ref ((ad 38)), .ref r, .int (nI q), .int (nI 1)] M (fun o M' => o = .inl none ∧ Fl ad 0 [386, 387] [39, 40] [] M M' ∧ TaK ad M' a.1 ∧ TaV ad M' a.2) := by
  refine zMet_of (by decide +kernel) (Nat.le_of_ble_eq_true rfl) rfl hcb ?_
  show zw G mX12_taken d _ _ _ 0 [some (.ref ((ad 38))), some (.ref r), some (.int (nI q)), some (.int (nI 1)), none] [] M
  have hb1 := hr.2.2
  have hel := eb_len a
  refine zr_iload_n dX12_taken_0 rfl ?_
  refine zr_if_eq 27 dX12_taken_1 (by decide) (fun h1 => absurd h1 (by decide)) (fun h1 => ?_)
  refine zr_aload_n dX12_taken_4 rfl ?_
  refine zr_aload_n dX12_taken_5 rfl ?_
  refine zr_iload_n dX12_taken_6 rfl ?_
  refine zr_baldN dX12_taken_7 hr.1 hr.2.1 (by omega) (by omega) (fun f7 => ?_)
  refine zr_as (y := (nI a.1.length)) (zb_of f7 hE.kl (by omega)) ?_
  refine zr_putI dX12_taken_8 lkX12_94 (by decide) (by decide) rfl rfl (hL.K 38 13) ?_
  refine zr_aload_n dX12_taken_11 rfl ?_
  refine zr_iload_n dX12_taken_12 rfl ?_
  refine zr_iconst (v := nI 1) dX12_taken_13 (by decide) ?_
  refine zr_iaddN dX12_taken_14 ?_
  refine zr_aload_n dX12_taken_15 rfl ?_
  refine zr_getR dX12_taken_16 lkX12_9 (by decide) (by decide) rfl (hL.K 38 13) (hL.R 384 38 39) ?_
  refine zr_iconst (v := nI 0) dX12_taken_19 (by decide) ?_
  refine zr_aload_n dX12_taken_20 rfl ?_
  refine zr_getI dX12_taken_21 lkX12_94 (by decide) (by decide) rfl (hL.K 38 13) ?_
  refine zr_as (y := (nI a.1.length)) (zput_hit _ _ _ _) ?_
  refine zr_copyN dX12_taken_24 mlX12_52 (Or.inl ⟨hr.1, (hL.K 39 14)⟩) hr.2.1 (hL.N 39 32) (by omega) (by omega) (by omega) (by omega) (by omega) (Nat.le_of_ble_eq_true rfl) ?_
  obtain ⟨M1, e1⟩ : ∃ z, z = (zsetA (zput M 386 (ad 38) (nI a.1.length)) (ad 39) (va_cpy (zA (zput M 386 (ad 38) (nI a.1.length)) r) (zA (zput M 386 (ad 38) (nI a.1.length)) (ad 39)) (q + 1) 0 a.1.length)) := ⟨_, rfl⟩
  rw [← e1]
  have hF1 : Fl ad 0 [386] [39] [] M M1 := by rw [e1]; exact ((Fl.refl ad _ _ _ M).put hL (f := 386) (i := 38)).setA (hL.put 386 (ad 38) (nI a.1.length)) (i := 39)
  have hL1 := hF1.lay hL
  have hcb1 := hF1.cb hcb
  have eR1 : zA M1 r = zA M r := by rcases hrr with rfl | rfl <;> exact hF1.rA (by decide) (by decide)
  have hr1 : Rw8 M1 r n := by rw [e1]; exact hr
  have hK1 : TaK ad M1 a.1 := by
    refine ⟨by rw [e1]; exact zput_hit _ _ _ _, ?_, hka.1⟩
    rw [e1, show zA (zsetA (zput M 386 (ad 38) (nI a.1.length)) (ad 39) (va_cpy (zA (zput M 386 (ad 38) (nI a.1.length)) r) (zA (zput M 386 (ad 38) (nI a.1.length)) (ad 39)) (q + 1) 0 a.1.length)) (ad 39) = va_cpy (zA M r) (zA M (ad 39)) (q + 1) 0 a.1.length from zsetA_hit _ _ _]
    exact hE.key.congr (fun i hi => by rw [pk_cpy_in (by omega) (by omega), Nat.sub_zero])
  refine zr_iload_n dX12_taken_27 rfl ?_
  refine zr_iconst (v := nI 1) dX12_taken_28 (by decide) ?_
  refine zr_iaddN dX12_taken_29 ?_
  refine zr_aload_n dX12_taken_30 rfl ?_
  refine zr_iload_n dX12_taken_31 rfl ?_
  refine zr_baldN dX12_taken_32 hr1.1 hr1.2.1 (by omega) (by omega) (fun f32 => ?_)
  refine zr_as (y := (nI a.1.length)) (zb_of f32 (by rw [eR1]; exact hE.kl) (by omega)) ?_
  refine zr_iaddN dX12_taken_33 ?_
  refine zr_istore (lv' := [some (.ref ((ad 38))), some (.ref r), some (.int (nI q)), some (.int (nI 1)), some (.int (nI ((q + 1) + a.1.length)))]) dX12_taken_34 (Nat.le_of_ble_eq_true rfl) (Nat.le_of_ble_eq_true rfl) rfl rfl ?_
  refine zr_aload_n dX12_taken_36 rfl ?_
  refine zr_aload_n dX12_taken_37 rfl ?_
  refine zr_iload dX12_taken_38 rfl ?_
  refine zr_baldN dX12_taken_40 hr1.1 hr1.2.1 (by omega) (by omega) (fun f40 => ?_)
  refine zr_sipush (v := nI 255) dX12_taken_41 (by decide) ?_
  refine zr_iand255 dX12_taken_44 ?_
  refine zr_as (y := (nI a.2.length)) (by rw [eR1, hE.vl]) ?_
  refine zr_putI dX12_taken_45 lkX12_97 (by decide) (by decide) rfl rfl (hL1.K 38 13) ?_
  refine zr_aload_n dX12_taken_48 rfl ?_
  refine zr_iload dX12_taken_49 rfl ?_
  refine zr_iconst (v := nI 1) dX12_taken_51 (by decide) ?_
  refine zr_iaddN dX12_taken_52 ?_
  refine zr_aload_n dX12_taken_53 rfl ?_
  refine zr_getR dX12_taken_54 lkX12_13 (by decide) (by decide) rfl (hL1.K 38 13) (hL1.R 385 38 40) ?_
  refine zr_iconst (v := nI 0) dX12_taken_57 (by decide) ?_
  refine zr_aload_n dX12_taken_58 rfl ?_
  refine zr_getI dX12_taken_59 lkX12_97 (by decide) (by decide) rfl (hL1.K 38 13) ?_
  refine zr_as (y := (nI a.2.length)) (zput_hit _ _ _ _) ?_
  refine zr_copyN dX12_taken_62 mlX12_52 (Or.inl ⟨hr1.1, (hL1.K 40 14)⟩) hr1.2.1 (hL1.N 40 200) (by omega) (by omega) (by omega) (by omega) (by omega) (Nat.le_of_ble_eq_true rfl) ?_
  refine zr_vret dX12_taken_65 rfl ?_
  obtain ⟨M2, e2⟩ : ∃ z, z = (zsetA (zput M1 387 (ad 38) (nI a.2.length)) (ad 40) (va_cpy (zA (zput M1 387 (ad 38) (nI a.2.length)) r) (zA (zput M1 387 (ad 38) (nI a.2.length)) (ad 40)) (((q + 1) + a.1.length) + 1) 0 a.2.length)) := ⟨_, rfl⟩
  rw [← e2]
  have hF2 : Fl ad 0 [387] [40] [] M1 M2 := by rw [e2]; exact ((Fl.refl ad _ _ _ M1).put hL1 (f := 387) (i := 38)).setA (hL1.put 387 (ad 38) (nI a.2.length)) (i := 40)
  have hV2 : TaV ad M2 a.2 := by
    refine ⟨by rw [e2]; exact zput_hit _ _ _ _, ?_, hka.2⟩
    rw [e2, show zA (zsetA (zput M1 387 (ad 38) (nI a.2.length)) (ad 40) (va_cpy (zA (zput M1 387 (ad 38) (nI a.2.length)) r) (zA (zput M1 387 (ad 38) (nI a.2.length)) (ad 40)) (((q + 1) + a.1.length) + 1) 0 a.2.length)) (ad 40) = va_cpy (zA M1 r) (zA M1 (ad 40)) (q + 1 + a.1.length + 1) 0 a.2.length from zsetA_hit _ _ _, eR1]
    exact hE.val.congr (fun i hi => by rw [pk_cpy_in (by omega) (by omega), Nat.sub_zero])
  exact ⟨rfl, hF1.mono.trans0 hF2.mono, hK1.fl hF2, hV2⟩
set_option maxRecDepth 100000 in
set_option maxHeartbeats 4000000 in
theorem c_taken0 {G : zG} {ad : Nat → Nat} {d r n q : Nat} {a : List Nat × List Nat} {M : zM} (hd : 2 ≤ d) (hcb : zC M ≤ 600128 ∧ zS M ≤ 7301098) (hL : Lay ad M) (hrr : r = ad 41 ∨ r = ad 43) (hr : Rw8 M r n) (hE : Ea (zA M r) q a) (hka : a.1.length ≤ 32 ∧ a.2.length ≤ 200) (hp : q + (eb a).length ≤ n)  : zMet G mX12_taken d [.ref ((ad 38)), .ref r, .int (nI q), .int (nI 0)] M (fun o M' => o = .inl none ∧ Fl ad 0 [387] [40] [] M M' ∧ TaV ad M' a.2) := by
  refine zMet_of (by decide +kernel) (Nat.le_of_ble_eq_true rfl) rfl hcb ?_
  show zw G mX12_taken d _ _ _ 0 [some (.ref ((ad 38))), some (.ref r), some (.int (nI q)), some (.int (nI 0)), none] [] M
  have hb1 := hr.2.2
  have hel := eb_len a
  refine zr_iload_n dX12_taken_0 rfl ?_
  refine zr_if_eq 27 dX12_taken_1 (by decide) (fun h1 => ?_) (fun h1 => absurd rfl h1)
  obtain ⟨M1, e1⟩ : ∃ z, z = M := ⟨_, rfl⟩
  rw [← e1]
  have hF1 : Fl ad 0 [386] [39] [] M M1 := by rw [e1]; exact Fl.refl ad _ _ _ M
  have hL1 := hF1.lay hL
  have hcb1 := hF1.cb hcb
  have eR1 : zA M1 r = zA M r := by rw [e1]
  have hr1 : Rw8 M1 r n := by rw [e1]; exact hr
  refine zr_iload_n dX12_taken_27 rfl ?_
  refine zr_iconst (v := nI 1) dX12_taken_28 (by decide) ?_
  refine zr_iaddN dX12_taken_29 ?_
  refine zr_aload_n dX12_taken_30 rfl ?_
  refine zr_iload_n dX12_taken_31 rfl ?_
  refine zr_baldN dX12_taken_32 hr1.1 hr1.2.1 (by omega) (by omega) (fun f32 => ?_)
  refine zr_as (y := (nI a.1.length)) (zb_of f32 (by rw [eR1]; exact hE.kl) (by omega)) ?_
  refine zr_iaddN dX12_taken_33 ?_
  refine zr_istore (lv' := [some (.ref ((ad 38))), some (.ref r), some (.int (nI q)), some (.int (nI 0)), some (.int (nI ((q + 1) + a.1.length)))]) dX12_taken_34 (Nat.le_of_ble_eq_true rfl) (Nat.le_of_ble_eq_true rfl) rfl rfl ?_
  refine zr_aload_n dX12_taken_36 rfl ?_
  refine zr_aload_n dX12_taken_37 rfl ?_
  refine zr_iload dX12_taken_38 rfl ?_
  refine zr_baldN dX12_taken_40 hr1.1 hr1.2.1 (by omega) (by omega) (fun f40 => ?_)
  refine zr_sipush (v := nI 255) dX12_taken_41 (by decide) ?_
  refine zr_iand255 dX12_taken_44 ?_
  refine zr_as (y := (nI a.2.length)) (by rw [eR1, hE.vl]) ?_
  refine zr_putI dX12_taken_45 lkX12_97 (by decide) (by decide) rfl rfl (hL1.K 38 13) ?_
  refine zr_aload_n dX12_taken_48 rfl ?_
  refine zr_iload dX12_taken_49 rfl ?_
  refine zr_iconst (v := nI 1) dX12_taken_51 (by decide) ?_
  refine zr_iaddN dX12_taken_52 ?_
  refine zr_aload_n dX12_taken_53 rfl ?_
  refine zr_getR dX12_taken_54 lkX12_13 (by decide) (by decide) rfl (hL1.K 38 13) (hL1.R 385 38 40) ?_
  refine zr_iconst (v := nI 0) dX12_taken_57 (by decide) ?_
  refine zr_aload_n dX12_taken_58 rfl ?_
  refine zr_getI dX12_taken_59 lkX12_97 (by decide) (by decide) rfl (hL1.K 38 13) ?_
  refine zr_as (y := (nI a.2.length)) (zput_hit _ _ _ _) ?_
  refine zr_copyN dX12_taken_62 mlX12_52 (Or.inl ⟨hr1.1, (hL1.K 40 14)⟩) hr1.2.1 (hL1.N 40 200) (by omega) (by omega) (by omega) (by omega) (by omega) (Nat.le_of_ble_eq_true rfl) ?_
  refine zr_vret dX12_taken_65 rfl ?_
  obtain ⟨M2, e2⟩ : ∃ z, z = (zsetA (zput M1 387 (ad 38) (nI a.2.length)) (ad 40) (va_cpy (zA (zput M1 387 (ad 38) (nI a.2.length)) r) (zA (zput M1 387 (ad 38) (nI a.2.length)) (ad 40)) (((q + 1) + a.1.length) + 1) 0 a.2.length)) := ⟨_, rfl⟩
  rw [← e2]
  have hF2 : Fl ad 0 [387] [40] [] M1 M2 := by rw [e2]; exact ((Fl.refl ad _ _ _ M1).put hL1 (f := 387) (i := 38)).setA (hL1.put 387 (ad 38) (nI a.2.length)) (i := 40)
  have hV2 : TaV ad M2 a.2 := by
    refine ⟨by rw [e2]; exact zput_hit _ _ _ _, ?_, hka.2⟩
    rw [e2, show zA (zsetA (zput M1 387 (ad 38) (nI a.2.length)) (ad 40) (va_cpy (zA (zput M1 387 (ad 38) (nI a.2.length)) r) (zA (zput M1 387 (ad 38) (nI a.2.length)) (ad 40)) (((q + 1) + a.1.length) + 1) 0 a.2.length)) (ad 40) = va_cpy (zA M1 r) (zA M1 (ad 40)) (q + 1 + a.1.length + 1) 0 a.2.length from zsetA_hit _ _ _, eR1]
    exact hE.val.congr (fun i hi => by rw [pk_cpy_in (by omega) (by omega), Nat.sub_zero])
  subst e1
  exact ⟨rfl, hF2, hV2⟩
theorem find_snoc {f : List Nat × List Nat → Bool} {pre suf : Mp} {a : List Nat × List Nat} (h : pre.find? f = none) (ha : f a = true) : (pre ++ a :: suf).find? f = some a := by rw [List.find?_append, h, List.find?_cons_of_pos ha]; rfl
theorem find_skip {f : List Nat × List Nat → Bool} {pre : Mp} {a : List Nat × List Nat} (h : pre.find? f = none) (ha : ¬ f a = true) : (pre ++ [a]).find? f = none := by rw [List.find?_append, h, List.find?_cons_of_neg ha]; rfl
theorem Vx.rr {ad : Nat → Nat} {M : zM} {A : As} {s0 : Int32} {r n q : Nat} {ms : Mp} (h : Vx ad M A s0 r n q ms) : r = ad 41 ∨ r = ad 43 := by
  rcases h.1 with z | ⟨j, z⟩
  · exact Or.inl z.2.1
  · exact Or.inr z.2.2.2.1
set_option maxRecDepth 100000 in
set_option maxHeartbeats 4000000 in
theorem l_get {G : zG} {ad : Nat → Nat} {d k0 n0 r n q : Nat} {A : As} {s0 : Int32} {ms : Mp} {M : zM} {Q : zOut → zM → Prop} (hd : 3 ≤ d) (hcb : zC M ≤ 600128 ∧ zS M ≤ 7301098) (hT : Ta ad M A) (hV : Vx ad M A s0 r n q ms) (hq1 : ms.find? (fun a => decide (a.1 = aK A)) = none → Q (.inl (some (.int (-1)))) M) (hq2 : ∀ (a : List Nat × List Nat) (M' : zM), ms.find? (fun a => decide (a.1 = aK A)) = some a → Fl ad 0 [387] [40] [] M M' → TaV ad M' a.2 → Q (.inl (some (.int (nI a.2.length)))) M') : ∀ (k : Nat) (pre suf : Mp) (_ : pre.find? (fun a => decide (a.1 = aK A)) = none), suf.length = k → ms = pre ++ suf → zw G mX12_get d k0 n0 Q 22 [some (.ref ((ad 38))), some (.int s0), some (.ref r), some (.int (nI (q + (Mb pre).length)))] [] M := by
  intro k
  induction k using Nat.strongRecOn with
  | _ k ih =>
    intro pre suf hinv hl hms
    have hr := hV.2.1
    have hb1 := hr.2.2
    have hsh := hV.2.2.2.1.shr
    have hrr := hV.rr
    have hple : (Mb pre).length ≤ (Mb ms).length := by rw [hms, Mb_app, List.length_append]; omega
    have hpq := hV.2.2.2.2
    obtain ⟨hL, tK, tV, tM, tS, tB, tX⟩ := id hT
    refine zr_iload_n dX12_get_22 rfl ?_
    refine zr_aload_n dX12_get_23 rfl ?_
    refine zr_iload_n dX12_get_24 rfl ?_
    refine zr_callV (md' := mX12_end) (As := [.int s0]) dX12_get_25 mlX12_126 okX12_end rfl inX12_end slX12_end (by decide) (hL.K 38 13) rfl (by omega) (Nat.le_of_ble_eq_true rfl) hcb (c_end (d := d - 1) hcb hT hV) (fun k M1 h => by cases h.1) (fun v M9 hq => ?_)
    obtain ⟨e0, e9⟩ := hq
    cases e0
    rw [e9]
    refine zr_icmp_geN 72 dX12_get_28 (by decide) (by omega) (by omega) (fun h28 => ?_) (fun h28 => ?_)
    · refine zr_iconst (v := -1) dX12_get_72 (by decide) ?_
      refine zr_iret dX12_get_73 rfl ?_
      have hs0 : suf = [] := by
        cases suf with
        | nil => rfl
        | cons a s => exfalso; have z := Mb_pos (a := a) (m := s); rw [hms, Mb_app, List.length_append] at h28; omega
      subst hs0
      rw [List.append_nil] at hms
      exact hq1 (by rw [hms]; exact hinv)
    · obtain ⟨a, suf9, rfl⟩ : ∃ a s, suf = a :: s := by
        cases suf with
        | nil => exfalso; rw [hms, List.append_nil] at h28; omega
        | cons a s => exact ⟨a, s, rfl⟩
      have hE : Ea (zA M r) (q + (Mb pre).length) a := by have z := hV.2.2.1; rw [hms] at z; exact z.at
      have hka := hsh a (by rw [hms]; exact List.mem_append_right _ List.mem_cons_self)
      have hml : (Mb ms).length = (Mb pre).length + ((eb a).length + (Mb suf9).length) := by rw [hms, Mb_app, Mb_cons, List.length_append, List.length_append]
      have hel := eb_len a
      have hpa : q + (Mb pre).length + (eb a).length ≤ n := by have := hV.2.2.2.2; omega
      refine zr_aload_n dX12_get_31 rfl ?_
      refine zr_iload_n dX12_get_32 rfl ?_
      refine zr_aload_n dX12_get_33 rfl ?_
      refine zr_getR dX12_get_34 lkX12_9 (by decide) (by decide) rfl (hL.K 38 13) (hL.R 384 38 39) ?_
      refine zr_iconst (v := nI 0) dX12_get_37 (by decide) ?_
      refine zr_aload_n dX12_get_38 rfl ?_
      refine zr_getI dX12_get_39 lkX12_94 (by decide) (by decide) rfl (hL.K 38 13) ?_
      refine zr_as (y := (nI ((aK A).length))) tK.1 ?_
      refine zr_callS (md' := mX12_compare) (As := [.ref r, .int (nI (q + (Mb pre).length)), .ref ((ad 39)), .int (nI 0), .int (nI ((aK A).length))]) dX12_get_42 mlX12_48 okX12_compare rfl stX12_compare rfl (by omega) (Nat.le_of_ble_eq_true rfl) hcb (c_compare (d := d - 1) hcb hr ⟨hL.K 39 14, hL.N 39 32, by decide⟩ hE hka.1 hpa (kk := aK A) (off := 0) (tK.2.1.congr (fun i _ => by show zA M (ad 39) (0 + i) = zA M (ad 39) i; rw [Nat.zero_add])) (by have := tK.2.2; omega)) (fun k M1 h => by obtain ⟨_, _, h, _⟩ := h; cases h) (fun v M9 hq => ?_)
      obtain ⟨e9, v9, e0, hv1, hv2⟩ := hq
      cases e0
      rw [e9]
      refine zr_if_eq 51 dX12_get_45 (by decide) (fun h45 => ?_) (fun h45 => ?_)
      · refine zr_aload_n dX12_get_51 rfl ?_
        refine zr_aload_n dX12_get_52 rfl ?_
        refine zr_iload_n dX12_get_53 rfl ?_
        refine zr_iconst (v := nI 0) dX12_get_54 (by decide) ?_
        refine zr_callV (md' := mX12_taken) (As := [.ref r, .int (nI (q + (Mb pre).length)), .int (nI 0)]) dX12_get_55 mlX12_129 okX12_taken rfl inX12_taken slX12_taken (by decide) (hL.K 38 13) rfl (by omega) (Nat.le_of_ble_eq_true rfl) hcb (c_taken0 (d := d - 1) (by omega) hcb hL hrr hr hE hka hpa) (fun k M1 h => by cases h.1) (fun v M2 hq => ?_)
        obtain ⟨e0, hF2, hV2⟩ := hq
        cases e0
        have hL2 := hF2.lay hL
        refine zr_aload_n dX12_get_58 rfl ?_
        refine zr_getI dX12_get_59 lkX12_97 (by decide) (by decide) rfl (hL2.K 38 13) ?_
        refine zr_as (y := (nI a.2.length)) hV2.1 ?_
        refine zr_iret dX12_get_62 rfl ?_
        exact hq2 a M2 (by rw [hms]; exact find_snoc hinv (decide_eq_true (hv2.mp h45))) hF2 hV2
      · refine zr_goto 63 dX12_get_48 (by decide) ?_
        refine zr_aload_n dX12_get_63 rfl ?_
        refine zr_iload_n dX12_get_64 rfl ?_
        refine zr_callS (md' := mX12_behind) (As := [.ref r, .int (nI (q + (Mb pre).length))]) dX12_get_65 mlX12_41 okX12_behind rfl stX12_behind rfl (by omega) (Nat.le_of_ble_eq_true rfl) hcb (c_behind (d := d - 1) hcb hr hE hka.1 hpa) (fun k M1 h => by cases h.1) (fun v M9 hq => ?_)
        obtain ⟨e0, e9⟩ := hq
        cases e0
        rw [e9]
        refine zr_istore_n (lv' := [some (.ref ((ad 38))), some (.int s0), some (.ref r), some (.int (nI (q + (Mb pre).length + 2 + a.1.length + a.2.length)))]) dX12_get_68 (Nat.le_of_ble_eq_true rfl) (Nat.le_of_ble_eq_true rfl) rfl rfl ?_
        refine zr_goto 22 dX12_get_69 (by decide) ?_
        have hinv2 := find_skip hinv (fun z => h45 (hv2.mpr (of_decide_eq_true z)))
        have e2 : q + (Mb pre).length + 2 + a.1.length + a.2.length = q + (Mb (pre ++ [a])).length := by rw [Mb_sl]; omega
        rw [e2]
        exact ih suf9.length (by rw [← hl, List.length_cons]; omega) (pre ++ [a]) suf9 hinv2 rfl (by rw [hms, List.append_assoc]; rfl)
theorem sk_t {K : List Nat} {bh : Int32} {a : List Nat × List Nat} (h1 : ¬ klt a.1 K) (h2 : ¬ (a.1 = K ∧ bh ≠ 0)) : (!(kltb a.1 K) && !(decide (a.1 = K) && decide (bh ≠ 0))) = true := by
  rw [Bool.and_eq_true, Bool.not_eq_true', Bool.not_eq_true', Bool.and_eq_false_iff]
  refine ⟨Bool.eq_false_iff.mpr (fun z => h1 ((kltb_iff _ _).mp z)), ?_⟩
  by_cases e : a.1 = K
  · exact Or.inr (decide_eq_false (fun z => h2 ⟨e, z⟩))
  · exact Or.inl (decide_eq_false e)
theorem sk_f {K : List Nat} {bh : Int32} {a : List Nat × List Nat} (h : klt a.1 K ∨ (a.1 = K ∧ bh ≠ 0)) : ¬ (!(kltb a.1 K) && !(decide (a.1 = K) && decide (bh ≠ 0))) = true := by
  rw [Bool.and_eq_true, Bool.not_eq_true', Bool.not_eq_true', Bool.and_eq_false_iff]
  rintro ⟨z1, z2⟩
  rcases h with z | ⟨z, y⟩
  · rw [(kltb_iff _ _).mpr z] at z1; cases z1
  · rcases z2 with w | w
    · exact absurd z (of_decide_eq_false w)
    · exact absurd y (of_decide_eq_false w)
set_option maxRecDepth 100000 in
set_option maxHeartbeats 4000000 in
theorem l_seek {G : zG} {ad : Nat → Nat} {d k0 n0 r n q : Nat} {A : As} {s0 : Int32} {bh : Int32} {ms : Mp} {M : zM} {Q : zOut → zM → Prop} (hd : 3 ≤ d) (hcb : zC M ≤ 600128 ∧ zS M ≤ 7301098) (hT : Ta ad M A) (hV : Vx ad M A s0 r n q ms) (hq1 : ms.find? (fun a => !(kltb a.1 (aK A)) && !(decide (a.1 = aK A) && decide (bh ≠ 0))) = none → Q (.inl (some (.int (-1)))) M) (hq2 : ∀ (a : List Nat × List Nat) (M' : zM), ms.find? (fun a => !(kltb a.1 (aK A)) && !(decide (a.1 = aK A) && decide (bh ≠ 0))) = some a → Fl ad 0 [386, 387] [39, 40] [] M M' → TaK ad M' a.1 → TaV ad M' a.2 → Q (.inl (some (.int (nI a.1.length)))) M') : ∀ (k : Nat) (pre suf : Mp) (_ : pre.find? (fun a => !(kltb a.1 (aK A)) && !(decide (a.1 = aK A) && decide (bh ≠ 0))) = none), suf.length = k → ms = pre ++ suf → zw G mX12_seek d k0 n0 Q 23 [some (.ref ((ad 38))), some (.int s0), some (.int bh), some (.ref r), some (.int (nI (q + (Mb pre).length))), none] [] M := by
  intro k
  induction k using Nat.strongRecOn with
  | _ k ih =>
    intro pre suf hinv hl hms
    have hr := hV.2.1
    have hb1 := hr.2.2
    have hsh := hV.2.2.2.1.shr
    have hrr := hV.rr
    have hple : (Mb pre).length ≤ (Mb ms).length := by rw [hms, Mb_app, List.length_append]; omega
    have hpq := hV.2.2.2.2
    obtain ⟨hL, tK, tV, tM, tS, tB, tX⟩ := id hT
    refine zr_iload dX12_seek_23 rfl ?_
    refine zr_aload_n dX12_seek_25 rfl ?_
    refine zr_iload_n dX12_seek_26 rfl ?_
    refine zr_callV (md' := mX12_end) (As := [.int s0]) dX12_seek_27 mlX12_126 okX12_end rfl inX12_end slX12_end (by decide) (hL.K 38 13) rfl (by omega) (Nat.le_of_ble_eq_true rfl) hcb (c_end (d := d - 1) hcb hT hV) (fun k M1 h => by cases h.1) (fun v M9 hq => ?_)
    obtain ⟨e0, e9⟩ := hq
    cases e0
    rw [e9]
    refine zr_icmp_geN 91 dX12_seek_30 (by decide) (by omega) (by omega) (fun h30 => ?_) (fun h30 => ?_)
    · refine zr_iconst (v := -1) dX12_seek_91 (by decide) ?_
      refine zr_iret dX12_seek_92 rfl ?_
      have hs0 : suf = [] := by
        cases suf with
        | nil => rfl
        | cons a s => exfalso; have z := Mb_pos (a := a) (m := s); rw [hms, Mb_app, List.length_append] at h30; omega
      subst hs0
      rw [List.append_nil] at hms
      exact hq1 (by rw [hms]; exact hinv)
    · obtain ⟨a, suf9, rfl⟩ : ∃ a s, suf = a :: s := by
        cases suf with
        | nil => exfalso; rw [hms, List.append_nil] at h30; omega
        | cons a s => exact ⟨a, s, rfl⟩
      have hE : Ea (zA M r) (q + (Mb pre).length) a := by have z := hV.2.2.1; rw [hms] at z; exact z.at
      have hka := hsh a (by rw [hms]; exact List.mem_append_right _ List.mem_cons_self)
      have hml : (Mb ms).length = (Mb pre).length + ((eb a).length + (Mb suf9).length) := by rw [hms, Mb_app, Mb_cons, List.length_append, List.length_append]
      have hel := eb_len a
      have hpa : q + (Mb pre).length + (eb a).length ≤ n := by have := hV.2.2.2.2; omega
      refine zr_aload_n dX12_seek_33 rfl ?_
      refine zr_iload dX12_seek_34 rfl ?_
      refine zr_aload_n dX12_seek_36 rfl ?_
      refine zr_getR dX12_seek_37 lkX12_9 (by decide) (by decide) rfl (hL.K 38 13) (hL.R 384 38 39) ?_
      refine zr_iconst (v := nI 0) dX12_seek_40 (by decide) ?_
      refine zr_aload_n dX12_seek_41 rfl ?_
      refine zr_getI dX12_seek_42 lkX12_94 (by decide) (by decide) rfl (hL.K 38 13) ?_
      refine zr_as (y := (nI ((aK A).length))) tK.1 ?_
      refine zr_callS (md' := mX12_compare) (As := [.ref r, .int (nI (q + (Mb pre).length)), .ref ((ad 39)), .int (nI 0), .int (nI ((aK A).length))]) dX12_seek_45 mlX12_48 okX12_compare rfl stX12_compare rfl (by omega) (Nat.le_of_ble_eq_true rfl) hcb (c_compare (d := d - 1) hcb hr ⟨hL.K 39 14, hL.N 39 32, by decide⟩ hE hka.1 hpa (kk := aK A) (off := 0) (tK.2.1.congr (fun i _ => by show zA M (ad 39) (0 + i) = zA M (ad 39) i; rw [Nat.zero_add])) (by have := tK.2.2; omega)) (fun k M1 h => by obtain ⟨_, _, h, _⟩ := h; cases h) (fun v M9 hq => ?_)
      obtain ⟨e9, v9, e0, hv1, hv2⟩ := hq
      cases e0
      rw [e9]
      refine zr_istore (lv' := [some (.ref ((ad 38))), some (.int s0), some (.int bh), some (.ref r), some (.int (nI (q + (Mb pre).length))), some (.int v9)]) dX12_seek_48 (Nat.le_of_ble_eq_true rfl) (Nat.le_of_ble_eq_true rfl) rfl rfl ?_
      refine zr_iload dX12_seek_50 rfl ?_
      refine zr_if_lt 80 dX12_seek_52 (by decide) (fun h52 => ?_) (fun h52 => ?_)
      · refine zr_aload_n dX12_seek_80 rfl ?_
        refine zr_iload dX12_seek_81 rfl ?_
        refine zr_callS (md' := mX12_behind) (As := [.ref r, .int (nI (q + (Mb pre).length))]) dX12_seek_83 mlX12_41 okX12_behind rfl stX12_behind rfl (by omega) (Nat.le_of_ble_eq_true rfl) hcb (c_behind (d := d - 1) hcb hr hE hka.1 hpa) (fun k M1 h => by cases h.1) (fun v M9 hq => ?_)
        obtain ⟨e0, e9⟩ := hq
        cases e0
        rw [e9]
        refine zr_istore (lv' := [some (.ref ((ad 38))), some (.int s0), some (.int bh), some (.ref r), some (.int (nI (q + (Mb pre).length + 2 + a.1.length + a.2.length))), some (.int v9)]) dX12_seek_86 (Nat.le_of_ble_eq_true rfl) (Nat.le_of_ble_eq_true rfl) rfl rfl ?_
        refine zr_goto 23 dX12_seek_88 (by decide) ?_
        have hinv2 := find_skip hinv (sk_f (Or.inl (hv1.mp h52)))
        refine zr_drop 5 rfl ?_
        have e2 : q + (Mb pre).length + 2 + a.1.length + a.2.length = q + (Mb (pre ++ [a])).length := by rw [Mb_sl]; omega
        rw [e2]
        exact ih suf9.length (by rw [← hl, List.length_cons]; omega) (pre ++ [a]) suf9 hinv2 rfl (by rw [hms, List.append_assoc]; rfl)
      · refine zr_iload dX12_seek_55 rfl ?_
        refine zr_if_ne 67 dX12_seek_57 (by decide) (fun h57 => ?_) (fun h57 => ?_)
        · refine zr_aload_n dX12_seek_67 rfl ?_
          refine zr_aload_n dX12_seek_68 rfl ?_
          refine zr_iload dX12_seek_69 rfl ?_
          refine zr_iconst (v := nI 1) dX12_seek_71 (by decide) ?_
          refine zr_callV (md' := mX12_taken) (As := [.ref r, .int (nI (q + (Mb pre).length)), .int (nI 1)]) dX12_seek_72 mlX12_129 okX12_taken rfl inX12_taken slX12_taken (by decide) (hL.K 38 13) rfl (by omega) (Nat.le_of_ble_eq_true rfl) hcb (c_taken1 (d := d - 1) (by omega) hcb hL hrr hr hE hka hpa) (fun k M1 h => by cases h.1) (fun v M2 hq => ?_)
          obtain ⟨e0, hF2, hK2, hV2⟩ := hq
          cases e0
          have hL2 := hF2.lay hL
          refine zr_aload_n dX12_seek_75 rfl ?_
          refine zr_getI dX12_seek_76 lkX12_94 (by decide) (by decide) rfl (hL2.K 38 13) ?_
          refine zr_as (y := (nI a.1.length)) hK2.1 ?_
          refine zr_iret dX12_seek_79 rfl ?_
          exact hq2 a M2 (by rw [hms]; exact find_snoc hinv (sk_t (fun z => h52 (hv1.mpr z)) (fun z => h57 (hv2.mpr z.1)))) hF2 hK2 hV2
        · refine zr_iload_n dX12_seek_60 rfl ?_
          refine zr_if_eq 67 dX12_seek_61 (by decide) (fun h61 => ?_) (fun h61 => ?_)
          · refine zr_aload_n dX12_seek_67 rfl ?_
            refine zr_aload_n dX12_seek_68 rfl ?_
            refine zr_iload dX12_seek_69 rfl ?_
            refine zr_iconst (v := nI 1) dX12_seek_71 (by decide) ?_
            refine zr_callV (md' := mX12_taken) (As := [.ref r, .int (nI (q + (Mb pre).length)), .int (nI 1)]) dX12_seek_72 mlX12_129 okX12_taken rfl inX12_taken slX12_taken (by decide) (hL.K 38 13) rfl (by omega) (Nat.le_of_ble_eq_true rfl) hcb (c_taken1 (d := d - 1) (by omega) hcb hL hrr hr hE hka hpa) (fun k M1 h => by cases h.1) (fun v M2 hq => ?_)
            obtain ⟨e0, hF2, hK2, hV2⟩ := hq
            cases e0
            have hL2 := hF2.lay hL
            refine zr_aload_n dX12_seek_75 rfl ?_
            refine zr_getI dX12_seek_76 lkX12_94 (by decide) (by decide) rfl (hL2.K 38 13) ?_
            refine zr_as (y := (nI a.1.length)) hK2.1 ?_
            refine zr_iret dX12_seek_79 rfl ?_
            exact hq2 a M2 (by rw [hms]; exact find_snoc hinv (sk_t (fun z => h52 (hv1.mpr z)) (fun z => z.2 h61))) hF2 hK2 hV2
          · refine zr_goto 80 dX12_seek_64 (by decide) ?_
            refine zr_aload_n dX12_seek_80 rfl ?_
            refine zr_iload dX12_seek_81 rfl ?_
            refine zr_callS (md' := mX12_behind) (As := [.ref r, .int (nI (q + (Mb pre).length))]) dX12_seek_83 mlX12_41 okX12_behind rfl stX12_behind rfl (by omega) (Nat.le_of_ble_eq_true rfl) hcb (c_behind (d := d - 1) hcb hr hE hka.1 hpa) (fun k M1 h => by cases h.1) (fun v M9 hq => ?_)
            obtain ⟨e0, e9⟩ := hq
            cases e0
            rw [e9]
            refine zr_istore (lv' := [some (.ref ((ad 38))), some (.int s0), some (.int bh), some (.ref r), some (.int (nI (q + (Mb pre).length + 2 + a.1.length + a.2.length))), some (.int v9)]) dX12_seek_86 (Nat.le_of_ble_eq_true rfl) (Nat.le_of_ble_eq_true rfl) rfl rfl ?_
            refine zr_goto 23 dX12_seek_88 (by decide) ?_
            have hinv2 := find_skip hinv (sk_f (Or.inr ⟨hv2.mp h57, h61⟩))
            refine zr_drop 5 rfl ?_
            have e2 : q + (Mb pre).length + 2 + a.1.length + a.2.length = q + (Mb (pre ++ [a])).length := by rw [Mb_sl]; omega
            rw [e2]
            exact ih suf9.length (by rw [← hl, List.length_cons]; omega) (pre ++ [a]) suf9 hinv2 rfl (by rw [hms, List.append_assoc]; rfl)
