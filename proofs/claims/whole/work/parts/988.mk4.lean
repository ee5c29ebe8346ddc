/-! ===== constructors, in the mirror (4): the model ===== -/
set_option maxRecDepth 100000 in
set_option maxHeartbeats 4000000 in
theorem n_X12 {G : zG} {ad0 : Nat → Nat} {d a p1 p2 p3 p4 p5 p6 p7 : Nat} {M0 N0 : zM} (hd : 2 ≤ d) (hcb : zC M0 ≤ 600128 ∧ zS M0 ≤ 7301098) (hrm : zC M0 + 20 ≤ 600128 ∧ zS M0 + 400000 ≤ 7301098) (I0 : Iso ad0 M0 N0) (ha : zK N0 a = 13) (hp1 : zK N0 p1 = 0) (hp2 : zK N0 p2 = 0) (hp3 : zK N0 p3 = 0) (hp4 : zK N0 p4 = 0) (hp5 : zK N0 p5 = 0) (hp6 : zK N0 p6 = 0) (hp7 : zK N0 p7 = 0) (hd12 : p1 ≠ p2) (hd13 : p1 ≠ p3) (hd14 : p1 ≠ p4) (hd15 : p1 ≠ p5) (hd16 : p1 ≠ p6) (hd17 : p1 ≠ p7) (hd23 : p2 ≠ p3) (hd24 : p2 ≠ p4) (hd25 : p2 ≠ p5) (hd26 : p2 ≠ p6) (hd27 : p2 ≠ p7) (hd34 : p3 ≠ p4) (hd35 : p3 ≠ p5) (hd36 : p3 ≠ p6) (hd37 : p3 ≠ p7) (hd45 : p4 ≠ p5) (hd46 : p4 ≠ p6) (hd47 : p4 ≠ p7) (hd56 : p5 ≠ p6) (hd57 : p5 ≠ p7) (hd67 : p6 ≠ p7) : zMet G mX12_init d [.ref (ad0 a)] M0 (fun o M' => o = .inl none ∧ ∃ q1 q2 q3 q4 q5 q6 q7, Iso (adp (adp (adp (adp (adp (adp (adp ad0 p1 q1) p2 q2) p3 q3) p4 q4) p5 q5) p6 q6) p7 q7) M' (zput (zputR (znewA (zputR (znewA (zputR (znewA (zputR (znewA (zputR (znewA (zputR (znewA (zputR (znewA N0 p1 14 32) 384 a (some p1)) p2 14 200) 385 a (some p2)) p3 14 16400) 388 a (some p3)) p4 14 70000) 389 a (some p4)) p5 14 131200) 390 a (some p5)) p6 15 8) 393 a (some p6)) p7 14 15360) 395 a (some p7)) 401 a (nI 3))) := by
  have ea0 : ad0 a = ad0 a := rfl
  refine zMet_of (by decide +kernel) (Nat.le_of_ble_eq_true rfl) rfl hcb ?_
  show zw G mX12_init d _ _ _ 0 [some (.ref (ad0 a))] [] M0
  refine zr_aload_n dX12_init_0 rfl ?_
  refine zr_objInit dX12_init_1 mlX12_1 (Nat.le_of_ble_eq_true rfl) (by omega) ?_
  have ka0 : zK N0 a = 13 := ha
  refine zr_aload_n dX12_init_4 rfl ?_
  refine zr_bipush (v := nI 32) dX12_init_5 (by decide) ?_
  refine zr_newPN (κ := 14) dX12_init_7 rfl (Or.inl ⟨rfl, rfl, rfl⟩) ac_byte (by decide) (by omega) (fun q1 hq1 => ?_)
  have kk1 : zK (znewA M0 q1 14 32) (ad0 a) = 13 := nkA hq1 (by rw [← ea0]; exact Iso.k I0 ka0 (by decide)) (by decide)
  refine zr_putR dX12_init_9 (lkX12_9.elim id (fun h => absurd h (by decide +kernel))) rfl rfl (by decide) (by decide) rfl kk1 ?_
  obtain ⟨M1, e1⟩ : ∃ z, z = zputR (znewA M0 q1 14 32) 384 (ad0 a) (some q1) := ⟨_, rfl⟩
  rw [← e1]
  have c1 : zC M1 = zC M0 + 1 ∧ zS M1 = zS M0 + 32 := by rw [e1]; exact ⟨rfl, rfl⟩
  have na1 : a ≠ p1 := fun z => by have y := hp1; rw [← z, ha] at y; cases y
  obtain ⟨N1, g1⟩ : ∃ z, z = zputR (znewA N0 p1 14 32) 384 a (some p1) := ⟨_, rfl⟩
  have J1 := Iso.newA (i := p1) (n := 32) I0 hq1 hp1 (show 14 ≤ 14 by decide)
  have I1 := Iso.putR (i := a) (j := p1) (f := 384) J1 (by rw [nkA hp1 ka0 (by decide)]; decide) (by rw [nkA0]; decide)
  have ea1 : adp ad0 p1 q1 a = ad0 a := (adp_ne _ na1).trans ea0
  rw [ea1, adp_hit, ← e1, ← g1] at I1
  obtain ⟨ad1, d1⟩ : ∃ z, z = adp ad0 p1 q1 := ⟨_, rfl⟩
  rw [← d1] at I1 ea1
  have ka1 : zK N1 a = 13 := by rw [g1]; exact nkA hp1 ka0 (by decide)
  have f1_2 : zK N1 p2 = 0 := by rw [g1]; exact nk00 hp2 (Ne.symm hd12)
  have f1_3 : zK N1 p3 = 0 := by rw [g1]; exact nk00 hp3 (Ne.symm hd13)
  have f1_4 : zK N1 p4 = 0 := by rw [g1]; exact nk00 hp4 (Ne.symm hd14)
  have f1_5 : zK N1 p5 = 0 := by rw [g1]; exact nk00 hp5 (Ne.symm hd15)
  have f1_6 : zK N1 p6 = 0 := by rw [g1]; exact nk00 hp6 (Ne.symm hd16)
  have f1_7 : zK N1 p7 = 0 := by rw [g1]; exact nk00 hp7 (Ne.symm hd17)
  refine zr_aload_n dX12_init_12 rfl ?_
  refine zr_sipush (v := nI 200) dX12_init_13 (by decide) ?_
  refine zr_newPN (κ := 14) dX12_init_16 rfl (Or.inl ⟨rfl, rfl, rfl⟩) ac_byte (by decide) (by omega) (fun q2 hq2 => ?_)
  have kk2 : zK (znewA M1 q2 14 200) (ad0 a) = 13 := nkA hq2 (by rw [← ea1]; exact Iso.k I1 ka1 (by decide)) (by decide)
  refine zr_putR dX12_init_18 (lkX12_13.elim id (fun h => absurd h (by decide +kernel))) rfl rfl (by decide) (by decide) rfl kk2 ?_
  obtain ⟨M2, e2⟩ : ∃ z, z = zputR (znewA M1 q2 14 200) 385 (ad0 a) (some q2) := ⟨_, rfl⟩
  rw [← e2]
  have c2 : zC M2 = zC M1 + 1 ∧ zS M2 = zS M1 + 200 := by rw [e2]; exact ⟨rfl, rfl⟩
  have na2 : a ≠ p2 := fun z => by have y := hp2; rw [← z, ha] at y; cases y
  obtain ⟨N2, g2⟩ : ∃ z, z = zputR (znewA N1 p2 14 200) 385 a (some p2) := ⟨_, rfl⟩
  have J2 := Iso.newA (i := p2) (n := 200) I1 hq2 f1_2 (show 14 ≤ 14 by decide)
  have I2 := Iso.putR (i := a) (j := p2) (f := 385) J2 (by rw [nkA f1_2 ka1 (by decide)]; decide) (by rw [nkA0]; decide)
  have ea2 : adp ad1 p2 q2 a = ad0 a := (adp_ne _ na2).trans ea1
  rw [ea2, adp_hit, ← e2, ← g2] at I2
  obtain ⟨ad2, d2⟩ : ∃ z, z = adp ad1 p2 q2 := ⟨_, rfl⟩
  rw [← d2] at I2 ea2
  have ka2 : zK N2 a = 13 := by rw [g2]; exact nkA f1_2 ka1 (by decide)
  have f2_3 : zK N2 p3 = 0 := by rw [g2]; exact nk00 f1_3 (Ne.symm hd23)
  have f2_4 : zK N2 p4 = 0 := by rw [g2]; exact nk00 f1_4 (Ne.symm hd24)
  have f2_5 : zK N2 p5 = 0 := by rw [g2]; exact nk00 f1_5 (Ne.symm hd25)
  have f2_6 : zK N2 p6 = 0 := by rw [g2]; exact nk00 f1_6 (Ne.symm hd26)
  have f2_7 : zK N2 p7 = 0 := by rw [g2]; exact nk00 f1_7 (Ne.symm hd27)
  refine zr_aload_n dX12_init_21 rfl ?_
  refine zr_sipush (v := nI 16400) dX12_init_22 (by decide) ?_
  refine zr_newPN (κ := 14) dX12_init_25 rfl (Or.inl ⟨rfl, rfl, rfl⟩) ac_byte (by decide) (by omega) (fun q3 hq3 => ?_)
  have kk3 : zK (znewA M2 q3 14 16400) (ad0 a) = 13 := nkA hq3 (by rw [← ea2]; exact Iso.k I2 ka2 (by decide)) (by decide)
  refine zr_putR dX12_init_27 (lkX12_16.elim id (fun h => absurd h (by decide +kernel))) rfl rfl (by decide) (by decide) rfl kk3 ?_
  obtain ⟨M3, e3⟩ : ∃ z, z = zputR (znewA M2 q3 14 16400) 388 (ad0 a) (some q3) := ⟨_, rfl⟩
  rw [← e3]
  have c3 : zC M3 = zC M2 + 1 ∧ zS M3 = zS M2 + 16400 := by rw [e3]; exact ⟨rfl, rfl⟩
  have na3 : a ≠ p3 := fun z => by have y := hp3; rw [← z, ha] at y; cases y
  obtain ⟨N3, g3⟩ : ∃ z, z = zputR (znewA N2 p3 14 16400) 388 a (some p3) := ⟨_, rfl⟩
  have J3 := Iso.newA (i := p3) (n := 16400) I2 hq3 f2_3 (show 14 ≤ 14 by decide)
  have I3 := Iso.putR (i := a) (j := p3) (f := 388) J3 (by rw [nkA f2_3 ka2 (by decide)]; decide) (by rw [nkA0]; decide)
  have ea3 : adp ad2 p3 q3 a = ad0 a := (adp_ne _ na3).trans ea2
  rw [ea3, adp_hit, ← e3, ← g3] at I3
  obtain ⟨ad3, d3⟩ : ∃ z, z = adp ad2 p3 q3 := ⟨_, rfl⟩
  rw [← d3] at I3 ea3
  have ka3 : zK N3 a = 13 := by rw [g3]; exact nkA f2_3 ka2 (by decide)
  have f3_4 : zK N3 p4 = 0 := by rw [g3]; exact nk00 f2_4 (Ne.symm hd34)
  have f3_5 : zK N3 p5 = 0 := by rw [g3]; exact nk00 f2_5 (Ne.symm hd35)
  have f3_6 : zK N3 p6 = 0 := by rw [g3]; exact nk00 f2_6 (Ne.symm hd36)
  have f3_7 : zK N3 p7 = 0 := by rw [g3]; exact nk00 f2_7 (Ne.symm hd37)
  refine zr_aload_n dX12_init_30 rfl ?_
  refine zr_ldc dX12_init_31 ctX12_19 ?_
  refine zr_as (y := nI 70000) (by decide) ?_
  refine zr_newPN (κ := 14) dX12_init_33 rfl (Or.inl ⟨rfl, rfl, rfl⟩) ac_byte (by decide) (by omega) (fun q4 hq4 => ?_)
  have kk4 : zK (znewA M3 q4 14 70000) (ad0 a) = 13 := nkA hq4 (by rw [← ea3]; exact Iso.k I3 ka3 (by decide)) (by decide)
  refine zr_putR dX12_init_35 (lkX12_20.elim id (fun h => absurd h (by decide +kernel))) rfl rfl (by decide) (by decide) rfl kk4 ?_
  obtain ⟨M4, e4⟩ : ∃ z, z = zputR (znewA M3 q4 14 70000) 389 (ad0 a) (some q4) := ⟨_, rfl⟩
  rw [← e4]
  have c4 : zC M4 = zC M3 + 1 ∧ zS M4 = zS M3 + 70000 := by rw [e4]; exact ⟨rfl, rfl⟩
  have na4 : a ≠ p4 := fun z => by have y := hp4; rw [← z, ha] at y; cases y
  obtain ⟨N4, g4⟩ : ∃ z, z = zputR (znewA N3 p4 14 70000) 389 a (some p4) := ⟨_, rfl⟩
  have J4 := Iso.newA (i := p4) (n := 70000) I3 hq4 f3_4 (show 14 ≤ 14 by decide)
  have I4 := Iso.putR (i := a) (j := p4) (f := 389) J4 (by rw [nkA f3_4 ka3 (by decide)]; decide) (by rw [nkA0]; decide)
  have ea4 : adp ad3 p4 q4 a = ad0 a := (adp_ne _ na4).trans ea3
  rw [ea4, adp_hit, ← e4, ← g4] at I4
  obtain ⟨ad4, d4⟩ : ∃ z, z = adp ad3 p4 q4 := ⟨_, rfl⟩
  rw [← d4] at I4 ea4
  have ka4 : zK N4 a = 13 := by rw [g4]; exact nkA f3_4 ka3 (by decide)
  have f4_5 : zK N4 p5 = 0 := by rw [g4]; exact nk00 f3_5 (Ne.symm hd45)
  have f4_6 : zK N4 p6 = 0 := by rw [g4]; exact nk00 f3_6 (Ne.symm hd46)
  have f4_7 : zK N4 p7 = 0 := by rw [g4]; exact nk00 f3_7 (Ne.symm hd47)
  refine zr_aload_n dX12_init_38 rfl ?_
  refine zr_ldc dX12_init_39 ctX12_23 ?_
  refine zr_as (y := nI 131200) (by decide) ?_
  refine zr_newPN (κ := 14) dX12_init_41 rfl (Or.inl ⟨rfl, rfl, rfl⟩) ac_byte (by decide) (by omega) (fun q5 hq5 => ?_)
  have kk5 : zK (znewA M4 q5 14 131200) (ad0 a) = 13 := nkA hq5 (by rw [← ea4]; exact Iso.k I4 ka4 (by decide)) (by decide)
  refine zr_putR dX12_init_43 (lkX12_24.elim id (fun h => absurd h (by decide +kernel))) rfl rfl (by decide) (by decide) rfl kk5 ?_
  obtain ⟨M5, e5⟩ : ∃ z, z = zputR (znewA M4 q5 14 131200) 390 (ad0 a) (some q5) := ⟨_, rfl⟩
  rw [← e5]
  have c5 : zC M5 = zC M4 + 1 ∧ zS M5 = zS M4 + 131200 := by rw [e5]; exact ⟨rfl, rfl⟩
  have na5 : a ≠ p5 := fun z => by have y := hp5; rw [← z, ha] at y; cases y
  obtain ⟨N5, g5⟩ : ∃ z, z = zputR (znewA N4 p5 14 131200) 390 a (some p5) := ⟨_, rfl⟩
  have J5 := Iso.newA (i := p5) (n := 131200) I4 hq5 f4_5 (show 14 ≤ 14 by decide)
  have I5 := Iso.putR (i := a) (j := p5) (f := 390) J5 (by rw [nkA f4_5 ka4 (by decide)]; decide) (by rw [nkA0]; decide)
  have ea5 : adp ad4 p5 q5 a = ad0 a := (adp_ne _ na5).trans ea4
  rw [ea5, adp_hit, ← e5, ← g5] at I5
  obtain ⟨ad5, d5⟩ : ∃ z, z = adp ad4 p5 q5 := ⟨_, rfl⟩
  rw [← d5] at I5 ea5
  have ka5 : zK N5 a = 13 := by rw [g5]; exact nkA f4_5 ka4 (by decide)
  have f5_6 : zK N5 p6 = 0 := by rw [g5]; exact nk00 f4_6 (Ne.symm hd56)
  have f5_7 : zK N5 p7 = 0 := by rw [g5]; exact nk00 f4_7 (Ne.symm hd57)
  refine zr_aload_n dX12_init_46 rfl ?_
  refine zr_bipush (v := nI 8) dX12_init_47 (by decide) ?_
  refine zr_newPN (κ := 15) dX12_init_49 rfl (Or.inr (Or.inl ⟨rfl, rfl, rfl⟩)) ac_int (by decide) (by omega) (fun q6 hq6 => ?_)
  have kk6 : zK (znewA M5 q6 15 8) (ad0 a) = 13 := nkA hq6 (by rw [← ea5]; exact Iso.k I5 ka5 (by decide)) (by decide)
  refine zr_putR dX12_init_51 (lkX12_27.elim id (fun h => absurd h (by decide +kernel))) rfl rfl (by decide) (by decide) rfl kk6 ?_
  obtain ⟨M6, e6⟩ : ∃ z, z = zputR (znewA M5 q6 15 8) 393 (ad0 a) (some q6) := ⟨_, rfl⟩
  rw [← e6]
  have c6 : zC M6 = zC M5 + 1 ∧ zS M6 = zS M5 + 8 := by rw [e6]; exact ⟨rfl, rfl⟩
  have na6 : a ≠ p6 := fun z => by have y := hp6; rw [← z, ha] at y; cases y
  obtain ⟨N6, g6⟩ : ∃ z, z = zputR (znewA N5 p6 15 8) 393 a (some p6) := ⟨_, rfl⟩
  have J6 := Iso.newA (i := p6) (n := 8) I5 hq6 f5_6 (show 14 ≤ 15 by decide)
  have I6 := Iso.putR (i := a) (j := p6) (f := 393) J6 (by rw [nkA f5_6 ka5 (by decide)]; decide) (by rw [nkA0]; decide)
  have ea6 : adp ad5 p6 q6 a = ad0 a := (adp_ne _ na6).trans ea5
  rw [ea6, adp_hit, ← e6, ← g6] at I6
  obtain ⟨ad6, d6⟩ : ∃ z, z = adp ad5 p6 q6 := ⟨_, rfl⟩
  rw [← d6] at I6 ea6
  have ka6 : zK N6 a = 13 := by rw [g6]; exact nkA f5_6 ka5 (by decide)
  have f6_7 : zK N6 p7 = 0 := by rw [g6]; exact nk00 f5_7 (Ne.symm hd67)
  refine zr_aload_n dX12_init_54 rfl ?_
  refine zr_sipush (v := nI 15360) dX12_init_55 (by decide) ?_
  refine zr_newPN (κ := 14) dX12_init_58 rfl (Or.inl ⟨rfl, rfl, rfl⟩) ac_byte (by decide) (by omega) (fun q7 hq7 => ?_)
  have kk7 : zK (znewA M6 q7 14 15360) (ad0 a) = 13 := nkA hq7 (by rw [← ea6]; exact Iso.k I6 ka6 (by decide)) (by decide)
  refine zr_putR dX12_init_60 (lkX12_31.elim id (fun h => absurd h (by decide +kernel))) rfl rfl (by decide) (by decide) rfl kk7 ?_
  obtain ⟨M7, e7⟩ : ∃ z, z = zputR (znewA M6 q7 14 15360) 395 (ad0 a) (some q7) := ⟨_, rfl⟩
  rw [← e7]
  have c7 : zC M7 = zC M6 + 1 ∧ zS M7 = zS M6 + 15360 := by rw [e7]; exact ⟨rfl, rfl⟩
  have na7 : a ≠ p7 := fun z => by have y := hp7; rw [← z, ha] at y; cases y
  obtain ⟨N7, g7⟩ : ∃ z, z = zputR (znewA N6 p7 14 15360) 395 a (some p7) := ⟨_, rfl⟩
  have J7 := Iso.newA (i := p7) (n := 15360) I6 hq7 f6_7 (show 14 ≤ 14 by decide)
  have I7 := Iso.putR (i := a) (j := p7) (f := 395) J7 (by rw [nkA f6_7 ka6 (by decide)]; decide) (by rw [nkA0]; decide)
  have ea7 : adp ad6 p7 q7 a = ad0 a := (adp_ne _ na7).trans ea6
  rw [ea7, adp_hit, ← e7, ← g7] at I7
  obtain ⟨ad7, d7⟩ : ∃ z, z = adp ad6 p7 q7 := ⟨_, rfl⟩
  rw [← d7] at I7 ea7
  have ka7 : zK N7 a = 13 := by rw [g7]; exact nkA f6_7 ka6 (by decide)
  refine zr_aload_n dX12_init_63 rfl ?_
  refine zr_iconst (v := nI 3) dX12_init_64 (by decide) ?_
  refine zr_putI dX12_init_65 lkX12_34 (by decide) (by decide) rfl rfl (by rw [← ea7]; exact Iso.k I7 ka7 (by decide)) ?_
  refine zr_vret dX12_init_68 rfl ?_
  refine ⟨rfl, q1, q2, q3, q4, q5, q6, q7, ?_⟩
  have I8 := Iso.put (i := a) (f := 401) (v := nI 3) I7 (by rw [ka7]; decide)
  rw [ea7] at I8
  rw [d7, d6, d5, d4, d3, d2, d1, g7, g6, g5, g4, g3, g2, g1] at I8
  exact I8
