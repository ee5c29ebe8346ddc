/-! ===== LsmStoreModel (3) ===== -/
/-- where the bytes of a map stand that a number names -/
def Vt (ad : Nat → Nat) (A : As) (s0 : Int32) (r n q : Nat) (ms : Mp) : Prop := (s0 = -1 ∧ r = ad 41 ∧ n = 16400 ∧ q = 0 ∧ ms = aM A) ∨ ∃ j, s0 = nI j ∧ j < 8 ∧ aN A j = some ms ∧ r = ad 43 ∧ n = 131200 ∧ q = j * 16400
def Vx (ad : Nat → Nat) (M : zM) (A : As) (s0 : Int32) (r n q : Nat) (ms : Mp) : Prop := Vt ad A s0 r n q ms ∧ Rw8 M r n ∧ Ma (zA M r) q ms ∧ Mw 64 ms ∧ q + (Mb ms).length ≤ n
theorem Ta.vx {ad : Nat → Nat} {M : zM} {A : As} {s0 : Int32} {ms : Mp} (hT : Ta ad M A) (hv : vmp A s0 = some ms) : ∃ r n q, Vx ad M A s0 r n q ms := by
  obtain ⟨hL, tK, tV, tM, tS, tB, tX⟩ := id hT
  unfold vmp at hv
  by_cases h1 : s0 = -1
  · rw [if_pos h1] at hv
    cases hv
    have := tM.2.2.mb (Nat.le_refl _)
    exact ⟨ad 41, 16400, 0, Or.inl ⟨h1, rfl, rfl, rfl, rfl⟩, ⟨hL.K 41 14, hL.N 41 16400, by decide⟩, tM.2.1.congr (fun i _ => by show zA M (ad 41) (0 + i) = zA M (ad 41) i; rw [Nat.zero_add]), tM.2.2, by omega⟩
  · rw [if_neg h1] at hv
    by_cases h2 : 0 ≤ s0.toInt ∧ s0.toInt < 8
    · rw [if_pos h2] at hv
      have e1 := toInt_nat h2.1
      have e2 : s0.toInt = (s0.toNatClampNeg : Int) := by show s0.toInt = ((s0.toInt.toNat : Nat) : Int); omega
      obtain ⟨a1, a2, a3⟩ := tS.2 _ ms (by omega) hv
      have := a1.mb (Nat.le_refl _)
      exact ⟨ad 43, 131200, s0.toNatClampNeg * 16400, Or.inr ⟨_, e1, by omega, hv, rfl, rfl, rfl⟩, ⟨hL.K 43 14, hL.N 43 131200, by decide⟩, a3, a1, by omega⟩
    · rw [if_neg h2] at hv; cases hv
theorem vmp_neg {A : As} {s0 : Int32} (h1 : ¬ s0 = -1) (h : s0 < 0) : vmp A s0 = none := by unfold vmp; rw [if_neg h1, if_neg (fun z => by have := i32_neg h; omega)]
theorem vmp_big {A : As} {s0 : Int32} (h1 : ¬ s0 = -1) (h : nI 8 ≤ s0) : vmp A s0 = none := by
  unfold vmp
  rw [if_neg h1, if_neg (fun z => by have := Int32.le_iff_toInt_le.mp h; rw [nI_toInt (by decide)] at this; omega)]
theorem vmp_at {A : As} {s0 : Int32} (h1 : ¬ s0 = -1) (h2 : 0 ≤ s0.toInt) (h3 : s0.toInt < 8) : vmp A s0 = aN A s0.toNatClampNeg := by unfold vmp; rw [if_neg h1, if_pos ⟨h2, h3⟩]
theorem svb8 (sv : Nat → Option Mp) : svb sv 8 < 256 := svb_lt sv 8
set_option maxRecDepth 100000 in
set_option maxHeartbeats 4000000 in
theorem c_isThere {G : zG} {ad : Nat → Nat} {d : Nat} {s0 : Int32} {A : As} {M : zM} (hd : 2 ≤ d) (hcb : zC M ≤ 600128 ∧ zS M ≤ 7301098) (hT : Ta ad M A)  : zMet G mX12_isThere d [.ref ((ad 38)), .int s0] M (fun o M' => (aF A = 1 ∧ o = .inl (some (.int (nI 0))) ∧ M' = zput M 402 (ad 38) (nI 1)) ∨ (aF A = 0 ∧ vmp A s0 = none ∧ o = .inl (some (.int (nI 0))) ∧ M' = zput M 402 (ad 38) (nI 2)) ∨ (aF A = 0 ∧ ∃ ms, vmp A s0 = some ms ∧ o = .inl (some (.int (nI 1))) ∧ M' = zput M 402 (ad 38) (nI 0))) := by
  obtain ⟨hL, tK, tV, tM, tS, tB, tX⟩ := id hT
  have hbd := hT.bd
  refine zMet_of (by decide +kernel) (Nat.le_of_ble_eq_true rfl) rfl hcb ?_
  show zw G mX12_isThere d _ _ _ 0 [some (.ref ((ad 38))), some (.int s0)] [] M
  refine zr_aload_n dX12_isThere_0 rfl ?_
  refine zr_aload_n dX12_isThere_1 rfl ?_
  refine zr_getI dX12_isThere_2 lkX12_75 (by decide) (by decide) rfl (hL.K 38 13) ?_
  refine zr_as (y := (nI (aF A))) tX.1 ?_
  refine zr_if_eqN 12 dX12_isThere_5 (by decide) (by omega) (fun h5 => ?_) (fun h5 => ?_)
  · refine zr_iload_n dX12_isThere_12 rfl ?_
    refine zr_iconst (v := -1) dX12_isThere_13 (by decide) ?_
    refine zr_icmp_eq 42 dX12_isThere_14 (by decide) (fun h14 => ?_) (fun h14 => ?_)
    · refine zr_iconst (v := nI 0) dX12_isThere_42 (by decide) ?_
      refine zr_putI dX12_isThere_43 lkX12_38 (by decide) (by decide) rfl rfl (hL.K 38 13) ?_
      refine zr_aload_n dX12_isThere_46 rfl ?_
      refine zr_getI dX12_isThere_47 lkX12_38 (by decide) (by decide) rfl (hL.K 38 13) ?_
      refine zr_as (y := (nI 0)) (zput_hit _ _ _ _) ?_
      refine zr_if_ne 57 dX12_isThere_50 (by decide) (fun h50 => absurd rfl h50) (fun h50 => ?_)
      refine zr_iconst (v := nI 1) dX12_isThere_53 (by decide) ?_
      refine zr_goto 58 dX12_isThere_54 (by decide) ?_
      refine zr_zret dX12_isThere_58 rfl (Or.inr rfl) ?_
      exact Or.inr (Or.inr ⟨by omega, aM A, by unfold vmp; rw [if_pos h14], rfl, rfl⟩)
    · refine zr_iload_n dX12_isThere_17 rfl ?_
      refine zr_if_lt 38 dX12_isThere_18 (by decide) (fun h18 => ?_) (fun h18 => ?_)
      · refine zr_iconst (v := nI 2) dX12_isThere_38 (by decide) ?_
        refine zr_goto 43 dX12_isThere_39 (by decide) ?_
        refine zr_putI dX12_isThere_43 lkX12_38 (by decide) (by decide) rfl rfl (hL.K 38 13) ?_
        refine zr_aload_n dX12_isThere_46 rfl ?_
        refine zr_getI dX12_isThere_47 lkX12_38 (by decide) (by decide) rfl (hL.K 38 13) ?_
        refine zr_as (y := (nI 2)) (zput_hit _ _ _ _) ?_
        refine zr_if_neN 57 dX12_isThere_50 (by decide) (by decide) (fun h50 => ?_) (fun h50 => absurd h50 (by decide))
        refine zr_iconst (v := nI 0) dX12_isThere_57 (by decide) ?_
        refine zr_zret dX12_isThere_58 rfl (Or.inl rfl) ?_
        exact Or.inr (Or.inl ⟨by omega, vmp_neg h14 h18, rfl, rfl⟩)
      · refine zr_iload_n dX12_isThere_21 rfl ?_
        refine zr_bipush (v := nI 8) dX12_isThere_22 (by decide) ?_
        refine zr_icmp_ge 38 dX12_isThere_24 (by decide) (fun h24 => ?_) (fun h24 => ?_)
        · refine zr_iconst (v := nI 2) dX12_isThere_38 (by decide) ?_
          refine zr_goto 43 dX12_isThere_39 (by decide) ?_
          refine zr_putI dX12_isThere_43 lkX12_38 (by decide) (by decide) rfl rfl (hL.K 38 13) ?_
          refine zr_aload_n dX12_isThere_46 rfl ?_
          refine zr_getI dX12_isThere_47 lkX12_38 (by decide) (by decide) rfl (hL.K 38 13) ?_
          refine zr_as (y := (nI 2)) (zput_hit _ _ _ _) ?_
          refine zr_if_neN 57 dX12_isThere_50 (by decide) (by decide) (fun h50 => ?_) (fun h50 => absurd h50 (by decide))
          refine zr_iconst (v := nI 0) dX12_isThere_57 (by decide) ?_
          refine zr_zret dX12_isThere_58 rfl (Or.inl rfl) ?_
          exact Or.inr (Or.inl ⟨by omega, vmp_big h14 h24, rfl, rfl⟩)
        · have q1 := i32_nn h18
          have q2 : s0.toInt < 8 := by have := Int32.lt_iff_toInt_lt.mp (Int32.not_le.mp h24); rw [nI_toInt (by decide)] at this; exact this
          have hcl : s0.toInt = (s0.toNatClampNeg : Int) := by show s0.toInt = ((s0.toInt.toNat : Nat) : Int); omega
          have hj1 := toInt_nat q1
          obtain ⟨j0, ej⟩ : ∃ z, z = s0.toNatClampNeg := ⟨_, rfl⟩
          rw [← ej] at hj1 hcl
          have hj8 : j0 < 8 := by omega
          refine zr_asL (lv' := [some (.ref ((ad 38))), some (.int (nI j0))]) (by rw [hj1]) ?_
          refine zr_aload_n dX12_isThere_27 rfl ?_
          refine zr_getI dX12_isThere_28 lkX12_91 (by decide) (by decide) rfl (hL.K 38 13) ?_
          refine zr_as (y := (nI (svb (aN A) 8))) tS.1 ?_
          refine zr_iload_n dX12_isThere_31 rfl ?_
          refine zr_ishr dX12_isThere_32 ?_
          refine zr_iconst (v := nI 1) dX12_isThere_33 (by decide) ?_
          refine zr_iand dX12_isThere_34 ?_
          refine zr_as (y := nI (svb (aN A) 8 / 2 ^ j0 % 2)) (bit_rd ⟨svb (aN A) 8, svb8 _⟩ ⟨j0, hj8⟩) ?_
          have hbit := svb_bit (aN A) hj8
          have hb2 : svb (aN A) 8 / 2 ^ j0 % 2 < 2 := Nat.mod_lt _ (by decide)
          refine zr_if_neN 42 dX12_isThere_35 (by decide) (by omega) (fun h35 => ?_) (fun h35 => ?_)
          · refine zr_iconst (v := nI 0) dX12_isThere_42 (by decide) ?_
            refine zr_putI dX12_isThere_43 lkX12_38 (by decide) (by decide) rfl rfl (hL.K 38 13) ?_
            refine zr_aload_n dX12_isThere_46 rfl ?_
            refine zr_getI dX12_isThere_47 lkX12_38 (by decide) (by decide) rfl (hL.K 38 13) ?_
            refine zr_as (y := (nI 0)) (zput_hit _ _ _ _) ?_
            refine zr_if_ne 57 dX12_isThere_50 (by decide) (fun h50 => absurd rfl h50) (fun h50 => ?_)
            refine zr_iconst (v := nI 1) dX12_isThere_53 (by decide) ?_
            refine zr_goto 58 dX12_isThere_54 (by decide) ?_
            refine zr_zret dX12_isThere_58 rfl (Or.inr rfl) ?_
            have hz : aN A j0 ≠ none := hbit.mp (by omega)
            obtain ⟨ms, hms⟩ := Option.ne_none_iff_exists'.mp hz
            exact Or.inr (Or.inr ⟨by omega, ms, by rw [vmp_at h14 q1 q2, ← ej]; exact hms, rfl, rfl⟩)
          · refine zr_iconst (v := nI 2) dX12_isThere_38 (by decide) ?_
            refine zr_goto 43 dX12_isThere_39 (by decide) ?_
            refine zr_putI dX12_isThere_43 lkX12_38 (by decide) (by decide) rfl rfl (hL.K 38 13) ?_
            refine zr_aload_n dX12_isThere_46 rfl ?_
            refine zr_getI dX12_isThere_47 lkX12_38 (by decide) (by decide) rfl (hL.K 38 13) ?_
            refine zr_as (y := (nI 2)) (zput_hit _ _ _ _) ?_
            refine zr_if_neN 57 dX12_isThere_50 (by decide) (by decide) (fun h50 => ?_) (fun h50 => absurd h50 (by decide))
            refine zr_iconst (v := nI 0) dX12_isThere_57 (by decide) ?_
            refine zr_zret dX12_isThere_58 rfl (Or.inl rfl) ?_
            exact Or.inr (Or.inl ⟨by omega, (by rw [vmp_at h14 q1 q2, ← ej]; exact Classical.byContradiction (fun z => by have := hbit.mpr z; omega)), rfl, rfl⟩)
  · refine zr_iconst (v := nI 1) dX12_isThere_8 (by decide) ?_
    refine zr_goto 43 dX12_isThere_9 (by decide) ?_
    refine zr_putI dX12_isThere_43 lkX12_38 (by decide) (by decide) rfl rfl (hL.K 38 13) ?_
    refine zr_aload_n dX12_isThere_46 rfl ?_
    refine zr_getI dX12_isThere_47 lkX12_38 (by decide) (by decide) rfl (hL.K 38 13) ?_
    refine zr_as (y := (nI 1)) (zput_hit _ _ _ _) ?_
    refine zr_if_ne 57 dX12_isThere_50 (by decide) (fun h50 => ?_) (fun h50 => absurd h50 (by decide))
    refine zr_iconst (v := nI 0) dX12_isThere_57 (by decide) ?_
    refine zr_zret dX12_isThere_58 rfl (Or.inl rfl) ?_
    exact Or.inl ⟨by omega, rfl, rfl⟩
set_option maxRecDepth 100000 in
set_option maxHeartbeats 4000000 in
theorem c_rowOf {G : zG} {ad : Nat → Nat} {d r n q : Nat} {A : As} {s0 : Int32} {ms : Mp} {M : zM} (hcb : zC M ≤ 600128 ∧ zS M ≤ 7301098) (hT : Ta ad M A) (hV : Vx ad M A s0 r n q ms) : zMet G mX12_rowOf d [.ref (ad 38), .int s0] M (fun o M' => o = .inl (some (.ref r)) ∧ M' = M) := by
  obtain ⟨hL, tK, tV, tM, tS, tB, tX⟩ := id hT
  refine zMet_of (by decide +kernel) (Nat.le_of_ble_eq_true rfl) rfl hcb ?_
  show zw G mX12_rowOf d _ _ _ 0 [some (.ref (ad 38)), some (.int s0)] [] M
  rcases hV.1 with ⟨rfl, rfl, rfl, rfl, rfl⟩ | ⟨j, rfl, hj, hsj, rfl, rfl, rfl⟩
  · refine zr_iload_n dX12_rowOf_0 rfl ?_
    refine zr_if_ge 11 dX12_rowOf_1 (by decide) (fun h1 => ?_) (fun h1 => ?_)
    · refine zr_aload_n dX12_rowOf_11 rfl ?_
      refine zr_getR dX12_rowOf_12 lkX12_24 (by decide) (by decide) rfl (hL.K 38 13) (hL.R 390 38 43) ?_
      refine zr_aret dX12_rowOf_15 rfl (Or.inr ⟨_, rfl⟩) (Or.inr ⟨_, rfl⟩) ?_
      exact absurd h1 (by decide)
    · refine zr_aload_n dX12_rowOf_4 rfl ?_
      refine zr_getR dX12_rowOf_5 lkX12_16 (by decide) (by decide) rfl (hL.K 38 13) (hL.R 388 38 41) ?_
      refine zr_goto 15 dX12_rowOf_8 (by decide) ?_
      refine zr_aret dX12_rowOf_15 rfl (Or.inr ⟨_, rfl⟩) (Or.inr ⟨_, rfl⟩) ?_
      exact ⟨rfl, rfl⟩
  · refine zr_iload_n dX12_rowOf_0 rfl ?_
    refine zr_if_geN 11 dX12_rowOf_1 (by decide) (by omega) ?_
    refine zr_aload_n dX12_rowOf_11 rfl ?_
    refine zr_getR dX12_rowOf_12 lkX12_24 (by decide) (by decide) rfl (hL.K 38 13) (hL.R 390 38 43) ?_
    refine zr_aret dX12_rowOf_15 rfl (Or.inr ⟨_, rfl⟩) (Or.inr ⟨_, rfl⟩) ?_
    exact ⟨rfl, rfl⟩
set_option maxRecDepth 100000 in
set_option maxHeartbeats 4000000 in
theorem c_from {G : zG} {ad : Nat → Nat} {d r n q : Nat} {A : As} {s0 : Int32} {ms : Mp} {M : zM} (hcb : zC M ≤ 600128 ∧ zS M ≤ 7301098) (hT : Ta ad M A) (hV : Vx ad M A s0 r n q ms) : zMet G mX12_from d [.ref (ad 38), .int s0] M (fun o M' => o = .inl (some (.int (nI q))) ∧ M' = M) := by
  obtain ⟨hL, tK, tV, tM, tS, tB, tX⟩ := id hT
  refine zMet_of (by decide +kernel) (Nat.le_of_ble_eq_true rfl) rfl hcb ?_
  show zw G mX12_from d _ _ _ 0 [some (.ref (ad 38)), some (.int s0)] [] M
  rcases hV.1 with ⟨rfl, rfl, rfl, rfl, rfl⟩ | ⟨j, rfl, hj, hsj, rfl, rfl, rfl⟩
  · refine zr_iload_n dX12_from_0 rfl ?_
    refine zr_if_ge 8 dX12_from_1 (by decide) (fun h1 => ?_) (fun h1 => ?_)
    · refine zr_iload_n dX12_from_8 rfl ?_
      refine zr_sipush (v := nI 16400) dX12_from_9 (by decide) ?_
      refine zr_imul dX12_from_12 ?_
      refine zr_iret dX12_from_13 rfl ?_
      exact absurd h1 (by decide)
    · refine zr_iconst (v := nI 0) dX12_from_4 (by decide) ?_
      refine zr_goto 13 dX12_from_5 (by decide) ?_
      refine zr_iret dX12_from_13 rfl ?_
      exact ⟨rfl, rfl⟩
  · refine zr_iload_n dX12_from_0 rfl ?_
    refine zr_if_geN 8 dX12_from_1 (by decide) (by omega) ?_
    refine zr_iload_n dX12_from_8 rfl ?_
    refine zr_sipush (v := nI 16400) dX12_from_9 (by decide) ?_
    refine zr_imulN dX12_from_12 ?_
    refine zr_iret dX12_from_13 rfl ?_
    exact ⟨rfl, rfl⟩
set_option maxRecDepth 100000 in
set_option maxHeartbeats 4000000 in
theorem c_end {G : zG} {ad : Nat → Nat} {d r n q : Nat} {A : As} {s0 : Int32} {ms : Mp} {M : zM} (hcb : zC M ≤ 600128 ∧ zS M ≤ 7301098) (hT : Ta ad M A) (hV : Vx ad M A s0 r n q ms) : zMet G mX12_end d [.ref (ad 38), .int s0] M (fun o M' => o = .inl (some (.int (nI (q + (Mb ms).length)))) ∧ M' = M) := by
  obtain ⟨hL, tK, tV, tM, tS, tB, tX⟩ := id hT
  refine zMet_of (by decide +kernel) (Nat.le_of_ble_eq_true rfl) rfl hcb ?_
  show zw G mX12_end d _ _ _ 0 [some (.ref (ad 38)), some (.int s0)] [] M
  rcases hV.1 with ⟨rfl, rfl, rfl, rfl, rfl⟩ | ⟨j, rfl, hj, hsj, rfl, rfl, rfl⟩
  · refine zr_iload_n dX12_end_0 rfl ?_
    refine zr_if_ge 11 dX12_end_1 (by decide) (fun h1 => ?_) (fun h1 => ?_)
    · exact absurd h1 (by decide)
    · refine zr_aload_n dX12_end_4 rfl ?_
      refine zr_getI dX12_end_5 lkX12_58 (by decide) (by decide) rfl (hL.K 38 13) ?_
      refine zr_as (y := (nI ((Mb (aM A)).length))) tM.1 ?_
      refine zr_goto 23 dX12_end_8 (by decide) ?_
      refine zr_iret dX12_end_23 rfl ?_
      exact ⟨by rw [Nat.zero_add], rfl⟩
  · refine zr_iload_n dX12_end_0 rfl ?_
    refine zr_if_geN 11 dX12_end_1 (by decide) (by omega) ?_
    refine zr_iload_n dX12_end_11 rfl ?_
    refine zr_sipush (v := nI 16400) dX12_end_12 (by decide) ?_
    refine zr_imulN dX12_end_15 ?_
    refine zr_aload_n dX12_end_16 rfl ?_
    refine zr_getR dX12_end_17 lkX12_27 (by decide) (by decide) rfl (hL.K 38 13) (hL.R 393 38 44) ?_
    refine zr_iload_n dX12_end_20 rfl ?_
    refine zr_ialdN dX12_end_21 (hL.K 44 15) (hL.N 44 8) hj (by omega) ?_
    refine zr_as (y := (nI ((Mb ms).length))) (tS.2 j ms hj hsj).2.1 ?_
    refine zr_iaddN dX12_end_22 ?_
    refine zr_iret dX12_end_23 rfl ?_
    exact ⟨rfl, rfl⟩
set_option maxRecDepth 100000 in
set_option maxHeartbeats 4000000 in
theorem b_power {G : zG} {ad : Nat → Nat} {d : Nat} {w0 k9 b9 : Int32} {A : As} {M : zM} (hd : 2 ≤ d) (hcb : zC M ≤ 600128 ∧ zS M ≤ 7301098) (hT : Ta ad M A)  : zMet G mX12_power d [.ref ((ad 38)), .int w0, .int k9, .int b9] M (Mst ad M (sPow w0 k9 b9 A) cd1 (none)) := by
  obtain ⟨hL, tK, tV, tM, tS, tB, tX⟩ := id hT
  have hbd := hT.bd
  refine zMet_of (by decide +kernel) (Nat.le_of_ble_eq_true rfl) rfl hcb ?_
  show zw G mX12_power d _ _ _ 0 [some (.ref ((ad 38))), some (.int w0), some (.int k9), some (.int b9)] [] M
  refine zr_aload_n dX12_power_0 rfl ?_
  refine zr_iload_n dX12_power_1 rfl ?_
  refine zr_if_lt 32 dX12_power_2 (by decide) (fun h2 => ?_) (fun h2 => ?_)
  · refine zr_iconst (v := nI 1) dX12_power_32 (by decide) ?_
    refine zr_goto 37 dX12_power_33 (by decide) ?_
    refine zr_putI dX12_power_37 lkX12_38 (by decide) (by decide) rfl rfl (hL.K 38 13) ?_
    refine zr_aload_n dX12_power_40 rfl ?_
    refine zr_getI dX12_power_41 lkX12_38 (by decide) (by decide) rfl (hL.K 38 13) ?_
    refine zr_as (y := (nI 1)) (zput_hit _ _ _ _) ?_
    refine zr_if_ne 52 dX12_power_44 (by decide) (fun h44 => ?_) (fun h44 => absurd h44 (by decide))
    refine zr_vret dX12_power_52 rfl ?_
    obtain ⟨M9, e9⟩ : ∃ z, z = (zput M 402 (ad 38) (nI 1)) := ⟨_, rfl⟩
    rw [← e9]
    have hF9 : Fl ad 0 [402] [] [] M M9 := by rw [e9]; exact ((Fl.refl ad _ _ _ M).put hL (f := 402) (i := 38))
    have g9_402 : zI M9 402 (ad 38) = (nI 1) := by rw [e9]; exact zput_hit _ _ _ _
    have e8 : sPow w0 k9 b9 A = (A, .inr 1) := if_pos (Or.inl (i32_neg h2))
    rw [e8]
    exact ⟨⟨hF9.lay hL, tK.fl hF9, tV.fl hF9, tM.fl hF9, tS.fl hF9, tB.fl hF9, tX.fl hF9⟩, hF9.mono, g9_402, rfl⟩
  · refine zr_iload_n dX12_power_5 rfl ?_
    refine zr_iconst (v := nI 3) dX12_power_6 (by decide) ?_
    refine zr_icmp_gt 32 dX12_power_7 (by decide) (fun h7 => ?_) (fun h7 => ?_)
    · refine zr_iconst (v := nI 1) dX12_power_32 (by decide) ?_
      refine zr_goto 37 dX12_power_33 (by decide) ?_
      refine zr_putI dX12_power_37 lkX12_38 (by decide) (by decide) rfl rfl (hL.K 38 13) ?_
      refine zr_aload_n dX12_power_40 rfl ?_
      refine zr_getI dX12_power_41 lkX12_38 (by decide) (by decide) rfl (hL.K 38 13) ?_
      refine zr_as (y := (nI 1)) (zput_hit _ _ _ _) ?_
      refine zr_if_ne 52 dX12_power_44 (by decide) (fun h44 => ?_) (fun h44 => absurd h44 (by decide))
      refine zr_vret dX12_power_52 rfl ?_
      obtain ⟨M9, e9⟩ : ∃ z, z = (zput M 402 (ad 38) (nI 1)) := ⟨_, rfl⟩
      rw [← e9]
      have hF9 : Fl ad 0 [402] [] [] M M9 := by rw [e9]; exact ((Fl.refl ad _ _ _ M).put hL (f := 402) (i := 38))
      have g9_402 : zI M9 402 (ad 38) = (nI 1) := by rw [e9]; exact zput_hit _ _ _ _
      have e8 : sPow w0 k9 b9 A = (A, .inr 1) := if_pos (Or.inr (Or.inl ((i32_lt (k := 3) (by decide)).mp h7)))
      rw [e8]
      exact ⟨⟨hF9.lay hL, tK.fl hF9, tV.fl hF9, tM.fl hF9, tS.fl hF9, tB.fl hF9, tX.fl hF9⟩, hF9.mono, g9_402, rfl⟩
    · refine zr_iload_n dX12_power_10 rfl ?_
      refine zr_if_lt 32 dX12_power_11 (by decide) (fun h11 => ?_) (fun h11 => ?_)
      · refine zr_iconst (v := nI 1) dX12_power_32 (by decide) ?_
        refine zr_goto 37 dX12_power_33 (by decide) ?_
        refine zr_putI dX12_power_37 lkX12_38 (by decide) (by decide) rfl rfl (hL.K 38 13) ?_
        refine zr_aload_n dX12_power_40 rfl ?_
        refine zr_getI dX12_power_41 lkX12_38 (by decide) (by decide) rfl (hL.K 38 13) ?_
        refine zr_as (y := (nI 1)) (zput_hit _ _ _ _) ?_
        refine zr_if_ne 52 dX12_power_44 (by decide) (fun h44 => ?_) (fun h44 => absurd h44 (by decide))
        refine zr_vret dX12_power_52 rfl ?_
        obtain ⟨M9, e9⟩ : ∃ z, z = (zput M 402 (ad 38) (nI 1)) := ⟨_, rfl⟩
        rw [← e9]
        have hF9 : Fl ad 0 [402] [] [] M M9 := by rw [e9]; exact ((Fl.refl ad _ _ _ M).put hL (f := 402) (i := 38))
        have g9_402 : zI M9 402 (ad 38) = (nI 1) := by rw [e9]; exact zput_hit _ _ _ _
        have e8 : sPow w0 k9 b9 A = (A, .inr 1) := if_pos (Or.inr (Or.inr (Or.inl (i32_neg h11))))
        rw [e8]
        exact ⟨⟨hF9.lay hL, tK.fl hF9, tV.fl hF9, tM.fl hF9, tS.fl hF9, tB.fl hF9, tX.fl hF9⟩, hF9.mono, g9_402, rfl⟩
      · refine zr_iload_n dX12_power_14 rfl ?_
        refine zr_sipush (v := nI 400) dX12_power_15 (by decide) ?_
        refine zr_icmp_gt 32 dX12_power_18 (by decide) (fun h18 => ?_) (fun h18 => ?_)
        · refine zr_iconst (v := nI 1) dX12_power_32 (by decide) ?_
          refine zr_goto 37 dX12_power_33 (by decide) ?_
          refine zr_putI dX12_power_37 lkX12_38 (by decide) (by decide) rfl rfl (hL.K 38 13) ?_
          refine zr_aload_n dX12_power_40 rfl ?_
          refine zr_getI dX12_power_41 lkX12_38 (by decide) (by decide) rfl (hL.K 38 13) ?_
          refine zr_as (y := (nI 1)) (zput_hit _ _ _ _) ?_
          refine zr_if_ne 52 dX12_power_44 (by decide) (fun h44 => ?_) (fun h44 => absurd h44 (by decide))
          refine zr_vret dX12_power_52 rfl ?_
          obtain ⟨M9, e9⟩ : ∃ z, z = (zput M 402 (ad 38) (nI 1)) := ⟨_, rfl⟩
          rw [← e9]
          have hF9 : Fl ad 0 [402] [] [] M M9 := by rw [e9]; exact ((Fl.refl ad _ _ _ M).put hL (f := 402) (i := 38))
          have g9_402 : zI M9 402 (ad 38) = (nI 1) := by rw [e9]; exact zput_hit _ _ _ _
          have e8 : sPow w0 k9 b9 A = (A, .inr 1) := if_pos (Or.inr (Or.inr (Or.inr (Or.inl ((i32_lt (k := 400) (by decide)).mp h18)))))
          rw [e8]
          exact ⟨⟨hF9.lay hL, tK.fl hF9, tV.fl hF9, tM.fl hF9, tS.fl hF9, tB.fl hF9, tX.fl hF9⟩, hF9.mono, g9_402, rfl⟩
        · refine zr_iload_n dX12_power_21 rfl ?_
          refine zr_if_lt 32 dX12_power_22 (by decide) (fun h22 => ?_) (fun h22 => ?_)
          · refine zr_iconst (v := nI 1) dX12_power_32 (by decide) ?_
            refine zr_goto 37 dX12_power_33 (by decide) ?_
            refine zr_putI dX12_power_37 lkX12_38 (by decide) (by decide) rfl rfl (hL.K 38 13) ?_
            refine zr_aload_n dX12_power_40 rfl ?_
            refine zr_getI dX12_power_41 lkX12_38 (by decide) (by decide) rfl (hL.K 38 13) ?_
            refine zr_as (y := (nI 1)) (zput_hit _ _ _ _) ?_
            refine zr_if_ne 52 dX12_power_44 (by decide) (fun h44 => ?_) (fun h44 => absurd h44 (by decide))
            refine zr_vret dX12_power_52 rfl ?_
            obtain ⟨M9, e9⟩ : ∃ z, z = (zput M 402 (ad 38) (nI 1)) := ⟨_, rfl⟩
            rw [← e9]
            have hF9 : Fl ad 0 [402] [] [] M M9 := by rw [e9]; exact ((Fl.refl ad _ _ _ M).put hL (f := 402) (i := 38))
            have g9_402 : zI M9 402 (ad 38) = (nI 1) := by rw [e9]; exact zput_hit _ _ _ _
            have e8 : sPow w0 k9 b9 A = (A, .inr 1) := if_pos (Or.inr (Or.inr (Or.inr (Or.inr (Or.inl (i32_neg h22))))))
            rw [e8]
            exact ⟨⟨hF9.lay hL, tK.fl hF9, tV.fl hF9, tM.fl hF9, tS.fl hF9, tB.fl hF9, tX.fl hF9⟩, hF9.mono, g9_402, rfl⟩
          · refine zr_iload_n dX12_power_25 rfl ?_
            refine zr_sipush (v := nI 300) dX12_power_26 (by decide) ?_
            refine zr_icmp_le 36 dX12_power_29 (by decide) (fun h29 => ?_) (fun h29 => ?_)
            · refine zr_iconst (v := nI 0) dX12_power_36 (by decide) ?_
              refine zr_putI dX12_power_37 lkX12_38 (by decide) (by decide) rfl rfl (hL.K 38 13) ?_
              refine zr_aload_n dX12_power_40 rfl ?_
              refine zr_getI dX12_power_41 lkX12_38 (by decide) (by decide) rfl (hL.K 38 13) ?_
              refine zr_as (y := (nI 0)) (zput_hit _ _ _ _) ?_
              refine zr_if_ne 52 dX12_power_44 (by decide) (fun h44 => absurd rfl h44) (fun h44 => ?_)
              have q1 := i32_nn h2
              have q2 : w0.toInt ≤ 3 := Int.not_lt.mp (fun z => h7 (Int32.lt_iff_toInt_lt.mpr (by rw [nI_toInt (by decide)]; exact z)))
              have q3 := i32_nn h11
              have q4 : k9.toInt ≤ 400 := Int.not_lt.mp (fun z => h18 (Int32.lt_iff_toInt_lt.mpr (by rw [nI_toInt (by decide)]; exact z)))
              have q5 := i32_nn h22
              have q6 : b9.toInt ≤ 300 := (i32_le (by decide)).mp h29
              have e1 := toInt_nat q1
              have c1 : w0.toInt = (w0.toNatClampNeg : Int) := by show w0.toInt = ((w0.toInt.toNat : Nat) : Int); omega
              refine zr_asL (lv' := [some (.ref ((ad 38))), some (.int (nI w0.toNatClampNeg)), some (.int k9), some (.int b9)]) (by rw [← e1]) ?_
              refine zr_aload_n dX12_power_47 rfl ?_
              refine zr_iload_n dX12_power_48 rfl ?_
              refine zr_putI dX12_power_49 lkX12_34 (by decide) (by decide) rfl rfl (hL.K 38 13) ?_
              refine zr_vret dX12_power_52 rfl ?_
              obtain ⟨M9, e9⟩ : ∃ z, z = (zput (zput M 402 (ad 38) (nI 0)) 401 (ad 38) (nI w0.toNatClampNeg)) := ⟨_, rfl⟩
              rw [← e9]
              have hF9 : Fl ad 0 [401, 402] [] [] M M9 := by rw [e9]; exact (((Fl.refl ad _ _ _ M).put hL (f := 402) (i := 38)).put hL (f := 401) (i := 38))
              have g9_401 : zI M9 401 (ad 38) = (nI w0.toNatClampNeg) := by rw [e9]; exact zput_hit _ _ _ _
              have g9_402 : zI M9 402 (ad 38) = (nI 0) := by rw [e9]; exact (zput_ms (f := 401) (by decide) (zput_hit _ _ _ _))
              have e8 : sPow w0 k9 b9 A = ((aM A, aK A, aV A, aS A, aO A, aF A, w0.toNatClampNeg, aC A, aN A), .inl none) := if_neg (by omega)
              rw [e8]
              exact ⟨⟨hF9.lay hL, tK.fl hF9, tV.fl hF9, tM.fl hF9, tS.fl hF9, tB.fl hF9, (hF9.rI (by decide) (by decide)).trans tX.1, tX.2.1, (hF9.rI (by decide) (by decide)).trans tX.2.2.1, g9_401, by show w0.toNatClampNeg ≤ 3; omega⟩, hF9.mono, g9_402, rfl⟩
            · refine zr_iconst (v := nI 1) dX12_power_32 (by decide) ?_
              refine zr_goto 37 dX12_power_33 (by decide) ?_
              refine zr_putI dX12_power_37 lkX12_38 (by decide) (by decide) rfl rfl (hL.K 38 13) ?_
              refine zr_aload_n dX12_power_40 rfl ?_
              refine zr_getI dX12_power_41 lkX12_38 (by decide) (by decide) rfl (hL.K 38 13) ?_
              refine zr_as (y := (nI 1)) (zput_hit _ _ _ _) ?_
              refine zr_if_ne 52 dX12_power_44 (by decide) (fun h44 => ?_) (fun h44 => absurd h44 (by decide))
              refine zr_vret dX12_power_52 rfl ?_
              obtain ⟨M9, e9⟩ : ∃ z, z = (zput M 402 (ad 38) (nI 1)) := ⟨_, rfl⟩
              rw [← e9]
              have hF9 : Fl ad 0 [402] [] [] M M9 := by rw [e9]; exact ((Fl.refl ad _ _ _ M).put hL (f := 402) (i := 38))
              have g9_402 : zI M9 402 (ad 38) = (nI 1) := by rw [e9]; exact zput_hit _ _ _ _
              have e8 : sPow w0 k9 b9 A = (A, .inr 1) := if_pos (Or.inr (Or.inr (Or.inr (Or.inr (Or.inr ((i32_lt (k := 300) (by decide)).mp (Int32.not_le.mp h29)))))))
              rw [e8]
              exact ⟨⟨hF9.lay hL, tK.fl hF9, tV.fl hF9, tM.fl hF9, tS.fl hF9, tB.fl hF9, tX.fl hF9⟩, hF9.mono, g9_402, rfl⟩
set_option maxRecDepth 100000 in
set_option maxHeartbeats 4000000 in
theorem b_release {G : zG} {ad : Nat → Nat} {d : Nat} {s0 : Int32} {A : As} {M : zM} (hd : 2 ≤ d) (hcb : zC M ≤ 600128 ∧ zS M ≤ 7301098) (hT : Ta ad M A)  : zMet G mX12_release d [.ref ((ad 38)), .int s0] M (Mst ad M (sRel s0 A) cdW (none)) := by
  obtain ⟨hL, tK, tV, tM, tS, tB, tX⟩ := id hT
  have hbd := hT.bd
  refine zMet_of (by decide +kernel) (Nat.le_of_ble_eq_true rfl) rfl hcb ?_
  show zw G mX12_release d _ _ _ 0 [some (.ref ((ad 38))), some (.int s0)] [] M
  refine zr_aload_n dX12_release_0 rfl ?_
  refine zr_aload_n dX12_release_1 rfl ?_
  refine zr_getI dX12_release_2 lkX12_75 (by decide) (by decide) rfl (hL.K 38 13) ?_
  refine zr_as (y := (nI (aF A))) tX.1 ?_
  refine zr_if_eqN 12 dX12_release_5 (by decide) (by omega) (fun h5 => ?_) (fun h5 => ?_)
  · refine zr_iload_n dX12_release_12 rfl ?_
    refine zr_if_lt 33 dX12_release_13 (by decide) (fun h13 => ?_) (fun h13 => ?_)
    · refine zr_iconst (v := nI 2) dX12_release_33 (by decide) ?_
      refine zr_goto 38 dX12_release_34 (by decide) ?_
      refine zr_putI dX12_release_38 lkX12_38 (by decide) (by decide) rfl rfl (hL.K 38 13) ?_
      refine zr_aload_n dX12_release_41 rfl ?_
      refine zr_getI dX12_release_42 lkX12_38 (by decide) (by decide) rfl (hL.K 38 13) ?_
      refine zr_as (y := (nI 2)) (zput_hit _ _ _ _) ?_
      refine zr_if_neN 62 dX12_release_45 (by decide) (by decide) (fun h45 => ?_) (fun h45 => absurd h45 (by decide))
      refine zr_vret dX12_release_62 rfl ?_
      obtain ⟨M9, e9⟩ : ∃ z, z = (zput M 402 (ad 38) (nI 2)) := ⟨_, rfl⟩
      rw [← e9]
      have hF9 : Fl ad 0 [402] [] [] M M9 := by rw [e9]; exact ((Fl.refl ad _ _ _ M).put hL (f := 402) (i := 38))
      have g9_402 : zI M9 402 (ad 38) = (nI 2) := by rw [e9]; exact zput_hit _ _ _ _
      have e8 : sRel s0 A = (A, .inr 3) := by unfold sRel; rw [if_neg (by omega), if_pos (by by_cases z : s0 = -1; exact Or.inl z; exact Or.inr (vmp_neg z h13))]
      rw [e8]
      exact ⟨⟨hF9.lay hL, tK.fl hF9, tV.fl hF9, tM.fl hF9, tS.fl hF9, tB.fl hF9, tX.fl hF9⟩, hF9.mono, g9_402, rfl⟩
    · refine zr_iload_n dX12_release_16 rfl ?_
      refine zr_bipush (v := nI 8) dX12_release_17 (by decide) ?_
      refine zr_icmp_ge 33 dX12_release_19 (by decide) (fun h19 => ?_) (fun h19 => ?_)
      · refine zr_iconst (v := nI 2) dX12_release_33 (by decide) ?_
        refine zr_goto 38 dX12_release_34 (by decide) ?_
        refine zr_putI dX12_release_38 lkX12_38 (by decide) (by decide) rfl rfl (hL.K 38 13) ?_
        refine zr_aload_n dX12_release_41 rfl ?_
        refine zr_getI dX12_release_42 lkX12_38 (by decide) (by decide) rfl (hL.K 38 13) ?_
        refine zr_as (y := (nI 2)) (zput_hit _ _ _ _) ?_
        refine zr_if_neN 62 dX12_release_45 (by decide) (by decide) (fun h45 => ?_) (fun h45 => absurd h45 (by decide))
        refine zr_vret dX12_release_62 rfl ?_
        obtain ⟨M9, e9⟩ : ∃ z, z = (zput M 402 (ad 38) (nI 2)) := ⟨_, rfl⟩
        rw [← e9]
        have hF9 : Fl ad 0 [402] [] [] M M9 := by rw [e9]; exact ((Fl.refl ad _ _ _ M).put hL (f := 402) (i := 38))
        have g9_402 : zI M9 402 (ad 38) = (nI 2) := by rw [e9]; exact zput_hit _ _ _ _
        have e8 : sRel s0 A = (A, .inr 3) := by unfold sRel; rw [if_neg (by omega), if_pos (Or.inr (vmp_big (fun z => by rw [z] at h19; exact absurd h19 (by decide)) h19))]
        rw [e8]
        exact ⟨⟨hF9.lay hL, tK.fl hF9, tV.fl hF9, tM.fl hF9, tS.fl hF9, tB.fl hF9, tX.fl hF9⟩, hF9.mono, g9_402, rfl⟩
      · have q1 := i32_nn h13
        have q2 : s0.toInt < 8 := by have := Int32.lt_iff_toInt_lt.mp (Int32.not_le.mp h19); rw [nI_toInt (by decide)] at this; exact this
        have hcl : s0.toInt = (s0.toNatClampNeg : Int) := by show s0.toInt = ((s0.toInt.toNat : Nat) : Int); omega
        have hj1 := toInt_nat q1
        obtain ⟨j0, ej⟩ : ∃ z, z = s0.toNatClampNeg := ⟨_, rfl⟩
        rw [← ej] at hj1 hcl
        have hj8 : j0 < 8 := by omega
        refine zr_asL (lv' := [some (.ref ((ad 38))), some (.int (nI j0))]) (by rw [hj1]) ?_
        have hnm : ¬ s0 = -1 := fun z => by rw [z] at h13; exact absurd (by decide) h13
        refine zr_aload_n dX12_release_22 rfl ?_
        refine zr_getI dX12_release_23 lkX12_91 (by decide) (by decide) rfl (hL.K 38 13) ?_
        refine zr_as (y := (nI (svb (aN A) 8))) tS.1 ?_
        refine zr_iload_n dX12_release_26 rfl ?_
        refine zr_ishr dX12_release_27 ?_
        refine zr_iconst (v := nI 1) dX12_release_28 (by decide) ?_
        refine zr_iand dX12_release_29 ?_
        refine zr_as (y := nI (svb (aN A) 8 / 2 ^ j0 % 2)) (bit_rd ⟨svb (aN A) 8, svb8 _⟩ ⟨j0, hj8⟩) ?_
        have hbit := svb_bit (aN A) hj8
        have hb2 : svb (aN A) 8 / 2 ^ j0 % 2 < 2 := Nat.mod_lt _ (by decide)
        refine zr_if_neN 37 dX12_release_30 (by decide) (by omega) (fun h30 => ?_) (fun h30 => ?_)
        · refine zr_iconst (v := nI 0) dX12_release_37 (by decide) ?_
          refine zr_putI dX12_release_38 lkX12_38 (by decide) (by decide) rfl rfl (hL.K 38 13) ?_
          refine zr_aload_n dX12_release_41 rfl ?_
          refine zr_getI dX12_release_42 lkX12_38 (by decide) (by decide) rfl (hL.K 38 13) ?_
          refine zr_as (y := (nI 0)) (zput_hit _ _ _ _) ?_
          refine zr_if_ne 62 dX12_release_45 (by decide) (fun h45 => absurd rfl h45) (fun h45 => ?_)
          refine zr_aload_n dX12_release_48 rfl ?_
          refine zr_dup dX12_release_49 rfl ?_
          refine zr_getI dX12_release_50 lkX12_91 (by decide) (by decide) rfl (hL.K 38 13) ?_
          refine zr_as (y := (nI (svb (aN A) 8))) (zput_ms (by decide) tS.1) ?_
          refine zr_iconst (v := nI 1) dX12_release_53 (by decide) ?_
          refine zr_iload_n dX12_release_54 rfl ?_
          refine zr_ishl dX12_release_55 ?_
          refine zr_iconst (v := -1) dX12_release_56 (by decide) ?_
          refine zr_ixor dX12_release_57 ?_
          refine zr_iand dX12_release_58 ?_
          refine zr_putI dX12_release_59 lkX12_91 (by decide) (by decide) rfl rfl (hL.K 38 13) ?_
          refine zr_vret dX12_release_62 rfl ?_
          obtain ⟨M9, e9⟩ : ∃ z, z = (zput (zput M 402 (ad 38) (nI 0)) 394 (ad 38) ((nI (svb (aN A) 8)) &&& (((nI 1) <<< ((nI j0) &&& 31)) ^^^ (-1)))) := ⟨_, rfl⟩
          rw [← e9]
          have hF9 : Fl ad 0 [394, 402] [] [] M M9 := by rw [e9]; exact (((Fl.refl ad _ _ _ M).put hL (f := 402) (i := 38)).put hL (f := 394) (i := 38))
          have g9_394 : zI M9 394 (ad 38) = ((nI (svb (aN A) 8)) &&& (((nI 1) <<< ((nI j0) &&& 31)) ^^^ (-1))) := by rw [e9]; exact zput_hit _ _ _ _
          have g9_402 : zI M9 402 (ad 38) = (nI 0) := by rw [e9]; exact (zput_ms (f := 394) (by decide) (zput_hit _ _ _ _))
          have hz : aN A j0 ≠ none := hbit.mp (by omega)
          have e8 : sRel s0 A = ((aM A, aK A, aV A, aS A, aO A, aF A, aW A, aC A, fun j => if j = j0 then none else aN A j), .inl none) := by
            unfold sRel
            rw [if_neg (by omega), if_neg (fun z => by rcases z with z | z; exact hnm z; rw [vmp_at hnm q1 q2, ← ej] at z; exact hz z), ← ej]
          rw [e8]
          have hnew : TaS ad M9 (fun j => if j = j0 then none else aN A j) := by
            refine ⟨?_, fun i ms hi hs => ?_⟩
            · rw [g9_394, bit_clr ⟨svb (aN A) 8, svb8 _⟩ ⟨j0, hj8⟩ (by show svb (aN A) 8 / 2 ^ j0 % 2 = 1; omega)]
              congr 1
              have := svb_clr (aN A) hj8 hz
              show svb (aN A) 8 - 2 ^ j0 = _
              omega
            · rw [hF9.rA (i := 43) (by decide) (by decide), hF9.rA (i := 44) (by decide) (by decide)]
              dsimp only at hs
              by_cases e : i = j0
              · rw [if_pos e] at hs; cases hs
              · rw [if_neg e] at hs; exact tS.2 i ms hi hs
          exact ⟨⟨hF9.lay hL, tK.fl hF9, tV.fl hF9, tM.fl hF9, hnew, tB.fl hF9, tX.fl hF9⟩, hF9.mono, g9_402, rfl⟩
        · refine zr_iconst (v := nI 2) dX12_release_33 (by decide) ?_
          refine zr_goto 38 dX12_release_34 (by decide) ?_
          refine zr_putI dX12_release_38 lkX12_38 (by decide) (by decide) rfl rfl (hL.K 38 13) ?_
          refine zr_aload_n dX12_release_41 rfl ?_
          refine zr_getI dX12_release_42 lkX12_38 (by decide) (by decide) rfl (hL.K 38 13) ?_
          refine zr_as (y := (nI 2)) (zput_hit _ _ _ _) ?_
          refine zr_if_neN 62 dX12_release_45 (by decide) (by decide) (fun h45 => ?_) (fun h45 => absurd h45 (by decide))
          refine zr_vret dX12_release_62 rfl ?_
          obtain ⟨M9, e9⟩ : ∃ z, z = (zput M 402 (ad 38) (nI 2)) := ⟨_, rfl⟩
          rw [← e9]
          have hF9 : Fl ad 0 [402] [] [] M M9 := by rw [e9]; exact ((Fl.refl ad _ _ _ M).put hL (f := 402) (i := 38))
          have g9_402 : zI M9 402 (ad 38) = (nI 2) := by rw [e9]; exact zput_hit _ _ _ _
          have e8 : sRel s0 A = (A, .inr 3) := by unfold sRel; rw [if_neg (by omega), if_pos (Or.inr (by rw [vmp_at hnm q1 q2, ← ej]; exact Classical.byContradiction (fun z => by have := hbit.mpr z; omega)))]
          rw [e8]
          exact ⟨⟨hF9.lay hL, tK.fl hF9, tV.fl hF9, tM.fl hF9, tS.fl hF9, tB.fl hF9, tX.fl hF9⟩, hF9.mono, g9_402, rfl⟩
  · refine zr_iconst (v := nI 1) dX12_release_8 (by decide) ?_
    refine zr_goto 38 dX12_release_9 (by decide) ?_
    refine zr_putI dX12_release_38 lkX12_38 (by decide) (by decide) rfl rfl (hL.K 38 13) ?_
    refine zr_aload_n dX12_release_41 rfl ?_
    refine zr_getI dX12_release_42 lkX12_38 (by decide) (by decide) rfl (hL.K 38 13) ?_
    refine zr_as (y := (nI 1)) (zput_hit _ _ _ _) ?_
    refine zr_if_ne 62 dX12_release_45 (by decide) (fun h45 => ?_) (fun h45 => absurd h45 (by decide))
    refine zr_vret dX12_release_62 rfl ?_
    obtain ⟨M9, e9⟩ : ∃ z, z = (zput M 402 (ad 38) (nI 1)) := ⟨_, rfl⟩
    rw [← e9]
    have hF9 : Fl ad 0 [402] [] [] M M9 := by rw [e9]; exact ((Fl.refl ad _ _ _ M).put hL (f := 402) (i := 38))
    have g9_402 : zI M9 402 (ad 38) = (nI 1) := by rw [e9]; exact zput_hit _ _ _ _
    have e8 : sRel s0 A = (A, .inr 0) := if_pos (by omega)
    rw [e8]
    exact ⟨⟨hF9.lay hL, tK.fl hF9, tV.fl hF9, tM.fl hF9, tS.fl hF9, tB.fl hF9, tX.fl hF9⟩, hF9.mono, g9_402, rfl⟩
set_option maxRecDepth 100000 in
set_option maxHeartbeats 4000000 in
theorem b_told {G : zG} {ad : Nat → Nat} {d : Nat} {x0 : Int32} {A : As} {M : zM} (hd : 3 ≤ d) (hcb : zC M ≤ 600128 ∧ zS M ≤ 7301098) (hT : Ta ad M A)  : zMet G mX12_told d [.ref ((ad 38)), .int x0] M (Mst ad M (sTold x0 A) cd1 (some (.int 0))) := by
  obtain ⟨hL, tK, tV, tM, tS, tB, tX⟩ := id hT
  have hbd := hT.bd
  refine zMet_of (by decide +kernel) (Nat.le_of_ble_eq_true rfl) rfl hcb ?_
  show zw G mX12_told d _ _ _ 0 [some (.ref ((ad 38))), some (.int x0)] [] M
  refine zr_aload_n dX12_told_0 rfl ?_
  refine zr_iload_n dX12_told_1 rfl ?_
  refine zr_if_lt 11 dX12_told_2 (by decide) (fun h2 => ?_) (fun h2 => ?_)
  · refine zr_iconst (v := nI 1) dX12_told_11 (by decide) ?_
    refine zr_goto 16 dX12_told_12 (by decide) ?_
    refine zr_putI dX12_told_16 lkX12_38 (by decide) (by decide) rfl rfl (hL.K 38 13) ?_
    refine zr_aload_n dX12_told_19 rfl ?_
    refine zr_getI dX12_told_20 lkX12_38 (by decide) (by decide) rfl (hL.K 38 13) ?_
    refine zr_as (y := (nI 1)) (zput_hit _ _ _ _) ?_
    refine zr_if_leN 28 dX12_told_23 (by decide) (by decide) (fun h23 => absurd h23 (by decide)) (fun h23 => ?_)
    refine zr_iconst (v := nI 0) dX12_told_26 (by decide) ?_
    refine zr_iret dX12_told_27 rfl ?_
    obtain ⟨M9, e9⟩ : ∃ z, z = (zput M 402 (ad 38) (nI 1)) := ⟨_, rfl⟩
    rw [← e9]
    have hF9 : Fl ad 0 [402] [] [] M M9 := by rw [e9]; exact ((Fl.refl ad _ _ _ M).put hL (f := 402) (i := 38))
    have g9_402 : zI M9 402 (ad 38) = (nI 1) := by rw [e9]; exact zput_hit _ _ _ _
    have e8 : sTold x0 A = (A, .inr 1) := if_pos (Or.inl (i32_neg h2))
    rw [e8]
    exact ⟨⟨hF9.lay hL, tK.fl hF9, tV.fl hF9, tM.fl hF9, tS.fl hF9, tB.fl hF9, tX.fl hF9⟩, hF9.mono, g9_402, rfl⟩
  · refine zr_iload_n dX12_told_5 rfl ?_
    refine zr_bipush (v := nI 7) dX12_told_6 (by decide) ?_
    refine zr_icmp_le 15 dX12_told_8 (by decide) (fun h8 => ?_) (fun h8 => ?_)
    · refine zr_iconst (v := nI 0) dX12_told_15 (by decide) ?_
      refine zr_putI dX12_told_16 lkX12_38 (by decide) (by decide) rfl rfl (hL.K 38 13) ?_
      refine zr_aload_n dX12_told_19 rfl ?_
      refine zr_getI dX12_told_20 lkX12_38 (by decide) (by decide) rfl (hL.K 38 13) ?_
      refine zr_as (y := (nI 0)) (zput_hit _ _ _ _) ?_
      refine zr_if_leN 28 dX12_told_23 (by decide) (by decide) (fun h23 => ?_) (fun h23 => absurd h23 (by decide))
      refine zr_iload_n dX12_told_28 rfl ?_
      obtain ⟨M1, e1⟩ : ∃ z, z = (zput M 402 (ad 38) (nI 0)) := ⟨_, rfl⟩
      rw [← e1]
      have hF1 : Fl ad 0 [402] [] [] M M1 := by rw [e1]; exact ((Fl.refl ad _ _ _ M).put hL (f := 402) (i := 38))
      have g1_402 : zI M1 402 (ad 38) = (nI 0) := by rw [e1]; exact zput_hit _ _ _ _
      have hT1 : Ta ad M1 A := by rw [e1]; exact hT.t402
      obtain ⟨hL1, tK1, tV1, tM1, tS1, tB1, tX1⟩ := id hT1
      have hcb1 := hF1.cb hcb
      have h0 := i32_nn h2
      have h7 : x0.toInt ≤ 7 := (i32_le (by decide)).mp h8
      have hx1 := toInt_nat h0
      have hcl : x0.toInt = (x0.toNatClampNeg : Int) := by show x0.toInt = ((x0.toInt.toNat : Nat) : Int); omega
      have hs9 : sTold x0 A = (A, .inl (some (.int (tld A x0.toNatClampNeg)))) := if_neg (by omega)
      rw [hs9]
      have hend : ∀ r : Int32, r = tld A x0.toNatClampNeg → Mst ad M (A, .inl (some (.int (tld A x0.toNatClampNeg)))) cd1 (some (.int 0)) (.inl (some (.int r))) M1 := fun r hr => ⟨hT1, hF1.mono, g1_402, by rw [hr]; rfl⟩
      obtain ⟨x9, hx9⟩ : ∃ z, z = x0.toNatClampNeg := ⟨_, rfl⟩
      rw [← hx9] at hx1 hcl hend ⊢
      subst hx1
      have hx8 : x9 ≤ 7 := by omega
      clear hx9 hs9 h2 h8
      rcases (show x9 = 0 ∨ x9 = 1 ∨ x9 = 2 ∨ x9 = 3 ∨ x9 = 4 ∨ x9 = 5 ∨ x9 = 6 ∨ x9 = 7 by omega) with rfl | rfl | rfl | rfl | rfl | rfl | rfl | rfl
      · refine zr_switchIn 72 dX12_told_29 (by decide) (by decide) (off := 43) (by decide) (by decide) ?_
        refine zr_aload_n dX12_told_72 rfl ?_
        refine zr_getI dX12_told_73 lkX12_75 (by decide) (by decide) rfl (hL1.K 38 13) ?_
        refine zr_as (y := (nI (aF A))) tX1.1 ?_
        refine zr_if_eqN 83 dX12_told_76 (by decide) (by omega) (fun h76 => ?_) (fun h76 => ?_)
        · refine zr_iconst (v := nI 1) dX12_told_83 (by decide) ?_
          refine zr_iret dX12_told_84 rfl ?_
          refine hend _ ?_
          show _ = if aF A = 1 then (0 : Int32) else 1
          by_cases hf : aF A = 1
          · rw [if_pos hf]; try (first | rfl | (exfalso; omega))
          · rw [if_neg hf]; try (first | rfl | (exfalso; omega))
        · refine zr_iconst (v := nI 0) dX12_told_79 (by decide) ?_
          refine zr_goto 84 dX12_told_80 (by decide) ?_
          refine zr_iret dX12_told_84 rfl ?_
          refine hend _ ?_
          show _ = if aF A = 1 then (0 : Int32) else 1
          by_cases hf : aF A = 1
          · rw [if_pos hf]; try (first | rfl | (exfalso; omega))
          · rw [if_neg hf]; try (first | rfl | (exfalso; omega))
      · refine zr_switchIn 85 dX12_told_29 (by decide) (by decide) (off := 56) (by decide) (by decide) ?_
        refine zr_aload_n dX12_told_85 rfl ?_
        refine zr_getI dX12_told_86 lkX12_75 (by decide) (by decide) rfl (hL1.K 38 13) ?_
        refine zr_as (y := (nI (aF A))) tX1.1 ?_
        refine zr_if_eqN 96 dX12_told_89 (by decide) (by omega) (fun h89 => ?_) (fun h89 => ?_)
        · refine zr_aload_n dX12_told_96 rfl ?_
          refine zr_getR dX12_told_97 lkX12_16 (by decide) (by decide) rfl (hL1.K 38 13) (hL1.R 388 38 41) ?_
          refine zr_iconst (v := nI 0) dX12_told_100 (by decide) ?_
          refine zr_aload_n dX12_told_101 rfl ?_
          refine zr_getI dX12_told_102 lkX12_58 (by decide) (by decide) rfl (hL1.K 38 13) ?_
          refine zr_as (y := (nI ((Mb (aM A)).length))) tM1.1 ?_
          refine zr_callS (md' := mX12_size) (As := [.ref ((ad 41)), .int (nI 0), .int (nI ((Mb (aM A)).length))]) dX12_told_105 mlX12_71 okX12_size rfl stX12_size rfl (by omega) (Nat.le_of_ble_eq_true rfl) hcb1 (c_size (d := d - 1) (by omega) hcb1 ⟨hL1.K 41 14, hL1.N 41 16400, by decide⟩ (tM1.2.1.congr (fun i _ => by show zA M1 (ad 41) (0 + i) = zA M1 (ad 41) i; rw [Nat.zero_add])) tM1.2.2.shr (by omega)) (fun k M1 h => by cases h.1) (fun v M9 hq => ?_)
          obtain ⟨e0, e9⟩ := hq
          cases e0
          rw [e9]
          refine zr_iret dX12_told_108 rfl ?_
          refine hend _ ?_
          show _ = if aF A = 1 then (0 : Int32) else nI (msz (aM A))
          by_cases hf : aF A = 1
          · rw [if_pos hf]; try (first | rfl | (exfalso; omega))
          · rw [if_neg hf]; try (first | rfl | (exfalso; omega))
        · refine zr_iconst (v := nI 0) dX12_told_92 (by decide) ?_
          refine zr_goto 108 dX12_told_93 (by decide) ?_
          refine zr_iret dX12_told_108 rfl ?_
          refine hend _ ?_
          show _ = if aF A = 1 then (0 : Int32) else nI (msz (aM A))
          by_cases hf : aF A = 1
          · rw [if_pos hf]; try (first | rfl | (exfalso; omega))
          · rw [if_neg hf]; try (first | rfl | (exfalso; omega))
      · refine zr_switchIn 109 dX12_told_29 (by decide) (by decide) (off := 80) (by decide) (by decide) ?_
        refine zr_aload_n dX12_told_109 rfl ?_
        refine zr_getI dX12_told_110 lkX12_75 (by decide) (by decide) rfl (hL1.K 38 13) ?_
        refine zr_as (y := (nI (aF A))) tX1.1 ?_
        refine zr_if_eqN 120 dX12_told_113 (by decide) (by omega) (fun h113 => ?_) (fun h113 => ?_)
        · refine zr_aload_n dX12_told_120 rfl ?_
          refine zr_getR dX12_told_121 lkX12_16 (by decide) (by decide) rfl (hL1.K 38 13) (hL1.R 388 38 41) ?_
          refine zr_iconst (v := nI 0) dX12_told_124 (by decide) ?_
          refine zr_aload_n dX12_told_125 rfl ?_
          refine zr_getI dX12_told_126 lkX12_58 (by decide) (by decide) rfl (hL1.K 38 13) ?_
          refine zr_as (y := (nI ((Mb (aM A)).length))) tM1.1 ?_
          refine zr_callS (md' := mX12_many) (As := [.ref ((ad 41)), .int (nI 0), .int (nI ((Mb (aM A)).length))]) dX12_told_129 mlX12_136 okX12_many rfl stX12_many rfl (by omega) (Nat.le_of_ble_eq_true rfl) hcb1 (c_many (d := d - 1) (by omega) hcb1 ⟨hL1.K 41 14, hL1.N 41 16400, by decide⟩ (tM1.2.1.congr (fun i _ => by show zA M1 (ad 41) (0 + i) = zA M1 (ad 41) i; rw [Nat.zero_add])) tM1.2.2.shr (by omega)) (fun k M1 h => by cases h.1) (fun v M9 hq => ?_)
          obtain ⟨e0, e9⟩ := hq
          cases e0
          rw [e9]
          refine zr_iret dX12_told_132 rfl ?_
          refine hend _ ?_
          show _ = if aF A = 1 then (0 : Int32) else nI (aM A).length
          by_cases hf : aF A = 1
          · rw [if_pos hf]; try (first | rfl | (exfalso; omega))
          · rw [if_neg hf]; try (first | rfl | (exfalso; omega))
        · refine zr_iconst (v := nI 0) dX12_told_116 (by decide) ?_
          refine zr_goto 132 dX12_told_117 (by decide) ?_
          refine zr_iret dX12_told_132 rfl ?_
          refine hend _ ?_
          show _ = if aF A = 1 then (0 : Int32) else nI (aM A).length
          by_cases hf : aF A = 1
          · rw [if_pos hf]; try (first | rfl | (exfalso; omega))
          · rw [if_neg hf]; try (first | rfl | (exfalso; omega))
      · refine zr_switchIn 133 dX12_told_29 (by decide) (by decide) (off := 104) (by decide) (by decide) ?_
        refine zr_aload_n dX12_told_133 rfl ?_
        refine zr_getI dX12_told_134 lkX12_82 (by decide) (by decide) rfl (hL1.K 38 13) ?_
        refine zr_as (y := (nI (aO A))) tB1.1 ?_
        refine zr_if_eqN 147 dX12_told_137 (by decide) (by omega) (fun h137 => ?_) (fun h137 => ?_)
        · refine zr_iconst (v := -1) dX12_told_147 (by decide) ?_
          refine zr_iret dX12_told_148 rfl ?_
          refine hend _ ?_
          show _ = if aO A = 1 then nI (aS A).length else -1
          by_cases hf : aO A = 1
          · rw [if_pos hf]; try (first | rfl | (exfalso; omega))
          · rw [if_neg hf]; try (first | rfl | (exfalso; omega))
        · refine zr_aload_n dX12_told_140 rfl ?_
          refine zr_getI dX12_told_141 lkX12_85 (by decide) (by decide) rfl (hL1.K 38 13) ?_
          refine zr_as (y := (nI ((aS A).length))) tB1.2.2.1 ?_
          refine zr_goto 148 dX12_told_144 (by decide) ?_
          refine zr_iret dX12_told_148 rfl ?_
          refine hend _ ?_
          show _ = if aO A = 1 then nI (aS A).length else -1
          by_cases hf : aO A = 1
          · rw [if_pos hf]; try (first | rfl | (exfalso; omega))
          · rw [if_neg hf]; try (first | rfl | (exfalso; omega))
      · refine zr_switchIn 149 dX12_told_29 (by decide) (by decide) (off := 120) (by decide) (by decide) ?_
        refine zr_aload_n dX12_told_149 rfl ?_
        refine zr_getI dX12_told_150 lkX12_91 (by decide) (by decide) rfl (hL1.K 38 13) ?_
        refine zr_as (y := (nI (svb (aN A) 8))) tS1.1 ?_
        refine zr_iret dX12_told_153 rfl ?_
        exact hend _ rfl
      · refine zr_switchIn 154 dX12_told_29 (by decide) (by decide) (off := 125) (by decide) (by decide) ?_
        refine zr_aload_n dX12_told_154 rfl ?_
        refine zr_getI dX12_told_155 lkX12_68 (by decide) (by decide) rfl (hL1.K 38 13) ?_
        refine zr_as (y := (nI (aC A))) tX1.2.2.1 ?_
        refine zr_iret dX12_told_158 rfl ?_
        exact hend _ rfl
      · refine zr_switchIn 159 dX12_told_29 (by decide) (by decide) (off := 130) (by decide) (by decide) ?_
        refine zr_aload_n dX12_told_159 rfl ?_
        refine zr_getI dX12_told_160 lkX12_94 (by decide) (by decide) rfl (hL1.K 38 13) ?_
        refine zr_as (y := (nI ((aK A).length))) tK1.1 ?_
        refine zr_iret dX12_told_163 rfl ?_
        exact hend _ rfl
      · refine zr_switchOut 164 dX12_told_29 (by decide) (by decide) ?_
        refine zr_aload_n dX12_told_164 rfl ?_
        refine zr_getI dX12_told_165 lkX12_97 (by decide) (by decide) rfl (hL1.K 38 13) ?_
        refine zr_as (y := (nI ((aV A).length))) tV1.1 ?_
        refine zr_iret dX12_told_168 rfl ?_
        exact hend _ rfl
    · refine zr_iconst (v := nI 1) dX12_told_11 (by decide) ?_
      refine zr_goto 16 dX12_told_12 (by decide) ?_
      refine zr_putI dX12_told_16 lkX12_38 (by decide) (by decide) rfl rfl (hL.K 38 13) ?_
      refine zr_aload_n dX12_told_19 rfl ?_
      refine zr_getI dX12_told_20 lkX12_38 (by decide) (by decide) rfl (hL.K 38 13) ?_
      refine zr_as (y := (nI 1)) (zput_hit _ _ _ _) ?_
      refine zr_if_leN 28 dX12_told_23 (by decide) (by decide) (fun h23 => absurd h23 (by decide)) (fun h23 => ?_)
      refine zr_iconst (v := nI 0) dX12_told_26 (by decide) ?_
      refine zr_iret dX12_told_27 rfl ?_
      obtain ⟨M9, e9⟩ : ∃ z, z = (zput M 402 (ad 38) (nI 1)) := ⟨_, rfl⟩
      rw [← e9]
      have hF9 : Fl ad 0 [402] [] [] M M9 := by rw [e9]; exact ((Fl.refl ad _ _ _ M).put hL (f := 402) (i := 38))
      have g9_402 : zI M9 402 (ad 38) = (nI 1) := by rw [e9]; exact zput_hit _ _ _ _
      have e8 : sTold x0 A = (A, .inr 1) := if_pos (Or.inr (by have := (i32_lt (k := 7) (by decide)).mp (Int32.not_le.mp h8); exact this))
      rw [e8]
      exact ⟨⟨hF9.lay hL, tK.fl hF9, tV.fl hF9, tM.fl hF9, tS.fl hF9, tB.fl hF9, tX.fl hF9⟩, hF9.mono, g9_402, rfl⟩
