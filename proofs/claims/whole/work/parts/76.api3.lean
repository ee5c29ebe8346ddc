/-! ===== LsmStore: calls (3) ===== -/
/-- power is said -/
theorem Sa.pow {ad : Nat → Nat} {n x y z : Nat} {M M1 : zM} {A : As} (h : Sa ad M A n) (hM : M1 = zput (zput (zput M 35 (ad 1) (nI x)) 36 (ad 1) (nI y)) 37 (ad 1) (nI z)) (hx : x ≤ 3) (hy : y ≤ 400) (hz : z ≤ 300) : Sa ad M1 (aM A, aK A, aV A, aS A, aO A, aF A, x, aC A, aN A) (n + 1) ∧ Fk ad 0 M M1 := by
  have hL := h.1.1
  have hF : Fl ad 0 [35, 36, 37] [] [] M M1 := by rw [hM]; exact (((Fl.refl ad _ _ _ M).put hL (f := 35) (i := 1)).put hL (f := 36) (i := 1)).put hL (f := 37) (i := 1)
  obtain ⟨⟨s1, s2, s3, s4, ⟨pl, s5, s5'⟩, ⟨t, s6, s6'⟩, ⟨lf, ct, du, cn, s7⟩, s8, s9⟩, h2⟩ := h
  have hcs := hF.cs
  have eD : zA M1 (ad 2) = zA M (ad 2) := hF.rA (i := 2) (by decide) (by decide)
  have hP : Pw ad M1 (1 - aF A) x y z du cn := by
    obtain ⟨p1, p2, p3, p4, p5, p6, p7, p8, p9, p10, p11, p12⟩ := s7
    exact ⟨(hF.rI (by decide) (by decide)).trans p1, by rw [hM]; exact zput_ms (f := 37) (by decide) (zput_ms (f := 36) (by decide) (zput_hit _ _ _ _)), by rw [hM]; exact zput_ms (f := 37) (by decide) (zput_hit _ _ _ _), by rw [hM]; exact zput_hit _ _ _ _, (hF.rI (by decide) (by decide)).trans p5, (hF.rI (by decide) (by decide)).trans p6, p7, hx, hy, hz, p11, p12⟩
  refine ⟨⟨⟨hF.lay s1, by omega, s3.fl hF, s4.fl hF, ⟨pl, s5, (hF.rI (by decide) (by decide)).trans s5'⟩, ⟨t, by omega, (hF.rI (by decide) (by decide)).trans s6'⟩, ⟨y, z, du, cn, hP⟩, ⟨s8.1, Nat.le_succ_of_le s8.2.1, s8.2.2⟩, Nat.le_succ_of_le s9⟩, ?_⟩, hF.mono0⟩
  rcases h2 with ⟨a0, ⟨E, Ls, n1, v, a1, a2, a3, a4⟩, a5, a6, a7, a8, a9, a10⟩ | ⟨a0, a1, ⟨v, a2⟩, a3, a4, a5⟩
  · refine Or.inl ⟨a0, ⟨E, Ls, n1, v, (a1.fl hF).mono (Nat.le_refl _) (by omega), Nat.le_succ_of_le a2, a3.fl hF, by rw [eD]; exact a4⟩, (hF.rI (by decide) (by decide)).trans a5, (hF.rI (by decide) (by decide)).trans a6, (hF.rI (by decide) (by decide)).trans a7, a8, fun ho => ?_, a10⟩
    obtain ⟨offs, len, b1, b2⟩ := a9 ho
    exact ⟨offs, len, b1.fl hF, by rw [hF.rA (i := 11) (by decide) (by decide)]; exact b2⟩
  · exact Or.inr ⟨a0, (a1.fl hF (by decide) (by decide) (a1.2.1.fl hF)).mono (Nat.le_succ _) (by omega), ⟨v, a2.fl hF⟩, a3, a4, a5⟩
/-- snapshots change -/
theorem Sa.vws {ad : Nat → Nat} {n : Nat} {M M1 : zM} {A : As} {g : Nat → Int32} {sv : Nat → Option Mp} (h : Sa ad M A n) (hon : aF A = 0) (hM : M1 = zsetA M (ad 14) g) (hv : ∀ (E : List Nat) (Ls : Nat → List zF) (v : Nat → Option Nat), zVw M (ad 13) (ad 14) v → Vws (zA M (ad 2)) E Ls v (aN A) (aC A) → (∀ k x, vw ((up E Ls 3).map (ent (zA M (ad 2)))) (aC A) k x ↔ (k, x) ∈ aM A) → ∃ v', zVw M1 (ad 13) (ad 14) v' ∧ Vws (zA M (ad 2)) E Ls v' sv (aC A)) : Sa ad M1 (aM A, aK A, aV A, aS A, aO A, aF A, aW A, aC A, sv) (n + 1) ∧ Fk ad 0 M M1 := by
  have hL := h.1.1
  have hF : Fl ad 0 [] [14] [] M M1 := by rw [hM]; exact (Fl.refl ad _ _ _ M).setA hL (i := 14)
  obtain ⟨⟨s1, s2, s3, s4, ⟨pl, s5, s5'⟩, ⟨t, s6, s6'⟩, ⟨lf, ct, du, cn, s7⟩, s8, s9⟩, h2⟩ := h
  have hcs := hF.cs
  have eD : zA M1 (ad 2) = zA M (ad 2) := hF.rA (i := 2) (by decide) (by decide)
  refine ⟨⟨⟨hF.lay s1, by omega, s3.fl hF, s4.fl hF, ⟨pl, s5, (hF.rI (by decide) (by decide)).trans s5'⟩, ⟨t, by omega, (hF.rI (by decide) (by decide)).trans s6'⟩, ⟨lf, ct, du, cn, s7.fl hF⟩, ⟨s8.1, Nat.le_succ_of_le s8.2.1, s8.2.2⟩, Nat.le_succ_of_le s9⟩, ?_⟩, hF.mono0⟩
  rcases h2 with ⟨a0, ⟨E, Ls, n1, v, a1, a2, a3, a4⟩, a5, a6, a7, a8, a9, a10⟩ | ⟨a0, -⟩
  · have hlast : ∀ k x, vw ((up E Ls 3).map (ent (zA M (ad 2)))) (aC A) k x ↔ (k, x) ∈ aM A := by
      obtain ⟨ar, us, to, to2, g', cm, rs, hO, hU, hB⟩ := id a1
      intro k x
      rw [← hU.2.2.2.1.2.2.2.2 k x]
      have hle : ∀ f ∈ (up E Ls 3).map (ent (zA M (ad 2))), f.2.1 ≤ aC A ∧ f.2.1 ≤ 2147483647 := fun f hf => by
        obtain ⟨q, hq, rfl⟩ := List.mem_map.mp hf
        exact ⟨(hU.2.2.2.1.2.2.1 q hq).2, by have := (hU.2.2.2.1.2.1.1 q hq).2; show ecm _ q ≤ _; omega⟩
      constructor
      · rintro ⟨e, b1, b2, b3, b4, b5, b6⟩
        exact ⟨e, b1, b2, (hle e b1).2, b4, b5, fun f hf hk _ => b6 f hf hk (hle f hf).1⟩
      · rintro ⟨e, b1, b2, b3, b4, b5, b6⟩
        exact ⟨e, b1, b2, (hle e b1).1, b4, b5, fun f hf hk _ => b6 f hf hk (hle f hf).2⟩
    obtain ⟨v', c1, c2⟩ := hv E Ls v a3 a4 hlast
    refine Or.inl ⟨a0, ⟨E, Ls, n1, v', (a1.fl hF).mono (Nat.le_refl _) (by omega), Nat.le_succ_of_le a2, c1, by rw [eD]; exact c2⟩, (hF.rI (by decide) (by decide)).trans a5, (hF.rI (by decide) (by decide)).trans a6, (hF.rI (by decide) (by decide)).trans a7, a8, fun ho => ?_, a10⟩
    obtain ⟨offs, len, b1, b2⟩ := a9 ho
    exact ⟨offs, len, b1.fl hF, by rw [hF.rA (i := 11) (by decide) (by decide)]; exact b2⟩
  · omega
theorem Vws.none {D : Nat → Int32} {E : List Nat} {Ls : Nat → List zF} {v : Nat → Option Nat} {sv : Nat → Option Mp} {c i : Nat} (h : Vws D E Ls v sv c) (hi : i < 8) : v i = none ↔ sv i = none := by
  rcases h.2 i hi with ⟨a, b⟩ | ⟨w, ms, a, b, -⟩
  · exact ⟨fun _ => b, fun _ => a⟩
  · exact ⟨fun z => (by rw [a] at z; cases z), fun z => (by rw [b] at z; cases z)⟩
theorem fre_some {sv : Nat → Option Mp} : ∀ {k i j : Nat}, i ≤ j → j < i + k → sv j = none → (∀ x, i ≤ x → x < j → sv x ≠ none) → fre sv i k = some j
  | 0, i, j, h1, h2, _, _ => by omega
  | k + 1, i, j, h1, h2, h3, h4 => by
    show (if (sv i).isNone then some i else fre sv (i + 1) k) = some j
    rcases Nat.lt_or_ge i j with e | e
    · rw [if_neg (fun z => h4 i (Nat.le_refl _) e (Option.isNone_iff_eq_none.mp z))]
      exact fre_some (by omega) (by omega) h3 (fun x a b => h4 x (by omega) b)
    · rw [show i = j by omega, if_pos (by rw [h3]; rfl)]
theorem fre_none {sv : Nat → Option Mp} : ∀ {k i : Nat}, (∀ x, i ≤ x → x < i + k → sv x ≠ none) → fre sv i k = none
  | 0, i, _ => rfl
  | k + 1, i, h => by
    show (if (sv i).isNone then some i else fre sv (i + 1) k) = none
    rw [if_neg (fun z => h i (Nat.le_refl _) (by omega) (Option.isNone_iff_eq_none.mp z))]
    exact fre_none (fun x a b => h x (by omega) (by omega))
theorem svb_vb {v : Nat → Option Nat} {sv : Nat → Option Mp} : ∀ {k : Nat}, (∀ i, i < k → (v i = none ↔ sv i = none)) → vbits v k = svb sv k
  | 0, _ => rfl
  | k + 1, h => by
    show vbits v k + _ = svb sv k + _
    rw [svb_vb (fun i hi => h i (by omega))]
    congr 1
    by_cases hv : v k = none
    · rw [if_pos hv, if_pos (by rw [(h k (by omega)).mp hv]; rfl)]
    · rw [if_neg hv, if_neg (fun z => hv ((h k (by omega)).mpr (Option.isNone_iff_eq_none.mp z)))]
set_option maxRecDepth 100000 in
set_option maxHeartbeats 4000000 in
theorem a_power {G : zG} {ad : Nat → Nat} {d n : Nat} {w0 k9 b9 : Int32} {A : As} {M : zM} (hd : 8 ≤ d) (hS : Sa ad M A n) (hn : n < 64)  : zMet G mX11_power d [.ref ((ad 0)), .int w0, .int k9, .int b9] M (Pst ad M n (sPow w0 k9 b9 A)) := by
  obtain ⟨hcb, hcx⟩ := hS.cb (by omega)
  obtain ⟨⟨hL, hrm, hK, hV, ⟨pl, hpl, hpr⟩, ⟨tr, htr, htr9⟩, ⟨lf, ct, du, cn, hP⟩, hMw, hcn⟩, hcase⟩ := id hS
  refine zMet_of (by decide +kernel) (Nat.le_of_ble_eq_true rfl) rfl hcb ?_
  show zw G mX11_power d _ _ _ 0 [some (.ref ((ad 0))), some (.int w0), some (.int k9), some (.int b9)] [] M
  refine zr_iload_n dX11_power_0 rfl ?_
  refine zr_if_lt 31 dX11_power_1 (by decide) (fun h1 => ?_) (fun h1 => ?_)
  · refine zr_throw (k := 1) (sk := 7) dX11_power_31 dX11_power_34 dX11_power_35 dX11_power_37 dX11_power_40 thX11_1 rfl rfl (by omega) (Nat.le_of_ble_eq_true rfl) hcx ?_
    have e9 : sPow w0 k9 b9 A = (A, .inr 1) := if_pos (Or.inl (i32_neg h1))
    rw [e9]
    exact ⟨rfl, hS.thr, 1, thr_fk ad M⟩
  · refine zr_iload_n dX11_power_4 rfl ?_
    refine zr_iconst (v := nI 3) dX11_power_5 (by decide) ?_
    refine zr_icmp_gt 31 dX11_power_6 (by decide) (fun h6 => ?_) (fun h6 => ?_)
    · refine zr_throw (k := 1) (sk := 7) dX11_power_31 dX11_power_34 dX11_power_35 dX11_power_37 dX11_power_40 thX11_1 rfl rfl (by omega) (Nat.le_of_ble_eq_true rfl) hcx ?_
      have e9 : sPow w0 k9 b9 A = (A, .inr 1) := if_pos (Or.inr (Or.inl ((i32_lt (k := 3) (by decide)).mp h6)))
      rw [e9]
      exact ⟨rfl, hS.thr, 1, thr_fk ad M⟩
    · refine zr_iload_n dX11_power_9 rfl ?_
      refine zr_if_lt 31 dX11_power_10 (by decide) (fun h10 => ?_) (fun h10 => ?_)
      · refine zr_throw (k := 1) (sk := 7) dX11_power_31 dX11_power_34 dX11_power_35 dX11_power_37 dX11_power_40 thX11_1 rfl rfl (by omega) (Nat.le_of_ble_eq_true rfl) hcx ?_
        have e9 : sPow w0 k9 b9 A = (A, .inr 1) := if_pos (Or.inr (Or.inr (Or.inl (i32_neg h10))))
        rw [e9]
        exact ⟨rfl, hS.thr, 1, thr_fk ad M⟩
      · refine zr_iload_n dX11_power_13 rfl ?_
        refine zr_sipush (v := nI 400) dX11_power_14 (by decide) ?_
        refine zr_icmp_gt 31 dX11_power_17 (by decide) (fun h17 => ?_) (fun h17 => ?_)
        · refine zr_throw (k := 1) (sk := 7) dX11_power_31 dX11_power_34 dX11_power_35 dX11_power_37 dX11_power_40 thX11_1 rfl rfl (by omega) (Nat.le_of_ble_eq_true rfl) hcx ?_
          have e9 : sPow w0 k9 b9 A = (A, .inr 1) := if_pos (Or.inr (Or.inr (Or.inr (Or.inl ((i32_lt (k := 400) (by decide)).mp h17)))))
          rw [e9]
          exact ⟨rfl, hS.thr, 1, thr_fk ad M⟩
        · refine zr_iload_n dX11_power_20 rfl ?_
          refine zr_if_lt 31 dX11_power_21 (by decide) (fun h21 => ?_) (fun h21 => ?_)
          · refine zr_throw (k := 1) (sk := 7) dX11_power_31 dX11_power_34 dX11_power_35 dX11_power_37 dX11_power_40 thX11_1 rfl rfl (by omega) (Nat.le_of_ble_eq_true rfl) hcx ?_
            have e9 : sPow w0 k9 b9 A = (A, .inr 1) := if_pos (Or.inr (Or.inr (Or.inr (Or.inr (Or.inl (i32_neg h21))))))
            rw [e9]
            exact ⟨rfl, hS.thr, 1, thr_fk ad M⟩
          · refine zr_iload_n dX11_power_24 rfl ?_
            refine zr_sipush (v := nI 300) dX11_power_25 (by decide) ?_
            refine zr_icmp_le 41 dX11_power_28 (by decide) (fun h28 => ?_) (fun h28 => ?_)
            · have q1 := i32_nn h1
              have q2 : w0.toInt ≤ 3 := by have := (i32_lt (x := w0) (k := 3) (by decide)); rw [Int32.lt_iff_toInt_lt] at this; exact Int.not_lt.mp (fun z => h6 (Int32.lt_iff_toInt_lt.mpr (by rw [nI_toInt (by decide)]; exact z)))
              have q3 := i32_nn h10
              have q4 : k9.toInt ≤ 400 := Int.not_lt.mp (fun z => h17 (Int32.lt_iff_toInt_lt.mpr (by rw [nI_toInt (by decide)]; exact z)))
              have q5 := i32_nn h21
              have q6 : b9.toInt ≤ 300 := (i32_le (by decide)).mp h28
              have e1 := toInt_nat q1
              have e2 := toInt_nat q3
              have e3 := toInt_nat q5
              have c1 : w0.toInt = (w0.toNatClampNeg : Int) := by show w0.toInt = ((w0.toInt.toNat : Nat) : Int); omega
              have c2 : k9.toInt = (k9.toNatClampNeg : Int) := by show k9.toInt = ((k9.toInt.toNat : Nat) : Int); omega
              have c3 : b9.toInt = (b9.toNatClampNeg : Int) := by show b9.toInt = ((b9.toInt.toNat : Nat) : Int); omega
              refine zr_asL (lv' := [some (.ref ((ad 0))), some (.int (nI w0.toNatClampNeg)), some (.int (nI k9.toNatClampNeg)), some (.int (nI b9.toNatClampNeg))]) (by rw [← e1, ← e2, ← e3]) ?_
              refine zr_aload_n dX11_power_41 rfl ?_
              refine zr_getR dX11_power_42 lkX11_12 (by decide) (by decide) rfl (hL.K 0 12) (hL.R 352 0 1) ?_
              refine zr_iload_n dX11_power_45 rfl ?_
              refine zr_iload_n dX11_power_46 rfl ?_
              refine zr_iload_n dX11_power_47 rfl ?_
              refine zr_callV (md' := mX1_plan) (As := [.int (nI w0.toNatClampNeg), .int (nI k9.toNatClampNeg), .int (nI b9.toNatClampNeg)]) dX11_power_48 mlX11_211 okX1_plan rfl inX1_plan slX1_plan (by decide) (hL.K 1 2) rfl (by omega) (Nat.le_of_ble_eq_true rfl) hcb (c_Disk_plan (d := d - 1) (x := w0.toNatClampNeg) (y := k9.toNatClampNeg) (z := b9.toNatClampNeg) hcb hL hP) (fun k M1 h => by cases h.1) (fun v M1 hq => ?_)
              obtain ⟨e0, e9⟩ := hq
              cases e0
              refine zr_vret dX11_power_51 rfl ?_
              have e8 : sPow w0 k9 b9 A = ((aM A, aK A, aV A, aS A, aO A, aF A, w0.toNatClampNeg, aC A, aN A), .inl none) := if_neg (by omega)
              rw [e8]
              obtain ⟨g1, g2⟩ := hS.pow e9 (by omega) (by omega) (by omega)
              exact ⟨rfl, g1, 0, g2⟩
            · refine zr_throw (k := 1) (sk := 7) dX11_power_31 dX11_power_34 dX11_power_35 dX11_power_37 dX11_power_40 thX11_1 rfl rfl (by omega) (Nat.le_of_ble_eq_true rfl) hcx ?_
              have e9 : sPow w0 k9 b9 A = (A, .inr 1) := if_pos (Or.inr (Or.inr (Or.inr (Or.inr (Or.inr ((i32_lt (k := 300) (by decide)).mp (Int32.not_le.mp h28)))))))
              rw [e9]
              exact ⟨rfl, hS.thr, 1, thr_fk ad M⟩
set_option maxRecDepth 100000 in
set_option maxHeartbeats 4000000 in
theorem a_snapshot {G : zG} {ad : Nat → Nat} {d n : Nat} {A : As} {M : zM} (hd : 8 ≤ d) (hS : Sa ad M A n) (hn : n < 64)  : zMet G mX11_snapshot d [.ref ((ad 0))] M (Pst ad M n (sSnap A)) := by
  obtain ⟨hcb, hcx⟩ := hS.cb (by omega)
  obtain ⟨⟨hL, hrm, hK, hV, ⟨pl, hpl, hpr⟩, ⟨tr, htr, htr9⟩, ⟨lf, ct, du, cn, hP⟩, hMw, hcn⟩, hcase⟩ := id hS
  have hoff : aF A = 1 → Pst ad M n (sSnap A) (.inr 0) (zthr M) := fun z => by
    have e9 : (sSnap A) = (A, .inr 0) := by
      unfold sSnap; exact if_pos z
    rw [e9]
    exact ⟨rfl, hS.thr, 1, thr_fk ad M⟩
  refine zMet_of (by decide +kernel) (Nat.le_of_ble_eq_true rfl) rfl hcb ?_
  show zw G mX11_snapshot d _ _ _ 0 [some (.ref ((ad 0))), none] [] M
  refine zr_aload_n dX11_snapshot_0 rfl ?_
  refine zr_callV (md' := mX11_requireOn) (As := []) dX11_snapshot_1 mlX11_108 okX11_requireOn rfl inX11_requireOn slX11_requireOn (by decide) (hL.K 0 12) rfl (by omega) (Nat.le_of_ble_eq_true rfl) hcb (c_requireOn (d := d - 1) (on9 := 1 - aF A) (by omega) hcb hcx hL hP.1 (by omega)) (fun k M9 h => zt_out rfl (by rcases h with ⟨_, h, _⟩ | ⟨h0, h, e9⟩; exact absurd h (by simp); cases h; rw [e9]; exact hoff (by omega))) (fun v M9 hq => ?_)
  rcases hq with ⟨h0, e0, e9⟩ | ⟨_, e0, _⟩
  rotate_left
  · cases e0
  cases e0
  rw [e9]
  have hon : aF A = 0 := by have := hS.on; omega
  have hc9 := hcase.resolve_right (fun z => by have := z.1; omega)
  obtain ⟨E, Ls, n1, v, a1, a2, hvw, hVs⟩ := id hc9.2.1
  obtain ⟨ar, us, to, to2, g, cm, rs, hO, hU, hB⟩ := id a1
  have h366 := hO.2.2.2.2.2.2.2.2.2.2.2.1
  refine zr_aload_n dX11_snapshot_4 rfl ?_
  refine zr_getR dX11_snapshot_5 lkX11_41 (by decide) (by decide) rfl (hL.K 0 12) (hL.R 357 0 13) ?_
  refine zr_aload_n dX11_snapshot_8 rfl ?_
  refine zr_getI dX11_snapshot_9 lkX11_137 (by decide) (by decide) rfl (hL.K 0 12) ?_
  refine zr_as (y := (nI (aC A))) h366 ?_
  refine zr_callV (md' := mX9_take) (As := [.int (nI (aC A))]) dX11_snapshot_12 mlX11_140 okX9_take rfl inX9_take slX9_take (by decide) (hL.K 13 10) rfl (by omega) (Nat.le_of_ble_eq_true rfl) hcb (c_Views_take (d := d - 1) (c := aC A) hcb hvw) (fun k M9 h => by rcases h with ⟨_, _, _, _, h, _⟩ | ⟨_, h, _⟩ <;> cases h) (fun v M1 hq => ?_)
  rcases hq with ⟨i, hi, hvi, hvj, e0, e1⟩ | ⟨hall, e0, e1⟩
  · cases e0
    refine zr_istore_n (lv' := [some (.ref ((ad 0))), some (.int (nI i))]) dX11_snapshot_15 (Nat.le_of_ble_eq_true rfl) (Nat.le_of_ble_eq_true rfl) rfl rfl ?_
    refine zr_iload_n dX11_snapshot_16 rfl ?_
    refine zr_iconst (v := -1) dX11_snapshot_17 (by decide) ?_
    refine zr_icmp_neM 31 dX11_snapshot_18 (by decide) (by omega) ?_
    refine zr_iload_n dX11_snapshot_31 rfl ?_
    refine zr_iret dX11_snapshot_32 rfl ?_
    have e8 : sSnap A = ((aM A, aK A, aV A, aS A, aO A, aF A, aW A, aC A, fun j => if j = i then some (aM A) else aN A j), .inl (some (.int (nI i)))) := by
      unfold sSnap
      rw [if_neg (by omega), fre_some (j := i) (Nat.zero_le _) (by omega) ((hVs.none hi).mp hvi) (fun x _ hx z => hvj x hx ((hVs.none (by omega)).mpr z))]
    rw [e8]
    suffices key : ∀ (E9 : List Nat) (Ls9 : Nat → List zF) (v9 : Nat → Option Nat), zVw M (ad 13) (ad 14) v9 → Vws (zA M (ad 2)) E9 Ls9 v9 (aN A) (aC A) → (∀ k x, vw ((up E9 Ls9 3).map (ent (zA M (ad 2)))) (aC A) k x ↔ (k, x) ∈ aM A) → ∃ v9, zVw M1 (ad 13) (ad 14) v9 ∧ Vws (zA M (ad 2)) E9 Ls9 v9 (fun j => if j = i then some (aM A) else aN A j) (aC A) by
      obtain ⟨g1, g2⟩ := hS.vws hon e1 key
      exact ⟨rfl, g1, 0, g2⟩
    · intro E9 Ls9 v9 b1 b2 b3
      refine ⟨fun j => if j = i then some (aC A) else v9 j, ?_, fun j w9 hj => ?_, fun j hj => ?_⟩
      · obtain ⟨c1, c2, c3, c4, c5, c6⟩ := b1
        rw [e1]
        refine ⟨c1, c2, c3, c4, fun j hj => ?_, fun j c9 hj => ?_⟩
        · rw [show zA (zsetA M (ad 14) (upd (zA M (ad 14)) i (nI (aC A)))) (ad 14) = upd (zA M (ad 14)) i (nI (aC A)) from zsetA_hit _ _ _]
          show (if j = i then _ else _) = _
          dsimp only
          by_cases e : j = i
          · rw [if_pos e, if_pos e]; rfl
          · rw [if_neg e, if_neg e]; exact c5 j hj
        · dsimp only at hj
          by_cases e : j = i
          · rw [if_pos e] at hj; cases hj; omega
          · rw [if_neg e] at hj; exact c6 j c9 hj
      · dsimp only at hj
        by_cases e : j = i
        · rw [if_pos e] at hj; cases hj; exact ⟨Nat.le_refl _, by omega⟩
        · rw [if_neg e] at hj; exact b2.1 j w9 hj
      · dsimp only
        by_cases e : j = i
        · exact Or.inr ⟨aC A, aM A, if_pos e, if_pos e, hMw.1, b3⟩
        · rw [if_neg e, if_neg e]; exact b2.2 j hj
  · cases e0
    rw [e1]
    refine zr_istore_n (lv' := [some (.ref ((ad 0))), some (.int ((-1)))]) dX11_snapshot_15 (Nat.le_of_ble_eq_true rfl) (Nat.le_of_ble_eq_true rfl) rfl rfl ?_
    refine zr_iload_n dX11_snapshot_16 rfl ?_
    refine zr_iconst (v := -1) dX11_snapshot_17 (by decide) ?_
    refine zr_icmp_neMM 31 dX11_snapshot_18 (by decide) ?_
    refine zr_throw (k := 0) (sk := 4) dX11_snapshot_21 dX11_snapshot_24 dX11_snapshot_25 dX11_snapshot_27 dX11_snapshot_30 thX11_0 rfl rfl (by omega) (Nat.le_of_ble_eq_true rfl) hcx ?_
    have e8 : sSnap A = (A, .inr 0) := by
      unfold sSnap
      rw [if_neg (by omega), fre_none (fun x _ hx z => hall x (by omega) ((hVs.none (by omega)).mpr z))]
    rw [e8]
    exact ⟨rfl, hS.thr, 1, thr_fk ad M⟩
theorem vmp_has {D : Nat → Int32} {E : List Nat} {Ls : Nat → List zF} {v : Nat → Option Nat} {A : As} {c : Nat} {s : Int32} (h : Vws D E Ls v (aN A) c) : (∃ j, s = nI j ∧ j < 8 ∧ v j ≠ none) ↔ ¬ (s = -1 ∨ vmp A s = none) := by
  constructor
  · rintro ⟨j, rfl, hj, hv⟩ z
    have hne : nI j ≠ -1 := fun e => by have a := congrArg Int32.toInt e; rw [nI_toInt (by omega), show (-1 : Int32).toInt = -1 from by decide] at a; omega
    rcases z with z | z
    · exact hne z
    · unfold vmp at z
      rw [if_neg hne, nI_toInt (by omega), if_pos (by omega), nI_clamp (by omega)] at z
      exact hv ((h.none hj).mpr z)
  · intro z
    have z1 : s ≠ -1 := fun e => z (Or.inl e)
    have z2 : vmp A s ≠ none := fun e => z (Or.inr e)
    unfold vmp at z2
    rw [if_neg z1] at z2
    by_cases hc : 0 ≤ s.toInt ∧ s.toInt < 8
    · rw [if_pos hc] at z2
      have e1 := toInt_nat hc.1
      have e2 : s.toInt = (s.toNatClampNeg : Int) := by show s.toInt = ((s.toInt.toNat : Nat) : Int); omega
      exact ⟨s.toNatClampNeg, e1, by omega, fun y => z2 ((h.none (by omega)).mp y)⟩
    · rw [if_neg hc] at z2; exact absurd rfl z2
set_option maxRecDepth 100000 in
set_option maxHeartbeats 4000000 in
theorem a_release {G : zG} {ad : Nat → Nat} {d n : Nat} {s0 : Int32} {A : As} {M : zM} (hd : 8 ≤ d) (hS : Sa ad M A n) (hn : n < 64)  : zMet G mX11_release d [.ref ((ad 0)), .int s0] M (Pst ad M n (sRel s0 A)) := by
  obtain ⟨hcb, hcx⟩ := hS.cb (by omega)
  obtain ⟨⟨hL, hrm, hK, hV, ⟨pl, hpl, hpr⟩, ⟨tr, htr, htr9⟩, ⟨lf, ct, du, cn, hP⟩, hMw, hcn⟩, hcase⟩ := id hS
  have hoff : aF A = 1 → Pst ad M n (sRel s0 A) (.inr 0) (zthr M) := fun z => by
    have e9 : (sRel s0 A) = (A, .inr 0) := by
      unfold sRel; exact if_pos z
    rw [e9]
    exact ⟨rfl, hS.thr, 1, thr_fk ad M⟩
  refine zMet_of (by decide +kernel) (Nat.le_of_ble_eq_true rfl) rfl hcb ?_
  show zw G mX11_release d _ _ _ 0 [some (.ref ((ad 0))), some (.int s0)] [] M
  refine zr_aload_n dX11_release_0 rfl ?_
  refine zr_callV (md' := mX11_requireOn) (As := []) dX11_release_1 mlX11_108 okX11_requireOn rfl inX11_requireOn slX11_requireOn (by decide) (hL.K 0 12) rfl (by omega) (Nat.le_of_ble_eq_true rfl) hcb (c_requireOn (d := d - 1) (on9 := 1 - aF A) (by omega) hcb hcx hL hP.1 (by omega)) (fun k M9 h => zt_out rfl (by rcases h with ⟨_, h, _⟩ | ⟨h0, h, e9⟩; exact absurd h (by simp); cases h; rw [e9]; exact hoff (by omega))) (fun v M9 hq => ?_)
  rcases hq with ⟨h0, e0, e9⟩ | ⟨_, e0, _⟩
  rotate_left
  · cases e0
  cases e0
  rw [e9]
  have hon : aF A = 0 := by have := hS.on; omega
  have hc9 := hcase.resolve_right (fun z => by have := z.1; omega)
  obtain ⟨E, Ls, n1, v, a1, a2, hvw, hVs⟩ := id hc9.2.1
  refine zr_aload_n dX11_release_4 rfl ?_
  refine zr_getR dX11_release_5 lkX11_41 (by decide) (by decide) rfl (hL.K 0 12) (hL.R 357 0 13) ?_
  refine zr_iload_n dX11_release_8 rfl ?_
  refine zr_callV (md' := mX9_has) (As := [.int s0]) dX11_release_9 mlX11_146 okX9_has rfl inX9_has slX9_has (by decide) (hL.K 13 10) rfl (by omega) (Nat.le_of_ble_eq_true rfl) hcb (c_Views_has (d := d - 1) (s := s0) hcb hvw) (fun k M9 h => by obtain ⟨-, t, h, -⟩ := h; cases h) (fun v M9 hq => ?_)
  obtain ⟨e9, t, e0, ht1, ht2⟩ := hq
  cases e0
  rw [e9]
  refine zr_if_neN 25 dX11_release_12 (by decide) (by omega) (fun h12 => ?_) (fun h12 => ?_)
  · obtain ⟨j0, hj1, hj0, hj2⟩ := ht2.mp (by omega)
    have hcl : s0.toNatClampNeg = j0 := by rw [hj1]; exact nI_clamp (by omega)
    refine zr_asL (lv' := [some (.ref ((ad 0))), some (.int (nI j0))]) (by rw [hj1]) ?_
    refine zr_aload_n dX11_release_25 rfl ?_
    refine zr_getR dX11_release_26 lkX11_41 (by decide) (by decide) rfl (hL.K 0 12) (hL.R 357 0 13) ?_
    refine zr_iload_n dX11_release_29 rfl ?_
    refine zr_callV (md' := mX9_drop) (As := [.int (nI j0)]) dX11_release_30 mlX11_155 okX9_drop rfl inX9_drop slX9_drop (by decide) (hL.K 13 10) rfl (by omega) (Nat.le_of_ble_eq_true rfl) hcb (c_Views_drop (d := d - 1) (j := j0) hcb hvw hj0) (fun k M1 h => by cases h.1) (fun v M1 hq => ?_)
    obtain ⟨e0, e1⟩ := hq
    cases e0
    refine zr_vret dX11_release_33 rfl ?_
    have e8 : sRel s0 A = ((aM A, aK A, aV A, aS A, aO A, aF A, aW A, aC A, fun j => if j = j0 then none else aN A j), .inl none) := by
      unfold sRel
      rw [if_neg (by omega), if_neg ((vmp_has hVs).mp (ht2.mp (by omega))), hcl]
    rw [e8]
    suffices key : ∀ (E9 : List Nat) (Ls9 : Nat → List zF) (v9 : Nat → Option Nat), zVw M (ad 13) (ad 14) v9 → Vws (zA M (ad 2)) E9 Ls9 v9 (aN A) (aC A) → (∀ k x, vw ((up E9 Ls9 3).map (ent (zA M (ad 2)))) (aC A) k x ↔ (k, x) ∈ aM A) → ∃ v9, zVw M1 (ad 13) (ad 14) v9 ∧ Vws (zA M (ad 2)) E9 Ls9 v9 (fun j => if j = j0 then none else aN A j) (aC A) by
      obtain ⟨g1, g2⟩ := hS.vws hon e1 key
      exact ⟨rfl, g1, 0, g2⟩
    · intro E9 Ls9 v9 b1 b2 b3
      refine ⟨fun j => if j = j0 then none else v9 j, ?_, fun j w9 hj => ?_, fun j hj => ?_⟩
      · obtain ⟨c1, c2, c3, c4, c5, c6⟩ := b1
        rw [e1]
        refine ⟨c1, c2, c3, c4, fun j hj => ?_, fun j c9 hj => ?_⟩
        · rw [show zA (zsetA M (ad 14) (upd (zA M (ad 14)) j0 (-1))) (ad 14) = upd (zA M (ad 14)) j0 (-1) from zsetA_hit _ _ _]
          show (if j = j0 then _ else _) = _
          dsimp only
          by_cases e : j = j0
          · rw [if_pos e, if_pos e]; rfl
          · rw [if_neg e, if_neg e]; exact c5 j hj
        · dsimp only at hj
          by_cases e : j = j0
          · rw [if_pos e] at hj; cases hj
          · rw [if_neg e] at hj; exact c6 j c9 hj
      · dsimp only at hj
        by_cases e : j = j0
        · rw [if_pos e] at hj; cases hj
        · rw [if_neg e] at hj; exact b2.1 j w9 hj
      · dsimp only
        by_cases e : j = j0
        · exact Or.inl ⟨if_pos e, if_pos e⟩
        · rw [if_neg e, if_neg e]; exact b2.2 j hj
  · refine zr_throwN (k := 3) (sk := 5) dX11_release_15 dX11_release_18 dX11_release_19 dX11_release_21 dX11_release_24 thX11_3 rfl rfl (by omega) (Nat.le_of_ble_eq_true rfl) hcx ?_
    have e8 : sRel s0 A = (A, .inr 3) := by
      unfold sRel
      rw [if_neg (by omega), if_pos (Classical.byContradiction (fun z => by have := ht2.mpr ((vmp_has hVs).mpr z); omega))]
    rw [e8]
    exact ⟨rfl, hS.thr, 1, thr_fk ad M⟩
