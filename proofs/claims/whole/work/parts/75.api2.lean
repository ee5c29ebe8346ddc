/-! ===== LsmStore: calls (2) ===== -/
theorem Sa.on {ad : Nat → Nat} {M : zM} {A : As} {n : Nat} (h : Sa ad M A n) : aF A ≤ 1 := by rcases h.2 with ⟨z, -⟩ | ⟨z, -⟩ <;> omega
theorem Sa.op {ad : Nat → Nat} {M : zM} {A : As} {n : Nat} (h : Sa ad M A n) : aO A ≤ 1 := by
  rcases h.2 with ⟨-, -, -, -, -, z, -⟩ | ⟨-, -, -, z, -⟩ <;> omega
/-- the same state but for the batch; its memory may have changed -/
theorem Sa.bt {ad : Nat → Nat} {k n op : Nat} {LF LA LB : List Nat} {M M1 : zM} {A : As} {ss : List Sp} (h : Sa ad M A n) (hon : aF A = 0) (hF : Fl ad k LF LA LB M M1) (hk : k ≤ 1) (x1 : 162 ∉ LF ∧ 131 ∉ LF ∧ 258 ∉ LF ∧ 259 ∉ LF := by decide) (x2 : 2 ∉ LA ∧ 16 ∉ LA ∧ 64 ∉ LA := by decide) (x3 : 35 ∉ LB ∧ 36 ∉ LB ∧ 37 ∉ LB := by decide) (x4 : 68 ∉ LF ∧ 69 ∉ LF ∧ 70 ∉ LF ∧ 71 ∉ LF ∧ 260 ∉ LF ∧ 163 ∉ LF ∧ 164 ∉ LF ∧ 165 ∉ LF ∧ 166 ∉ LF ∧ 100 ∉ LF ∧ 102 ∉ LF ∧ 366 ∉ LF ∧ 18 ∉ LA ∧ 3 ∉ LA ∧ 21 ∉ LB := by decide) (x5 : 326 ∉ LF ∧ 327 ∉ LF := by decide) (x6 : 34 ∉ LF ∧ 35 ∉ LF ∧ 36 ∉ LF ∧ 37 ∉ LF ∧ 38 ∉ LF ∧ 39 ∉ LF := by decide) (x7 : 193 ∉ LF ∧ 364 ∉ LF ∧ 365 ∉ LF ∧ 369 ∉ LF := by decide) (x8 : 5 ∉ LA ∧ 7 ∉ LA ∧ 14 ∉ LA := by decide) (x9 : 20 ∉ LB ∧ 22 ∉ LB := by decide)
    (hl : ss.length ≤ (aS A).length + 1) (h4 : zI M1 4 (ad 10) = nI op) (ho : op ≤ 1) (hb : op = 1 → ∃ offs len, Bt ad M1 offs len ∧ offs.map (esp (zA M1 (ad 11))) = ss) (hz : op = 0 → ss = []) : Sa ad M1 (aM A, aK A, aV A, ss, op, aF A, aW A, aC A, aN A) (n + 1) := by
  obtain ⟨⟨s1, s2, s3, s4, ⟨pl, s5, s5'⟩, ⟨t, s6, s6'⟩, ⟨lf, ct, du, cn, s7⟩, s8, s9⟩, h2⟩ := h
  have hcs := hF.cs
  have eD : zA M1 (ad 2) = zA M (ad 2) := hF.rA (i := 2) x2.1 (by decide)
  refine ⟨⟨hF.lay s1 x9.1 x9.2, by omega, s3.fl hF x7.1 x8.1, s4.fl hF x7.1 x8.2.1, ⟨pl, s5, (hF.rI x7.1 (by decide)).trans s5'⟩, ⟨t, by omega, (hF.rI x7.2.2.2 (by decide)).trans s6'⟩, ⟨lf, ct, du, cn, s7.fl hF x6.1 x6.2.1 x6.2.2.1 x6.2.2.2.1 x6.2.2.2.2.1 x6.2.2.2.2.2⟩, ⟨s8.1, Nat.le_succ_of_le s8.2.1, s8.2.2⟩, Nat.le_succ_of_le s9⟩, ?_⟩
  rcases h2 with ⟨a0, ⟨E, Ls, n1, v, a1, a2, a3, a4⟩, a5, a6, a7, a8, a9, a10⟩ | ⟨a0, -⟩
  · exact Or.inl ⟨a0, ⟨E, Ls, n1, v, (a1.fl hF x1 x2 x3 x4 x5).mono (Nat.le_refl _) (by omega), by show n1 + ss.length ≤ n + 1; omega, a3.fl hF x8.2.2, by rw [eD]; exact a4⟩, (hF.rI x7.2.1 (by decide)).trans a5, (hF.rI x7.2.2.1 (by decide)).trans a6, h4, ho, hb, hz⟩
  · omega
theorem bt_nil {ad : Nat → Nat} {M : zM} (h2 : zI M 2 (ad 10) = nI 0) (h3 : zI M 3 (ad 10) = nI 2) : Bt ad M [] 2 := ⟨h2, by decide, h3, fun i q hq => by simp at hq, rfl, fun q hq => by cases hq⟩
set_option maxRecDepth 100000 in
set_option maxHeartbeats 4000000 in
theorem a_begin {G : zG} {ad : Nat → Nat} {d n : Nat} {A : As} {M : zM} (hd : 8 ≤ d) (hS : Sa ad M A n) (hn : n < 64)  : zMet G mX11_begin d [.ref ((ad 0))] M (Pst ad M n (sBegin A)) := by
  obtain ⟨hcb, hcx⟩ := hS.cb (by omega)
  obtain ⟨⟨hL, hrm, hK, hV, ⟨pl, hpl, hpr⟩, ⟨tr, htr, htr9⟩, ⟨lf, ct, du, cn, hP⟩, hMw, hcn⟩, hcase⟩ := id hS
  have hoff : aF A = 1 → Pst ad M n (sBegin A) (.inr 0) (zthr M) := fun z => by
    have e9 : (sBegin A) = (A, .inr 0) := by
      unfold sBegin; exact if_pos (Or.inl z)
    rw [e9]
    exact ⟨rfl, hS.thr, 1, thr_fk ad M⟩
  refine zMet_of (by decide +kernel) (Nat.le_of_ble_eq_true rfl) rfl hcb ?_
  show zw G mX11_begin d _ _ _ 0 [some (.ref ((ad 0)))] [] M
  refine zr_aload_n dX11_begin_0 rfl ?_
  refine zr_callV (md' := mX11_requireOn) (As := []) dX11_begin_1 mlX11_108 okX11_requireOn rfl inX11_requireOn slX11_requireOn (by decide) (hL.K 0 12) rfl (by omega) (Nat.le_of_ble_eq_true rfl) hcb (c_requireOn (d := d - 1) (on9 := 1 - aF A) (by omega) hcb hcx hL hP.1 (by omega)) (fun k M9 h => zt_out rfl (by rcases h with ⟨_, h, _⟩ | ⟨h0, h, e9⟩; exact absurd h (by simp); cases h; rw [e9]; exact hoff (by omega))) (fun v M9 hq => ?_)
  rcases hq with ⟨h0, e0, e9⟩ | ⟨_, e0, _⟩
  rotate_left
  · cases e0
  cases e0
  rw [e9]
  have hon : aF A = 0 := by have := hS.on; omega
  have hc9 := hcase.resolve_right (fun z => by have := z.1; omega)
  have h4 := hc9.2.2.2.2.1
  refine zr_aload_n dX11_begin_4 rfl ?_
  refine zr_getR dX11_begin_5 lkX11_34 (by decide) (by decide) rfl (hL.K 0 12) (hL.R 356 0 10) ?_
  refine zr_getI dX11_begin_8 lkX11_111 (by decide) (by decide) rfl (hL.K 10 1) ?_
  refine zr_as (y := (nI (aO A))) h4 ?_
  refine zr_if_eqN 24 dX11_begin_11 (by decide) (by have := hS.op; omega) (fun h11 => ?_) (fun h11 => ?_)
  · refine zr_aload_n dX11_begin_24 rfl ?_
    refine zr_getR dX11_begin_25 lkX11_34 (by decide) (by decide) rfl (hL.K 0 12) (hL.R 356 0 10) ?_
    refine zr_callV (md' := mX0_start) (As := []) dX11_begin_28 mlX11_120 okX0_start rfl inX0_start slX0_start (by decide) (hL.K 10 1) rfl (by omega) (Nat.le_of_ble_eq_true rfl) hcb (c_Batch_start (d := d - 1) hcb hL) (fun k M1 h => by cases h.1) (fun v M1 hq => ?_)
    obtain ⟨e0, e1⟩ := hq
    cases e0
    have hF1 : Fl ad 0 [2, 3] [] [] M M1 := by rw [e1]; exact ((Fl.refl ad _ _ _ M).put hL (f := 2) (i := 10)).put hL (f := 3) (i := 10)
    have hL1 := hF1.lay hL
    refine zr_aload_n dX11_begin_31 rfl ?_
    refine zr_getR dX11_begin_32 lkX11_34 (by decide) (by decide) rfl (hL1.K 0 12) (hL1.R 356 0 10) ?_
    refine zr_iconst (v := nI 1) dX11_begin_35 (by decide) ?_
    refine zr_putZ dX11_begin_36 lkX11_111 (by decide) (by decide) rfl rfl (Or.inr rfl) (hL1.K 10 1) ?_
    refine zr_vret dX11_begin_39 rfl ?_
    have e9 : sBegin A = ((aM A, aK A, aV A, [], 1, 0, aW A, aC A, aN A), .inl none) := by unfold sBegin; exact if_neg (by omega)
    rw [e9]
    have hF2 : Fl ad 0 [2, 3, 4] [] [] M (zput M1 4 (ad 10) (nI 1)) := (hF1.mono).put hL (f := 4) (i := 10)
    refine ⟨rfl, ?_, 0, hF2.mono0⟩
    have h9 := hS.bt hon hF2 (by decide) (ss := []) (op := 1) (hl := Nat.zero_le _) (h4 := zput_hit _ _ _ _) (ho := by decide) (hb := fun _ => ⟨[], 2, bt_nil (zput_ms (f := 4) (by decide) (by rw [e1]; exact zput_ms (f := 3) (by decide) (zput_hit _ _ _ _))) (zput_ms (f := 4) (by decide) (by rw [e1]; exact zput_hit _ _ _ _)), rfl⟩) (hz := fun z => by cases z)
    rw [hon] at h9
    exact h9
  · refine zr_throw (k := 0) (sk := 3) dX11_begin_14 dX11_begin_17 dX11_begin_18 dX11_begin_20 dX11_begin_23 thX11_0 rfl rfl (by omega) (Nat.le_of_ble_eq_true rfl) hcx ?_
    have e9 : sBegin A = (A, .inr 0) := by unfold sBegin; exact if_pos (Or.inr (by have := hS.op; omega))
    rw [e9]
    exact ⟨rfl, hS.thr, 1, thr_fk ad M⟩
set_option maxRecDepth 100000 in
set_option maxHeartbeats 4000000 in
theorem c_requireBatch {G : zG} {ad : Nat → Nat} {d on9 : Nat} {M : zM} (hd : 7 ≤ d) (hcb : zC M ≤ 600128 ∧ zS M ≤ 7301098) (hcx : zC M + 1 ≤ 600128 ∧ zS M + 6 ≤ 7301098) (hL : Lay ad M) (hon : zI M 34 (ad 1) = nI on9) (hon1 : on9 ≤ 1) (h4 : on9 = 1 → ∃ op, op ≤ 1 ∧ zI M 4 (ad 10) = nI op)  : zMet G mX11_requireBatch d [.ref ((ad 0))] M (fun o M' => (on9 = 1 ∧ ¬ zI M 4 (ad 10) = nI 0 ∧ o = .inl none ∧ M' = M) ∨ ((on9 = 0 ∨ zI M 4 (ad 10) = nI 0) ∧ o = .inr 0 ∧ M' = zthr M)) := by
  refine zMet_of (by decide +kernel) (Nat.le_of_ble_eq_true rfl) rfl hcb ?_
  show zw G mX11_requireBatch d _ _ _ 0 [some (.ref ((ad 0)))] [] M
  refine zr_aload_n dX11_requireBatch_0 rfl ?_
  refine zr_callV (md' := mX11_requireOn) (As := []) dX11_requireBatch_1 mlX11_108 okX11_requireOn rfl inX11_requireOn slX11_requireOn (by decide) (hL.K 0 12) rfl (by omega) (Nat.le_of_ble_eq_true rfl) hcb (c_requireOn (d := d - 1) (on9 := on9) (by omega) hcb hcx hL hon hon1) (fun k M9 h => zt_out rfl (by rcases h with ⟨_, h, _⟩ | ⟨h0, h, e9⟩; exact absurd h (by simp); cases h; exact Or.inr ⟨Or.inl h0, rfl, e9⟩)) (fun v M9 hq => ?_)
  rcases hq with ⟨h0, e0, e9⟩ | ⟨_, e0, _⟩
  rotate_left
  · cases e0
  cases e0
  rw [e9]
  obtain ⟨op, hop, h4⟩ := h4 h0
  refine zr_aload_n dX11_requireBatch_4 rfl ?_
  refine zr_getR dX11_requireBatch_5 lkX11_34 (by decide) (by decide) rfl (hL.K 0 12) (hL.R 356 0 10) ?_
  refine zr_getI dX11_requireBatch_8 lkX11_111 (by decide) (by decide) rfl (hL.K 10 1) ?_
  refine zr_as (y := (nI op)) h4 ?_
  refine zr_if_neN 25 dX11_requireBatch_11 (by decide) (by omega) (fun h11 => ?_) (fun h11 => ?_)
  · refine zr_vret dX11_requireBatch_25 rfl ?_
    exact Or.inl ⟨h0, fun z => by have a1 := h4.symm.trans z; have a2 := congrArg Int32.toInt a1; rw [nI_toInt (by omega), nI_toInt (by decide)] at a2; omega, rfl, rfl⟩
  · refine zr_throwW (k := 0) (sk := 10) dX11_requireBatch_14 dX11_requireBatch_17 dX11_requireBatch_18 dX11_requireBatch_21 dX11_requireBatch_24 thX11_0 rfl rfl (by omega) (Nat.le_of_ble_eq_true rfl) hcx ?_
    exact Or.inr ⟨Or.inr (h4.trans (by congr 1)), rfl, rfl⟩
theorem op_of {ad : Nat → Nat} {M : zM} {A : As} {n : Nat} (h : Sa ad M A n) : (1 - aF A = 1 → ∃ op, op ≤ 1 ∧ zI M 4 (ad 10) = nI op) ∧ (1 - aF A = 1 → (zI M 4 (ad 10) = nI 0 ↔ aO A = 0)) := by
  have h1 := h.op
  rcases h.2 with ⟨z0, -, -, -, z, -⟩ | ⟨z0, -⟩
  · refine ⟨fun _ => ⟨aO A, h1, z⟩, fun _ => ⟨fun y => ?_, fun y => by rw [z, y]⟩⟩
    have a2 := congrArg Int32.toInt (z.symm.trans y)
    rw [nI_toInt (by omega), nI_toInt (by decide)] at a2
    omega
  · exact ⟨fun y => by omega, fun y => by omega⟩
set_option maxRecDepth 100000 in
set_option maxHeartbeats 4000000 in
theorem a_cancel {G : zG} {ad : Nat → Nat} {d n : Nat} {A : As} {M : zM} (hd : 8 ≤ d) (hS : Sa ad M A n) (hn : n < 64)  : zMet G mX11_cancel d [.ref ((ad 0))] M (Pst ad M n (sCancel A)) := by
  obtain ⟨hcb, hcx⟩ := hS.cb (by omega)
  obtain ⟨⟨hL, hrm, hK, hV, ⟨pl, hpl, hpr⟩, ⟨tr, htr, htr9⟩, ⟨lf, ct, du, cn, hP⟩, hMw, hcn⟩, hcase⟩ := id hS
  have hoff : (1 - aF A = 0 ∨ zI M 4 (ad 10) = nI 0) → Pst ad M n (sCancel A) (.inr 0) (zthr M) := fun z => by
    have hz : aF A = 1 ∨ aO A = 0 := by
      have a1 := hS.on
      rcases z with z | z
      · exact Or.inl (by omega)
      · rcases (show aF A = 1 ∨ aF A = 0 by omega) with y | y
        · exact Or.inl y
        · exact Or.inr (((op_of hS).2 (by omega)).mp z)
    have e9 : (sCancel A) = (A, .inr 0) := if_pos hz
    rw [e9]
    exact ⟨rfl, hS.thr, 1, thr_fk ad M⟩
  refine zMet_of (by decide +kernel) (Nat.le_of_ble_eq_true rfl) rfl hcb ?_
  show zw G mX11_cancel d _ _ _ 0 [some (.ref ((ad 0)))] [] M
  refine zr_aload_n dX11_cancel_0 rfl ?_
  refine zr_callV (md' := mX11_requireBatch) (As := []) dX11_cancel_1 mlX11_134 okX11_requireBatch rfl inX11_requireBatch slX11_requireBatch (by decide) (hL.K 0 12) rfl (by omega) (Nat.le_of_ble_eq_true rfl) hcb (c_requireBatch (d := d - 1) (on9 := 1 - aF A) (by omega) hcb hcx hL hP.1 (by omega) (op_of hS).1) (fun k M9 h => zt_out rfl (by rcases h with ⟨_, _, h, _⟩ | ⟨h0, h, e9⟩; exact absurd h (by simp); cases h; rw [e9]; exact hoff h0)) (fun v M9 hq => ?_)
  rcases hq with ⟨h0, h1, e0, e9⟩ | ⟨_, e0, _⟩
  rotate_left
  · cases e0
  cases e0
  rw [e9]
  have hon : aF A = 0 := by have := hS.on; omega
  have hop : aO A = 1 := by have a1 := hS.op; rcases (show aO A = 0 ∨ aO A = 1 by omega) with z | z; exact absurd (((op_of hS).2 h0).mpr z) h1; exact z
  have hc9 := hcase.resolve_right (fun z => by have := z.1; omega)
  obtain ⟨offs, len, hB, hss⟩ := hc9.2.2.2.2.2.2.1 hop
  refine zr_aload_n dX11_cancel_4 rfl ?_
  refine zr_getR dX11_cancel_5 lkX11_34 (by decide) (by decide) rfl (hL.K 0 12) (hL.R 356 0 10) ?_
  refine zr_iconst (v := nI 0) dX11_cancel_8 (by decide) ?_
  refine zr_putZ dX11_cancel_9 lkX11_111 (by decide) (by decide) rfl rfl (Or.inl rfl) (hL.K 10 1) ?_
  refine zr_aload_n dX11_cancel_12 rfl ?_
  refine zr_getR dX11_cancel_13 lkX11_34 (by decide) (by decide) rfl (hL.K 0 12) (hL.R 356 0 10) ?_
  refine zr_getI dX11_cancel_16 lkX11_126 (by decide) (by decide) rfl (hL.K 10 1) ?_
  refine zr_as (y := (nI offs.length)) (zput_ms (by decide) hB.1) ?_
  refine zr_iret dX11_cancel_19 rfl ?_
  have e9 : sCancel A = ((aM A, aK A, aV A, [], 0, 0, aW A, aC A, aN A), .inl (some (.int (nI (aS A).length)))) := if_neg (by omega)
  rw [e9]
  have hF2 : Fl ad 0 [4] [] [] M (zput M 4 (ad 10) (nI 0)) := (Fl.refl ad _ _ _ M).put hL (f := 4) (i := 10)
  refine ⟨by rw [← hss, List.length_map], ?_, 0, hF2.mono0⟩
  have h9 := hS.bt hon hF2 (by decide) (ss := []) (op := 0) (hl := Nat.zero_le _) (h4 := zput_hit _ _ _ _) (ho := by decide) (hb := fun z => by cases z) (hz := fun _ => rfl)
  rw [hon] at h9
  exact h9
theorem zwd_wdl (f : Nat → Int32) (L : List Nat) (p : Nat) (h : rwl f L.length = L) : ∀ n, zwd f L.length p n = wdl L p n
  | 0 => rfl
  | n + 1 => by
    have e : zgb f L.length (p + n) = L.getD (p + n) 0 := by
      unfold zgb
      by_cases hi : p + n < L.length
      · rw [if_pos hi]
        have e2 : zb (f (p + n)) = (rwl f L.length)[p + n]'(by rw [rwl_len]; exact hi) := by unfold rwl; rw [List.getElem_map, List.getElem_range]
        rw [e2, List.getElem_of_eq h, List.getD_eq_getElem?_getD, List.getElem?_eq_getElem hi]
        rfl
      · rw [if_neg hi, List.getD_eq_getElem?_getD, List.getElem?_eq_none (by omega)]
        rfl
    show (zwd f L.length p n <<< _) ||| Int32.toInt64 (nI (zgb f L.length (p + n))) = _
    rw [zwd_wdl f L p h n, e]
    rfl
theorem i32_nn {x : Int32} (h : ¬ x < 0) : 0 ≤ x.toInt := by
  have h1 : ¬ x.toInt < (0 : Int32).toInt := fun z => h (Int32.lt_iff_toInt_lt.mpr z)
  have h2 : (0 : Int32).toInt = 0 := by decide
  rw [h2] at h1
  omega
theorem i32_neg {x : Int32} (h : x < 0) : x.toInt < 0 := by
  have h1 := Int32.lt_iff_toInt_lt.mp h
  have h2 : (0 : Int32).toInt = 0 := by decide
  rw [h2] at h1
  exact h1
theorem i32_le {x : Int32} {k : Nat} (hk : k < 2 ^ 31) : x ≤ nI k ↔ x.toInt ≤ k := by rw [Int32.le_iff_toInt_le, nI_toInt hk]
theorem i32_lt {x : Int32} {k : Nat} (hk : k < 2 ^ 31) : nI k < x ↔ (k : Int) < x.toInt := by rw [Int32.lt_iff_toInt_lt, nI_toInt hk]
set_option maxRecDepth 100000 in
set_option maxHeartbeats 4000000 in
theorem a_bytes {G : zG} {ad : Nat → Nat} {d n : Nat} {vl at0 : Int32} {A : As} {M : zM} (hd : 8 ≤ d) (hS : Sa ad M A n) (hn : n < 64)  : zMet G mX11_bytes d [.ref ((ad 0)), .int vl, .int at0] M (Pst ad M n (sBytes vl at0 A)) := by
  obtain ⟨hcb, hcx⟩ := hS.cb (by omega)
  obtain ⟨⟨hL, hrm, hK, hV, ⟨pl, hpl, hpr⟩, ⟨tr, htr, htr9⟩, ⟨lf, ct, du, cn, hP⟩, hMw, hcn⟩, hcase⟩ := id hS
  refine zMet_of (by decide +kernel) (Nat.le_of_ble_eq_true rfl) rfl hcb ?_
  show zw G mX11_bytes d _ _ _ 0 [some (.ref ((ad 0))), some (.int vl), some (.int at0)] [] M
  refine zr_iload_n dX11_bytes_0 rfl ?_
  refine zr_if_lt 11 dX11_bytes_1 (by decide) (fun h1 => ?_) (fun h1 => ?_)
  · refine zr_throw (k := 1) (sk := 6) dX11_bytes_11 dX11_bytes_14 dX11_bytes_15 dX11_bytes_17 dX11_bytes_20 thX11_1 rfl rfl (by omega) (Nat.le_of_ble_eq_true rfl) hcx ?_
    have e9 : sBytes vl at0 A = (A, .inr 1) := if_pos (Or.inl (i32_neg h1))
    rw [e9]
    exact ⟨rfl, hS.thr, 1, thr_fk ad M⟩
  · refine zr_iload_n dX11_bytes_4 rfl ?_
    refine zr_sipush (v := nI 200) dX11_bytes_5 (by decide) ?_
    refine zr_icmp_le 21 dX11_bytes_8 (by decide) (fun h8 => ?_) (fun h8 => ?_)
    · have h0 := i32_nn h1
      have h2 : at0.toInt ≤ 200 := (i32_le (by decide)).mp h8
      have hnn := toInt_nat h0
      have hcl : at0.toInt = (at0.toNatClampNeg : Int) := by show at0.toInt = ((at0.toInt.toNat : Nat) : Int); omega
      have hp9 : at0.toNatClampNeg ≤ 200 := by omega
      refine zr_asL (lv' := [some (.ref ((ad 0))), some (.int vl), some (.int (nI at0.toNatClampNeg))]) (by rw [← hnn]) ?_
      refine zr_iload_n dX11_bytes_21 rfl ?_
      refine zr_if_eq 36 dX11_bytes_22 (by decide) (fun h22 => ?_) (fun h22 => ?_)
      · refine zr_aload_n dX11_bytes_36 rfl ?_
        refine zr_getR dX11_bytes_37 lkX11_21 (by decide) (by decide) rfl (hL.K 0 12) (hL.R 353 0 4) ?_
        refine zr_iload_n dX11_bytes_40 rfl ?_
        refine zr_callV (md' := mX6_word) (As := [.int (nI at0.toNatClampNeg)]) dX11_bytes_41 mlX11_186 okX6_word rfl inX6_word slX6_word (by decide) (hL.K 4 7) rfl (by omega) (Nat.le_of_ble_eq_true rfl) hcb (c_Row_word (d := d - 1) (a := ad 4) (b := ad 5) (nb := 32) (len := (aK A).length) (p := at0.toNatClampNeg) hcb (hL.K 4 7) (hL.R 192 4 5) (hL.K 5 14) (hL.N 5 32) (by decide) hK.1 hK.2.2 hp9) (fun k M1 h => by cases h.1) (fun v M9 hq => ?_)
        obtain ⟨e0, e9⟩ := hq
        cases e0
        rw [e9, zwd_wdl _ _ _ hK.2.1]
        refine zr_lret dX11_bytes_44 rfl ?_
        have e9 : sBytes vl at0 A = (A, .inl (some (.long (wdl (aK A) at0.toNatClampNeg 8)))) := by unfold sBytes; rw [if_neg (by omega), if_pos h22]
        rw [e9]
        exact ⟨rfl, hS.same (Fl.refl ad [] [] [] M) (by decide), 0, (Fl.refl ad [] [] [] M).mono0⟩
      · refine zr_aload_n dX11_bytes_25 rfl ?_
        refine zr_getR dX11_bytes_26 lkX11_25 (by decide) (by decide) rfl (hL.K 0 12) (hL.R 354 0 6) ?_
        refine zr_iload_n dX11_bytes_29 rfl ?_
        refine zr_callV (md' := mX6_word) (As := [.int (nI at0.toNatClampNeg)]) dX11_bytes_30 mlX11_186 okX6_word rfl inX6_word slX6_word (by decide) (hL.K 6 7) rfl (by omega) (Nat.le_of_ble_eq_true rfl) hcb (c_Row_word (d := d - 1) (a := ad 6) (b := ad 7) (nb := 200) (len := (aV A).length) (p := at0.toNatClampNeg) hcb (hL.K 6 7) (hL.R 192 6 7) (hL.K 7 14) (hL.N 7 200) (by decide) hV.1 hV.2.2 hp9) (fun k M1 h => by cases h.1) (fun v M9 hq => ?_)
        obtain ⟨e0, e9⟩ := hq
        cases e0
        rw [e9, zwd_wdl _ _ _ hV.2.1]
        refine zr_goto 44 dX11_bytes_33 (by decide) ?_
        refine zr_lret dX11_bytes_44 rfl ?_
        have e9 : sBytes vl at0 A = (A, .inl (some (.long (wdl (aV A) at0.toNatClampNeg 8)))) := by unfold sBytes; rw [if_neg (by omega), if_neg h22]
        rw [e9]
        exact ⟨rfl, hS.same (Fl.refl ad [] [] [] M) (by decide), 0, (Fl.refl ad [] [] [] M).mono0⟩
    · refine zr_throw (k := 1) (sk := 6) dX11_bytes_11 dX11_bytes_14 dX11_bytes_15 dX11_bytes_17 dX11_bytes_20 thX11_1 rfl rfl (by omega) (Nat.le_of_ble_eq_true rfl) hcx ?_
      have e9 : sBytes vl at0 A = (A, .inr 1) := if_pos (Or.inr (by have := (i32_lt (k := 200) (by decide)).mp (Int32.not_le.mp h8); exact this))
      rw [e9]
      exact ⟨rfl, hS.thr, 1, thr_fk ad M⟩
