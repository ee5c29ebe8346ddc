/-! ===== LsmStoreModel (8): done, commit ===== -/
theorem MSets.shr : ∀ {ss : List Sp} {m m' : Mp}, MSets m ss m' → Shr m → (∀ s ∈ ss, s.2.1.length ≤ 32 ∧ s.2.2.length ≤ 200) → Shr m' ∧ m'.length ≤ m.length + ss.length
  | [], m, m', h, hs, _ => by cases h; exact ⟨hs, Nat.le_refl _⟩
  | s :: ss, m, m', h, hs, hb => by
    obtain ⟨m1, h1, h2⟩ := h
    have hb0 := hb s List.mem_cons_self
    have hs1 : Shr m1 := fun a ha => by
      rcases (h1.mem a.1 a.2).mp ha with ⟨e1, e2⟩ | ⟨_, e2⟩
      · refine ⟨by rw [e1]; exact hb0.1, ?_⟩
        unfold spo at e2
        by_cases hc : s.1 = 1
        · rw [if_pos hc] at e2; rw [← Option.some.inj e2]; exact hb0.2
        · rw [if_neg hc] at e2; cases e2
      · exact hs _ e2
    have hl1 : m1.length ≤ m.length + 1 := by
      obtain ⟨A, B, _, _, hm, rfl⟩ := h1
      have hx : ((spo s).map (fun v => (s.2.1, v))).toList.length ≤ 1 := by cases spo s <;> simp
      rcases hm with rfl | ⟨v, rfl⟩
      · rw [List.length_append, List.length_append, List.length_append]; omega
      · rw [List.length_append, List.length_append, List.length_append, List.length_cons]; omega
    obtain ⟨g1, g2⟩ := MSets.shr h2 hs1 (fun x hx => hb x (List.mem_cons_of_mem _ hx))
    exact ⟨g1, by rw [List.length_cons]; omega⟩
theorem mset_nil (m : Mp) (h : Srt m) : mset m [] = m := by
  have := mset_spec [] h
  exact this
theorem mset_step {m m1 : Mp} {ss : List Sp} {s : Sp} (hs : Srt m) (h : MSet (mset m ss) s.2.1 (spo s) m1) : m1 = mset m (ss ++ [s]) := MSets.uniq hs (MSets.app1 (mset_spec ss hs) h) (mset_spec _ hs)
theorem Rw8.k {ad : Nat → Nat} {M : zM} (hL : Lay ad M) : Rw8 M (ad 39) 32 ∧ Rw8 M (ad 40) 200 ∧ Rw8 M (ad 41) 16400 ∧ Rw8 M (ad 42) 70000 ∧ Rw8 M (ad 45) 15360 := ⟨⟨hL.K 39 14, hL.N 39 32, by decide⟩, ⟨hL.K 40 14, hL.N 40 200, by decide⟩, ⟨hL.K 41 14, hL.N 41 16400, by decide⟩, ⟨hL.K 42 14, hL.N 42 70000, by decide⟩, ⟨hL.K 45 14, hL.N 45 15360, by decide⟩⟩
set_option maxRecDepth 100000 in
set_option maxHeartbeats 4000000 in
theorem c_begun {G : zG} {ad : Nat → Nat} {d : Nat} {m : Mp} {M : zM} (hd : 2 ≤ d) (hcb : zC M ≤ 600128 ∧ zS M ≤ 7301098) (hL : Lay ad M) (tM : TaM ad M m)  : zMet G mX12_begun d [.ref ((ad 38))] M (fun o M' => o = .inl none ∧ Fl ad 0 [392] [42] [] M M' ∧ TaN ad M' m) := by
  refine zMet_of (by decide +kernel) (Nat.le_of_ble_eq_true rfl) rfl hcb ?_
  show zw G mX12_begun d _ _ _ 0 [some (.ref ((ad 38)))] [] M
  have hmb := tM.2.2.mb (Nat.le_refl _)
  refine zr_aload_n dX12_begun_0 rfl ?_
  refine zr_getR dX12_begun_1 lkX12_16 (by decide) (by decide) rfl (hL.K 38 13) (hL.R 388 38 41) ?_
  refine zr_iconst (v := nI 0) dX12_begun_4 (by decide) ?_
  refine zr_aload_n dX12_begun_5 rfl ?_
  refine zr_getR dX12_begun_6 lkX12_20 (by decide) (by decide) rfl (hL.K 38 13) (hL.R 389 38 42) ?_
  refine zr_iconst (v := nI 0) dX12_begun_9 (by decide) ?_
  refine zr_aload_n dX12_begun_10 rfl ?_
  refine zr_getI dX12_begun_11 lkX12_58 (by decide) (by decide) rfl (hL.K 38 13) ?_
  refine zr_as (y := (nI ((Mb m).length))) tM.1 ?_
  refine zr_copyN dX12_begun_14 mlX12_52 (Or.inl ⟨(hL.K 41 14), (hL.K 42 14)⟩) (hL.N 41 16400) (hL.N 42 70000) (by omega) (by omega) (by omega) (by omega) (by omega) (Nat.le_of_ble_eq_true rfl) ?_
  refine zr_aload_n dX12_begun_17 rfl ?_
  refine zr_aload_n dX12_begun_18 rfl ?_
  refine zr_getI dX12_begun_19 lkX12_58 (by decide) (by decide) rfl (hL.K 38 13) ?_
  refine zr_as (y := (nI ((Mb m).length))) tM.1 ?_
  refine zr_putI dX12_begun_22 lkX12_45 (by decide) (by decide) rfl rfl (hL.K 38 13) ?_
  refine zr_vret dX12_begun_25 rfl ?_
  obtain ⟨M1, e1⟩ : ∃ z, z = (zput (zsetA M (ad 42) (va_cpy (zA M (ad 41)) (zA M (ad 42)) 0 0 (Mb m).length)) 392 (ad 38) (nI ((Mb m).length))) := ⟨_, rfl⟩
  rw [← e1]
  have hF1 : Fl ad 0 [392] [42] [] M M1 := by rw [e1]; exact ((Fl.refl ad _ _ _ M).setA hL (i := 42)).put hL (f := 392) (i := 38)
  refine ⟨rfl, hF1, by rw [e1]; exact zput_hit _ _ _ _, ?_⟩
  rw [e1, show zA (zput (zsetA M (ad 42) (va_cpy (zA M (ad 41)) (zA M (ad 42)) 0 0 (Mb m).length)) 392 (ad 38) (nI ((Mb m).length))) (ad 42) = (va_cpy (zA M (ad 41)) (zA M (ad 42)) 0 0 (Mb m).length) from zsetA_hit _ _ _]
  exact tM.2.1.congr (fun i hi => by rw [pk_cpy_in (by omega) (by omega)]; congr 1; omega)
set_option maxRecDepth 100000 in
set_option maxHeartbeats 4000000 in
theorem c_failed {G : zG} {ad : Nat → Nat} {d : Nat} {M : zM} (hcb : zC M ≤ 600128 ∧ zS M ≤ 7301098) (hL : Lay ad M)  : zMet G mX12_failed d [.ref ((ad 38))] M (fun o M' => o = .inl (some (.int (nI 0))) ∧ M' = zput M 402 (ad 38) (nI 3)) := by
  refine zMet_of (by decide +kernel) (Nat.le_of_ble_eq_true rfl) rfl hcb ?_
  show zw G mX12_failed d _ _ _ 0 [some (.ref ((ad 38)))] [] M
  refine zr_aload_n dX12_failed_0 rfl ?_
  refine zr_iconst (v := nI 3) dX12_failed_1 (by decide) ?_
  refine zr_putI dX12_failed_2 lkX12_38 (by decide) (by decide) rfl rfl (hL.K 38 13) ?_
  refine zr_iconst (v := nI 0) dX12_failed_5 (by decide) ?_
  refine zr_iret dX12_failed_6 rfl ?_
  exact ⟨rfl, rfl⟩
set_option maxRecDepth 100000 in
set_option maxHeartbeats 4000000 in
theorem c_done {G : zG} {ad : Nat → Nat} {d : Nat} {m1 : Mp} {A : As} {M : zM} (hd : 3 ≤ d) (hcb : zC M ≤ 600128 ∧ zS M ≤ 7301098) (hT : Ta ad M A) (hN : TaN ad M m1) (hMw : Mw 64 m1)  : zMet G mX12_done d [.ref ((ad 38))] M (fun o M' => Fl ad 0 LM LMA [] M M' ∧ ((aW A = 0 ∧ o = .inl (some (.int (nI 0))) ∧ Ta ad M' (fell A) ∧ zI M' 402 (ad 38) = nI 3) ∨ (aW A = 1 ∧ o = .inl (some (.int (nI 0))) ∧ Ta ad M' (fell (m1, aK A, aV A, aS A, aO A, aF A, aW A, aC A + 1, aN A)) ∧ zI M' 402 (ad 38) = nI 3) ∨ (2 ≤ aW A ∧ o = .inl (some (.int (nI (msz m1)))) ∧ Ta ad M' (m1, aK A, aV A, aS A, aO A, aF A, aW A, aC A + 1, aN A) ∧ zI M' 402 (ad 38) = zI M 402 (ad 38)))) := by
  obtain ⟨hL, tK, tV, tM, tS, tB, tX⟩ := id hT
  have hbd := hT.bd
  have hmb := hMw.mb (Nat.le_refl _)
  refine zMet_of (by decide +kernel) (Nat.le_of_ble_eq_true rfl) rfl hcb ?_
  show zw G mX12_done d _ _ _ 0 [some (.ref ((ad 38))), none] [] M
  refine zr_aload_n dX12_done_0 rfl ?_
  refine zr_getI dX12_done_1 lkX12_34 (by decide) (by decide) rfl (hL.K 38 13) ?_
  refine zr_as (y := (nI (aW A))) tX.2.2.2.1 ?_
  refine zr_istore_n (lv' := [some (.ref ((ad 38))), some (.int (nI (aW A)))]) dX12_done_4 (Nat.le_of_ble_eq_true rfl) (Nat.le_of_ble_eq_true rfl) rfl rfl ?_
  refine zr_iload_n dX12_done_5 rfl ?_
  refine zr_if_neN 18 dX12_done_6 (by decide) (by omega) (fun h6 => ?_) (fun h6 => ?_)
  · refine zr_aload_n dX12_done_18 rfl ?_
    refine zr_getR dX12_done_19 lkX12_20 (by decide) (by decide) rfl (hL.K 38 13) (hL.R 389 38 42) ?_
    refine zr_iconst (v := nI 0) dX12_done_22 (by decide) ?_
    refine zr_aload_n dX12_done_23 rfl ?_
    refine zr_getR dX12_done_24 lkX12_16 (by decide) (by decide) rfl (hL.K 38 13) (hL.R 388 38 41) ?_
    refine zr_iconst (v := nI 0) dX12_done_27 (by decide) ?_
    refine zr_aload_n dX12_done_28 rfl ?_
    refine zr_getI dX12_done_29 lkX12_45 (by decide) (by decide) rfl (hL.K 38 13) ?_
    refine zr_as (y := (nI ((Mb m1).length))) hN.1 ?_
    refine zr_copyN dX12_done_32 mlX12_52 (Or.inl ⟨(hL.K 42 14), (hL.K 41 14)⟩) (hL.N 42 70000) (hL.N 41 16400) (by omega) (by omega) (by omega) (by omega) (by omega) (Nat.le_of_ble_eq_true rfl) ?_
    refine zr_aload_n dX12_done_35 rfl ?_
    refine zr_aload_n dX12_done_36 rfl ?_
    refine zr_getI dX12_done_37 lkX12_45 (by decide) (by decide) rfl (hL.K 38 13) ?_
    refine zr_as (y := (nI ((Mb m1).length))) hN.1 ?_
    refine zr_putI dX12_done_40 lkX12_58 (by decide) (by decide) rfl rfl (hL.K 38 13) ?_
    refine zr_aload_n dX12_done_43 rfl ?_
    refine zr_dup dX12_done_44 rfl ?_
    refine zr_getI dX12_done_45 lkX12_68 (by decide) (by decide) rfl (hL.K 38 13) ?_
    refine zr_as (y := (nI (aC A))) (zput_ms (by decide) tX.2.2.1) ?_
    refine zr_iconst (v := nI 1) dX12_done_48 (by decide) ?_
    refine zr_iaddN dX12_done_49 ?_
    refine zr_putI dX12_done_50 lkX12_68 (by decide) (by decide) rfl rfl (hL.K 38 13) ?_
    obtain ⟨M1, e1⟩ : ∃ z, z = (zput (zput (zsetA M (ad 41) (va_cpy (zA M (ad 42)) (zA M (ad 41)) 0 0 (Mb m1).length)) 391 (ad 38) (nI ((Mb m1).length))) 400 (ad 38) (nI ((aC A) + 1))) := ⟨_, rfl⟩
    rw [← e1]
    have hF1 : Fl ad 0 [391, 400] [41] [] M M1 := by rw [e1]; exact (((Fl.refl ad _ _ _ M).setA hL (i := 41)).put hL (f := 391) (i := 38)).put hL (f := 400) (i := 38)
    have hL1 := hF1.lay hL
    have hcb1 := hF1.cb hcb
    have tM1 : TaM ad M1 m1 := by
      refine ⟨by rw [e1]; exact zput_ms (f := 400) (by decide) (zput_hit _ _ _ _), ?_, hMw⟩
      rw [e1, show zA (zput (zput (zsetA M (ad 41) (va_cpy (zA M (ad 42)) (zA M (ad 41)) 0 0 (Mb m1).length)) 391 (ad 38) (nI ((Mb m1).length))) 400 (ad 38) (nI ((aC A) + 1))) (ad 41) = (va_cpy (zA M (ad 42)) (zA M (ad 41)) 0 0 (Mb m1).length) from zsetA_hit _ _ _]
      exact hN.2.congr (fun i hi => by rw [pk_cpy_in (by omega) (by omega)]; congr 1; omega)
    have hT1 : Ta ad M1 (m1, aK A, aV A, aS A, aO A, aF A, aW A, aC A + 1, aN A) := ⟨hL1, tK.fl hF1, tV.fl hF1, tM1, tS.fl hF1, tB.fl hF1, (hF1.rI (by decide) (by decide)).trans tX.1, tX.2.1, by rw [e1]; exact zput_hit _ _ _ _, (hF1.rI (by decide) (by decide)).trans tX.2.2.2.1, tX.2.2.2.2⟩
    refine zr_iload_n dX12_done_53 rfl ?_
    refine zr_iconst (v := nI 1) dX12_done_54 (by decide) ?_
    refine zr_icmp_neN 67 dX12_done_55 (by decide) (by omega) (by decide) (fun h55 => ?_) (fun h55 => ?_)
    · refine zr_aload_n dX12_done_67 rfl ?_
      refine zr_getR dX12_done_68 lkX12_16 (by decide) (by decide) rfl (hL1.K 38 13) (hL1.R 388 38 41) ?_
      refine zr_iconst (v := nI 0) dX12_done_71 (by decide) ?_
      refine zr_aload_n dX12_done_72 rfl ?_
      refine zr_getI dX12_done_73 lkX12_58 (by decide) (by decide) rfl (hL1.K 38 13) ?_
      refine zr_as (y := (nI ((Mb m1).length))) tM1.1 ?_
      refine zr_callS (md' := mX12_size) (As := [.ref ((ad 41)), .int (nI 0), .int (nI ((Mb m1).length))]) dX12_done_76 mlX12_71 okX12_size rfl stX12_size rfl (by omega) (Nat.le_of_ble_eq_true rfl) hcb1 (c_size (d := d - 1) (m := m1) (by omega) hcb1 (Rw8.k hL1).2.2.1 (tM1.2.1.congr (fun i _ => by show zA M1 (ad 41) (0 + i) = _; rw [Nat.zero_add])) hMw.shr (by omega)) (fun k M1 h => by cases h.1) (fun v M9 hq => ?_)
      obtain ⟨e0, e9⟩ := hq
      cases e0
      rw [e9]
      refine zr_iret dX12_done_79 rfl ?_
      exact ⟨hF1.mono, Or.inr (Or.inr ⟨by omega, rfl, hT1, hF1.rI (by decide) (by decide)⟩)⟩
    · refine zr_aload_n dX12_done_58 rfl ?_
      refine zr_callV (md' := mX12_fall) (As := []) dX12_done_59 mlX12_61 okX12_fall rfl inX12_fall slX12_fall (by decide) (hL1.K 38 13) rfl (by omega) (Nat.le_of_ble_eq_true rfl) hcb1 (c_fall (d := d - 1) (by omega) hcb1 hT1.1) (fun k M1 h => by cases h.1) (fun v M5 hq => ?_)
      obtain ⟨e0, e5⟩ := hq
      cases e0
      obtain ⟨hT5, hF5⟩ := fall_ta hT1 e5
      have hL5 := hT5.1
      have hcb5 := hF5.cb hcb1
      refine zr_aload_n dX12_done_62 rfl ?_
      refine zr_callV (md' := mX12_failed) (As := []) dX12_done_63 mlX12_64 okX12_failed rfl inX12_failed slX12_failed (by decide) (hL5.K 38 13) rfl (by omega) (Nat.le_of_ble_eq_true rfl) hcb5 (c_failed (d := d - 1) hcb5 hL5) (fun k M1 h => by cases h.1) (fun v M6 hq => ?_)
      obtain ⟨e0, e6⟩ := hq
      cases e0
      refine zr_iret dX12_done_66 rfl ?_
      have hF6 : Fl ad 0 [402] [] [] M5 M6 := by rw [e6]; exact (Fl.refl ad _ _ _ M5).put hL5 (f := 402) (i := 38)
      have hT6 := hT5.t402 (x := nI 3)
      rw [← e6] at hT6
      have g6 : zI M6 402 (ad 38) = nI 3 := by rw [e6]; exact zput_hit _ _ _ _
      exact ⟨((hF1.mono : Fl ad 0 LM LMA [] M M1).trans0 hF5.mono).trans0 hF6.mono, Or.inr (Or.inl ⟨by omega, rfl, hT6, g6⟩)⟩
  · refine zr_aload_n dX12_done_9 rfl ?_
    refine zr_callV (md' := mX12_fall) (As := []) dX12_done_10 mlX12_61 okX12_fall rfl inX12_fall slX12_fall (by decide) (hL.K 38 13) rfl (by omega) (Nat.le_of_ble_eq_true rfl) hcb (c_fall (d := d - 1) (by omega) hcb hT.1) (fun k M1 h => by cases h.1) (fun v M5 hq => ?_)
    obtain ⟨e0, e5⟩ := hq
    cases e0
    obtain ⟨hT5, hF5⟩ := fall_ta hT e5
    have hL5 := hT5.1
    have hcb5 := hF5.cb hcb
    refine zr_aload_n dX12_done_13 rfl ?_
    refine zr_callV (md' := mX12_failed) (As := []) dX12_done_14 mlX12_64 okX12_failed rfl inX12_failed slX12_failed (by decide) (hL5.K 38 13) rfl (by omega) (Nat.le_of_ble_eq_true rfl) hcb5 (c_failed (d := d - 1) hcb5 hL5) (fun k M1 h => by cases h.1) (fun v M6 hq => ?_)
    obtain ⟨e0, e6⟩ := hq
    cases e0
    refine zr_iret dX12_done_17 rfl ?_
    have hF6 : Fl ad 0 [402] [] [] M5 M6 := by rw [e6]; exact (Fl.refl ad _ _ _ M5).put hL5 (f := 402) (i := 38)
    have hT6 := hT5.t402 (x := nI 3)
    rw [← e6] at hT6
    have g6 : zI M6 402 (ad 38) = nI 3 := by rw [e6]; exact zput_hit _ _ _ _
    exact ⟨(hF5.mono : Fl ad 0 LM LMA [] M M5).trans0 hF6.mono, Or.inl ⟨by omega, rfl, hT6, g6⟩⟩
theorem Sb_sl (pre : List Sp) (s : Sp) : (Sb (pre ++ [s])).length = (Sb pre).length + (3 + s.2.1.length + s.2.2.length) := by
  rw [Sb_app, List.length_append, Sb_cons, List.length_append, sb_len]
  rfl
/-- a step's bytes stand at p -/
theorem stp_at {F : Nat → Int32} {pre suf : List Sp} {s : Sp} (h : Rc F (Sb (pre ++ s :: suf))) : zb (F (Sb pre).length) = (if s.1 = 1 then 1 else 0) ∧ zb (F ((Sb pre).length + 1)) = s.2.1.length ∧ Rc (fun i => F ((Sb pre).length + 2 + i)) s.2.1 ∧ zb (F ((Sb pre).length + 2 + s.2.1.length)) = s.2.2.length ∧ Rc (fun i => F ((Sb pre).length + 2 + s.2.1.length + 1 + i)) s.2.2 := by
  have h1 : Rc (fun i => F ((Sb pre).length + i)) (sb s) := Rc.mid (A := Sb pre) (B := sb s) (C := Sb suf) h (by rw [Sb_app, Sb_cons])
  have h2 : Rc (fun i => F ((Sb pre).length + (1 + i))) (s.2.1.length :: (s.2.1 ++ (s.2.2.length :: s.2.2))) := Rc.right (A := [if s.1 = 1 then 1 else 0]) h1
  have h3 : Rc (fun i => F ((Sb pre).length + (1 + (1 + i)))) (s.2.1 ++ (s.2.2.length :: s.2.2)) := Rc.right (A := [s.2.1.length]) h2
  have h4 : Rc (fun i => F ((Sb pre).length + (1 + (1 + (s.2.1.length + i))))) (s.2.2.length :: s.2.2) := Rc.right h3
  have h5 : Rc (fun i => F ((Sb pre).length + (1 + (1 + (s.2.1.length + (1 + i)))))) s.2.2 := Rc.right (A := [s.2.2.length]) h4
  refine ⟨h1 0 _ rfl, h2 0 _ rfl, h3.left.congr (fun i _ => ?_), ?_, h5.congr (fun i _ => ?_)⟩
  · show F ((Sb pre).length + 2 + i) = F ((Sb pre).length + (1 + (1 + i)))
    congr 1
    omega
  · have z := h4 0 _ rfl
    rw [show (Sb pre).length + 2 + s.2.1.length = (Sb pre).length + (1 + (1 + (s.2.1.length + 0))) by omega]
    exact z
  · show F ((Sb pre).length + 2 + s.2.1.length + 1 + i) = F ((Sb pre).length + (1 + (1 + (s.2.1.length + (1 + i)))))
    congr 1
    omega
set_option maxRecDepth 100000 in
set_option maxHeartbeats 4000000 in
theorem l_mcommit {G : zG} {ad : Nat → Nat} {d k0 n0 : Nat} {A : As} {M : zM} {Q : zOut → zM → Prop} (hd : 4 ≤ d) (hcb : zC M ≤ 600128 ∧ zS M ≤ 7301098) (hL : Lay ad M) (hMs : Mw 64 (aM A)) (tB : TaB ad M (aO A) (aS A)) (hk : ∀ M' : zM, Fl ad 0 [392] [42] [] M M' → TaN ad M' (mset (aM A) (aS A)) → zw G mX12_commit d k0 n0 Q 143 [some (.ref ((ad 38))), some (.int (nI ((Sb (aS A)).length))), some (.int (nI ((aS A).length))), none, none, none, none, none] [] M') : ∀ (j : Nat) (pre suf : List Sp) (M1 : zM), suf.length = j → aS A = pre ++ suf → Fl ad 0 [392] [42] [] M M1 → TaN ad M1 (mset (aM A) pre) → zw G mX12_commit d k0 n0 Q 40 [some (.ref ((ad 38))), some (.int (nI ((Sb pre).length))), some (.int (nI pre.length)), none, none, none, none, none] [] M1 := by
  intro j
  induction j using Nat.strongRecOn with
  | _ j ih =>
    intro pre suf M1 hl hss hF1 hN1
    have hL1 := hF1.lay hL
    have hcb1 := hF1.cb hcb
    have h397 : zI M1 397 (ad 38) = nI (aS A).length := (hF1.rI (by decide) (by decide)).trans tB.2.2.1
    have hSb : Rc (zA M1 (ad 45)) (Sb (aS A)) := by rw [hF1.rA (i := 45) (by decide) (by decide)]; exact tB.2.2.2.2.1
    have hSo := tB.2.2.2.2.2.1
    have hS64 := tB.2.2.2.2.2.2
    have hSl := Sb_le hSo
    have hple : pre.length ≤ (aS A).length := by rw [hss, List.length_append]; omega
    refine zr_iload_n dX12_commit_40 rfl ?_
    refine zr_aload_n dX12_commit_41 rfl ?_
    refine zr_getI dX12_commit_42 lkX12_85 (by decide) (by decide) rfl (hL1.K 38 13) ?_
    refine zr_as (y := (nI ((aS A).length))) h397 ?_
    refine zr_icmp_geN 143 dX12_commit_45 (by decide) (by omega) (by omega) (fun h45 => ?_) (fun h45 => ?_)
    · have hs0 : suf = [] := by
        cases suf with
        | nil => rfl
        | cons a t => exfalso; rw [hss, List.length_append, List.length_cons] at h45; omega
      subst hs0
      rw [List.append_nil] at hss
      rw [← hss] at hN1 ⊢
      exact hk M1 hF1 hN1
    · obtain ⟨s, suf9, rfl⟩ : ∃ s t, suf = s :: t := by
        cases suf with
        | nil => exfalso; rw [hss, List.append_nil] at h45; omega
        | cons a t => exact ⟨a, t, rfl⟩
      obtain ⟨z1, z2, z3, z4, z5⟩ := stp_at (by rw [hss] at hSb; exact hSb : Rc (zA M1 (ad 45)) (Sb (pre ++ s :: suf9)))
      have hso := hSo s (by rw [hss]; exact List.mem_append_right _ List.mem_cons_self)
      have hsl : (Sb (aS A)).length = (Sb pre).length + ((sb s).length + (Sb suf9).length) := by rw [hss, Sb_app, Sb_cons, List.length_append, List.length_append]
      have hsbl := sb_len s
      obtain ⟨g1, g2⟩ := MSets.shr (mset_spec pre hMs.1) hMs.shr (fun x hx => (hSo x (by rw [hss]; exact List.mem_append_left _ hx)).2)
      have g3 := Mb_le g1
      have hpl : pre.length ≤ 64 := by have e := congrArg List.length hss; rw [List.length_append] at e; omega
      have hml9 : (Mb (mset (aM A) pre)).length + 300 ≤ 70000 := by have := hMs.2.1; omega
      have hr45 := (Rw8.k hL1).2.2.2.2
      have hkr : ∀ M' : zM, Fl ad 0 [392] [42] [] M1 M' → zA M' (ad 45) = zA M1 (ad 45) := fun M' hF => hF.rA (by decide) (by decide)
      have hne45 : ad 45 ≠ ad 42 := hL1.ne (by decide)
      have hsrt := (mset_spec pre hMs.1).srt hMs.1
      refine zr_aload_n dX12_commit_48 rfl ?_
      refine zr_getR dX12_commit_49 lkX12_31 (by decide) (by decide) rfl (hL1.K 38 13) (hL1.R 395 38 45) ?_
      refine zr_iload_n dX12_commit_52 rfl ?_
      refine zr_baldN dX12_commit_53 (hL1.K 45 14) (hL1.N 45 15360) (by omega) (by omega) (fun f53 => ?_)
      refine zr_as (y := (nI (if s.1 = 1 then 1 else 0))) (zb_of f53 z1 (by split <;> decide)) ?_
      refine zr_iconst (v := nI 1) dX12_commit_54 (by decide) ?_
      refine zr_icmp_neN 62 dX12_commit_55 (by decide) (by split <;> decide) (by decide) (fun h55 => ?_) (fun h55 => ?_)
      · refine zr_iconst (v := nI 0) dX12_commit_62 (by decide) ?_
        have hs1 : ¬ s.1 = 1 := fun z => h55 (by rw [if_pos z])
        refine zr_istore_n (lv' := [some (.ref ((ad 38))), some (.int (nI ((Sb pre).length))), some (.int (nI pre.length)), some (.int (nI 0)), none, none, none, none]) dX12_commit_63 (Nat.le_of_ble_eq_true rfl) (Nat.le_of_ble_eq_true rfl) rfl rfl ?_
        refine zr_aload_n dX12_commit_64 rfl ?_
        refine zr_getR dX12_commit_65 lkX12_31 (by decide) (by decide) rfl (hL1.K 38 13) (hL1.R 395 38 45) ?_
        refine zr_iload_n dX12_commit_68 rfl ?_
        refine zr_iconst (v := nI 1) dX12_commit_69 (by decide) ?_
        refine zr_iaddN dX12_commit_70 ?_
        refine zr_baldN dX12_commit_71 (hL1.K 45 14) (hL1.N 45 15360) (by omega) (by omega) (fun f71 => ?_)
        refine zr_as (y := (nI s.2.1.length)) (zb_of f71 z2 (by omega)) ?_
        refine zr_istore (lv' := [some (.ref ((ad 38))), some (.int (nI ((Sb pre).length))), some (.int (nI pre.length)), some (.int (nI 0)), some (.int (nI s.2.1.length)), none, none, none]) dX12_commit_72 (Nat.le_of_ble_eq_true rfl) (Nat.le_of_ble_eq_true rfl) rfl rfl ?_
        refine zr_iload_n dX12_commit_74 rfl ?_
        refine zr_iconst (v := nI 2) dX12_commit_75 (by decide) ?_
        refine zr_iaddN dX12_commit_76 ?_
        refine zr_istore (lv' := [some (.ref ((ad 38))), some (.int (nI ((Sb pre).length))), some (.int (nI pre.length)), some (.int (nI 0)), some (.int (nI s.2.1.length)), some (.int (nI ((Sb pre).length + 2))), none, none]) dX12_commit_77 (Nat.le_of_ble_eq_true rfl) (Nat.le_of_ble_eq_true rfl) rfl rfl ?_
        refine zr_iload dX12_commit_79 rfl ?_
        refine zr_iload dX12_commit_81 rfl ?_
        refine zr_iaddN dX12_commit_83 ?_
        refine zr_istore (lv' := [some (.ref ((ad 38))), some (.int (nI ((Sb pre).length))), some (.int (nI pre.length)), some (.int (nI 0)), some (.int (nI s.2.1.length)), some (.int (nI ((Sb pre).length + 2))), some (.int (nI (((Sb pre).length + 2) + s.2.1.length))), none]) dX12_commit_84 (Nat.le_of_ble_eq_true rfl) (Nat.le_of_ble_eq_true rfl) rfl rfl ?_
        refine zr_aload_n dX12_commit_86 rfl ?_
        refine zr_getR dX12_commit_87 lkX12_31 (by decide) (by decide) rfl (hL1.K 38 13) (hL1.R 395 38 45) ?_
        refine zr_iload dX12_commit_90 rfl ?_
        refine zr_baldN dX12_commit_92 (hL1.K 45 14) (hL1.N 45 15360) (by omega) (by omega) (fun f92 => ?_)
        refine zr_sipush (v := nI 255) dX12_commit_93 (by decide) ?_
        refine zr_iand255 dX12_commit_96 ?_
        refine zr_as (y := (nI s.2.2.length)) (by rw [z4]) ?_
        refine zr_istore (lv' := [some (.ref ((ad 38))), some (.int (nI ((Sb pre).length))), some (.int (nI pre.length)), some (.int (nI 0)), some (.int (nI s.2.1.length)), some (.int (nI ((Sb pre).length + 2))), some (.int (nI (((Sb pre).length + 2) + s.2.1.length))), some (.int (nI s.2.2.length))]) dX12_commit_97 (Nat.le_of_ble_eq_true rfl) (Nat.le_of_ble_eq_true rfl) rfl rfl ?_
        refine zr_aload_n dX12_commit_99 rfl ?_
        refine zr_aload_n dX12_commit_100 rfl ?_
        refine zr_getR dX12_commit_101 lkX12_31 (by decide) (by decide) rfl (hL1.K 38 13) (hL1.R 395 38 45) ?_
        refine zr_iload dX12_commit_104 rfl ?_
        refine zr_iload dX12_commit_106 rfl ?_
        refine zr_aload_n dX12_commit_108 rfl ?_
        refine zr_getR dX12_commit_109 lkX12_31 (by decide) (by decide) rfl (hL1.K 38 13) (hL1.R 395 38 45) ?_
        refine zr_iload_n dX12_commit_112 rfl ?_
        refine zr_if_eq 123 dX12_commit_113 (by decide) (fun h113 => ?_) (fun h113 => absurd rfl h113)
        refine zr_iconst (v := -1) dX12_commit_123 (by decide) ?_
        refine zr_iload dX12_commit_124 rfl ?_
        refine zr_callV (md' := mX12_set) (As := [.ref ((ad 45)), .int (nI ((Sb pre).length + 2)), .int (nI s.2.1.length), .ref ((ad 45)), .int ((-1)), .int (nI s.2.2.length)]) dX12_commit_126 mlX12_103 okX12_set rfl inX12_set slX12_set (by decide) (hL1.K 38 13) rfl (by omega) (Nat.le_of_ble_eq_true rfl) hcb1 (c_setN (d := d - 1) (kk := s.2.1) (by omega) hcb1 hL1 hr45 z3 (by omega) hso.2.1 hN1 g1 hsrt hml9) (fun k M1 h => by cases h.1) (fun v M2 hq => ?_)
        obtain ⟨e0, hF2, m2, hm2, hN2⟩ := hq
        cases e0
        have hspo : spo s = none := by unfold spo; rw [if_neg hs1]
        refine zr_iload dX12_commit_129 rfl ?_
        refine zr_iconst (v := nI 1) dX12_commit_131 (by decide) ?_
        refine zr_iaddN dX12_commit_132 ?_
        refine zr_iload dX12_commit_133 rfl ?_
        refine zr_iaddN dX12_commit_135 ?_
        refine zr_istore_n (lv' := [some (.ref ((ad 38))), some (.int (nI (((((Sb pre).length + 2) + s.2.1.length) + 1) + s.2.2.length))), some (.int (nI pre.length)), some (.int (nI 0)), some (.int (nI s.2.1.length)), some (.int (nI ((Sb pre).length + 2))), some (.int (nI (((Sb pre).length + 2) + s.2.1.length))), some (.int (nI s.2.2.length))]) dX12_commit_136 (Nat.le_of_ble_eq_true rfl) (Nat.le_of_ble_eq_true rfl) rfl rfl ?_
        refine zr_iincN (n := 1) (lv' := [some (.ref ((ad 38))), some (.int (nI (((((Sb pre).length + 2) + s.2.1.length) + 1) + s.2.2.length))), some (.int (nI (pre.length + 1))), some (.int (nI 0)), some (.int (nI s.2.1.length)), some (.int (nI ((Sb pre).length + 2))), some (.int (nI (((Sb pre).length + 2) + s.2.1.length))), some (.int (nI s.2.2.length))]) dX12_commit_137 (Nat.le_of_ble_eq_true rfl) (Nat.le_of_ble_eq_true rfl) rfl rfl rfl ?_
        refine zr_goto 40 dX12_commit_140 (by decide) ?_
        rw [← hspo] at hm2
        have em2 := mset_step hMs.1 hm2
        have e2 : (((((Sb pre).length + 2) + s.2.1.length) + 1) + s.2.2.length) = (Sb (pre ++ [s])).length := by rw [Sb_sl]; omega
        have e3 : pre.length + 1 = (pre ++ [s]).length := by rw [List.length_append]; rfl
        rw [e2, e3]
        refine zr_drop 3 rfl ?_
        refine zr_drop 4 rfl ?_
        refine zr_drop 5 rfl ?_
        refine zr_drop 6 rfl ?_
        refine zr_drop 7 rfl ?_
        exact ih suf9.length (by rw [← hl, List.length_cons]; omega) (pre ++ [s]) suf9 M2 rfl (by rw [hss, List.append_assoc]; rfl) (hF1.trans0 hF2) (by rw [← em2]; exact hN2)
      · refine zr_iconst (v := nI 1) dX12_commit_58 (by decide) ?_
        refine zr_goto 63 dX12_commit_59 (by decide) ?_
        have hs1 : s.1 = 1 := by by_cases z : s.1 = 1; exact z; rw [if_neg z] at h55; cases h55
        refine zr_istore_n (lv' := [some (.ref ((ad 38))), some (.int (nI ((Sb pre).length))), some (.int (nI pre.length)), some (.int (nI 1)), none, none, none, none]) dX12_commit_63 (Nat.le_of_ble_eq_true rfl) (Nat.le_of_ble_eq_true rfl) rfl rfl ?_
        refine zr_aload_n dX12_commit_64 rfl ?_
        refine zr_getR dX12_commit_65 lkX12_31 (by decide) (by decide) rfl (hL1.K 38 13) (hL1.R 395 38 45) ?_
        refine zr_iload_n dX12_commit_68 rfl ?_
        refine zr_iconst (v := nI 1) dX12_commit_69 (by decide) ?_
        refine zr_iaddN dX12_commit_70 ?_
        refine zr_baldN dX12_commit_71 (hL1.K 45 14) (hL1.N 45 15360) (by omega) (by omega) (fun f71 => ?_)
        refine zr_as (y := (nI s.2.1.length)) (zb_of f71 z2 (by omega)) ?_
        refine zr_istore (lv' := [some (.ref ((ad 38))), some (.int (nI ((Sb pre).length))), some (.int (nI pre.length)), some (.int (nI 1)), some (.int (nI s.2.1.length)), none, none, none]) dX12_commit_72 (Nat.le_of_ble_eq_true rfl) (Nat.le_of_ble_eq_true rfl) rfl rfl ?_
        refine zr_iload_n dX12_commit_74 rfl ?_
        refine zr_iconst (v := nI 2) dX12_commit_75 (by decide) ?_
        refine zr_iaddN dX12_commit_76 ?_
        refine zr_istore (lv' := [some (.ref ((ad 38))), some (.int (nI ((Sb pre).length))), some (.int (nI pre.length)), some (.int (nI 1)), some (.int (nI s.2.1.length)), some (.int (nI ((Sb pre).length + 2))), none, none]) dX12_commit_77 (Nat.le_of_ble_eq_true rfl) (Nat.le_of_ble_eq_true rfl) rfl rfl ?_
        refine zr_iload dX12_commit_79 rfl ?_
        refine zr_iload dX12_commit_81 rfl ?_
        refine zr_iaddN dX12_commit_83 ?_
        refine zr_istore (lv' := [some (.ref ((ad 38))), some (.int (nI ((Sb pre).length))), some (.int (nI pre.length)), some (.int (nI 1)), some (.int (nI s.2.1.length)), some (.int (nI ((Sb pre).length + 2))), some (.int (nI (((Sb pre).length + 2) + s.2.1.length))), none]) dX12_commit_84 (Nat.le_of_ble_eq_true rfl) (Nat.le_of_ble_eq_true rfl) rfl rfl ?_
        refine zr_aload_n dX12_commit_86 rfl ?_
        refine zr_getR dX12_commit_87 lkX12_31 (by decide) (by decide) rfl (hL1.K 38 13) (hL1.R 395 38 45) ?_
        refine zr_iload dX12_commit_90 rfl ?_
        refine zr_baldN dX12_commit_92 (hL1.K 45 14) (hL1.N 45 15360) (by omega) (by omega) (fun f92 => ?_)
        refine zr_sipush (v := nI 255) dX12_commit_93 (by decide) ?_
        refine zr_iand255 dX12_commit_96 ?_
        refine zr_as (y := (nI s.2.2.length)) (by rw [z4]) ?_
        refine zr_istore (lv' := [some (.ref ((ad 38))), some (.int (nI ((Sb pre).length))), some (.int (nI pre.length)), some (.int (nI 1)), some (.int (nI s.2.1.length)), some (.int (nI ((Sb pre).length + 2))), some (.int (nI (((Sb pre).length + 2) + s.2.1.length))), some (.int (nI s.2.2.length))]) dX12_commit_97 (Nat.le_of_ble_eq_true rfl) (Nat.le_of_ble_eq_true rfl) rfl rfl ?_
        refine zr_aload_n dX12_commit_99 rfl ?_
        refine zr_aload_n dX12_commit_100 rfl ?_
        refine zr_getR dX12_commit_101 lkX12_31 (by decide) (by decide) rfl (hL1.K 38 13) (hL1.R 395 38 45) ?_
        refine zr_iload dX12_commit_104 rfl ?_
        refine zr_iload dX12_commit_106 rfl ?_
        refine zr_aload_n dX12_commit_108 rfl ?_
        refine zr_getR dX12_commit_109 lkX12_31 (by decide) (by decide) rfl (hL1.K 38 13) (hL1.R 395 38 45) ?_
        refine zr_iload_n dX12_commit_112 rfl ?_
        refine zr_if_eq 123 dX12_commit_113 (by decide) (fun h113 => absurd h113 (by decide)) (fun h113 => ?_)
        refine zr_iload dX12_commit_116 rfl ?_
        refine zr_iconst (v := nI 1) dX12_commit_118 (by decide) ?_
        refine zr_iaddN dX12_commit_119 ?_
        refine zr_goto 124 dX12_commit_120 (by decide) ?_
        refine zr_iload dX12_commit_124 rfl ?_
        refine zr_callV (md' := mX12_set) (As := [.ref ((ad 45)), .int (nI ((Sb pre).length + 2)), .int (nI s.2.1.length), .ref ((ad 45)), .int (nI ((((Sb pre).length + 2) + s.2.1.length) + 1)), .int (nI s.2.2.length)]) dX12_commit_126 mlX12_103 okX12_set rfl inX12_set slX12_set (by decide) (hL1.K 38 13) rfl (by omega) (Nat.le_of_ble_eq_true rfl) hcb1 (c_setS (d := d - 1) (kk := s.2.1) (V := s.2.2) (by omega) hcb1 hL1 hr45 hne45 hkr z3 (by omega) hso.2.1 hN1 g1 hsrt hml9 hr45 hne45 hkr z5 (by omega) hso.2.2) (fun k M1 h => by cases h.1) (fun v M2 hq => ?_)
        obtain ⟨e0, hF2, m2, hm2, hN2⟩ := hq
        cases e0
        have hspo : spo s = some s.2.2 := by unfold spo; rw [if_pos hs1]
        refine zr_iload dX12_commit_129 rfl ?_
        refine zr_iconst (v := nI 1) dX12_commit_131 (by decide) ?_
        refine zr_iaddN dX12_commit_132 ?_
        refine zr_iload dX12_commit_133 rfl ?_
        refine zr_iaddN dX12_commit_135 ?_
        refine zr_istore_n (lv' := [some (.ref ((ad 38))), some (.int (nI (((((Sb pre).length + 2) + s.2.1.length) + 1) + s.2.2.length))), some (.int (nI pre.length)), some (.int (nI 1)), some (.int (nI s.2.1.length)), some (.int (nI ((Sb pre).length + 2))), some (.int (nI (((Sb pre).length + 2) + s.2.1.length))), some (.int (nI s.2.2.length))]) dX12_commit_136 (Nat.le_of_ble_eq_true rfl) (Nat.le_of_ble_eq_true rfl) rfl rfl ?_
        refine zr_iincN (n := 1) (lv' := [some (.ref ((ad 38))), some (.int (nI (((((Sb pre).length + 2) + s.2.1.length) + 1) + s.2.2.length))), some (.int (nI (pre.length + 1))), some (.int (nI 1)), some (.int (nI s.2.1.length)), some (.int (nI ((Sb pre).length + 2))), some (.int (nI (((Sb pre).length + 2) + s.2.1.length))), some (.int (nI s.2.2.length))]) dX12_commit_137 (Nat.le_of_ble_eq_true rfl) (Nat.le_of_ble_eq_true rfl) rfl rfl rfl ?_
        refine zr_goto 40 dX12_commit_140 (by decide) ?_
        rw [← hspo] at hm2
        have em2 := mset_step hMs.1 hm2
        have e2 : (((((Sb pre).length + 2) + s.2.1.length) + 1) + s.2.2.length) = (Sb (pre ++ [s])).length := by rw [Sb_sl]; omega
        have e3 : pre.length + 1 = (pre ++ [s]).length := by rw [List.length_append]; rfl
        rw [e2, e3]
        refine zr_drop 3 rfl ?_
        refine zr_drop 4 rfl ?_
        refine zr_drop 5 rfl ?_
        refine zr_drop 6 rfl ?_
        refine zr_drop 7 rfl ?_
        exact ih suf9.length (by rw [← hl, List.length_cons]; omega) (pre ++ [s]) suf9 M2 rfl (by rw [hss, List.append_assoc]; rfl) (hF1.trans0 hF2) (by rw [← em2]; exact hN2)
