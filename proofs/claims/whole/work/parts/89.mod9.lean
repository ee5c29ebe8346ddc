/-! ===== LsmStoreModel (9): commit, put, remove ===== -/
set_option maxRecDepth 100000 in
set_option maxHeartbeats 4000000 in
theorem b_commit {G : zG} {ad : Nat → Nat} {d : Nat} {A : As} {M : zM} (hd : 5 ≤ d) (hcb : zC M ≤ 600128 ∧ zS M ≤ 7301098) (hT : Ta ad M A) (hpm : aF A = 0 → aO A = 1 → msz (mset (aM A) (aS A)) ≤ 16000 ∧ Mw 64 (mset (aM A) (aS A)))  : zMet G mX12_commit d [.ref ((ad 38))] M (Mst ad M (sCommit A) cdW (some (.int 0))) := by
  obtain ⟨hL, tK, tV, tM, tS, tB, tX⟩ := id hT
  have hbd := hT.bd
  refine zMet_of (by decide +kernel) (Nat.le_of_ble_eq_true rfl) rfl hcb ?_
  show zw G mX12_commit d _ _ _ 0 [some (.ref ((ad 38))), none, none, none, none, none, none, none] [] M
  refine zr_aload_n dX12_commit_0 rfl ?_
  refine zr_aload_n dX12_commit_1 rfl ?_
  refine zr_getI dX12_commit_2 lkX12_75 (by decide) (by decide) rfl (hL.K 38 13) ?_
  refine zr_as (y := (nI (aF A))) tX.1 ?_
  refine zr_if_neN 15 dX12_commit_5 (by decide) (by omega) (fun h5 => ?_) (fun h5 => ?_)
  · refine zr_iconst (v := nI 1) dX12_commit_15 (by decide) ?_
    refine zr_goto 20 dX12_commit_16 (by decide) ?_
    refine zr_putI dX12_commit_20 lkX12_38 (by decide) (by decide) rfl rfl (hL.K 38 13) ?_
    refine zr_aload_n dX12_commit_23 rfl ?_
    refine zr_getI dX12_commit_24 lkX12_38 (by decide) (by decide) rfl (hL.K 38 13) ?_
    refine zr_as (y := (nI 1)) (zput_hit _ _ _ _) ?_
    refine zr_if_leN 32 dX12_commit_27 (by decide) (by decide) (fun h27 => absurd h27 (by decide)) (fun h27 => ?_)
    refine zr_iconst (v := nI 0) dX12_commit_30 (by decide) ?_
    refine zr_iret dX12_commit_31 rfl ?_
    obtain ⟨M9, e9⟩ : ∃ z, z = (zput M 402 (ad 38) (nI 1)) := ⟨_, rfl⟩
    rw [← e9]
    have hF9 : Fl ad 0 [402] [] [] M M9 := by rw [e9]; exact ((Fl.refl ad _ _ _ M).put hL (f := 402) (i := 38))
    have g9_402 : zI M9 402 (ad 38) = (nI 1) := by rw [e9]; exact zput_hit _ _ _ _
    have e8 : sCommit A = (A, .inr 0) := if_pos (by omega)
    rw [e8]
    exact ⟨⟨hF9.lay hL, tK.fl hF9, tV.fl hF9, tM.fl hF9, tS.fl hF9, tB.fl hF9, tX.fl hF9⟩, hF9.mono, g9_402, rfl⟩
  · refine zr_aload_n dX12_commit_8 rfl ?_
    refine zr_getI dX12_commit_9 lkX12_82 (by decide) (by decide) rfl (hL.K 38 13) ?_
    refine zr_as (y := (nI (aO A))) tB.1 ?_
    refine zr_if_neN 19 dX12_commit_12 (by decide) (by omega) (fun h12 => ?_) (fun h12 => ?_)
    · refine zr_iconst (v := nI 0) dX12_commit_19 (by decide) ?_
      refine zr_putI dX12_commit_20 lkX12_38 (by decide) (by decide) rfl rfl (hL.K 38 13) ?_
      refine zr_aload_n dX12_commit_23 rfl ?_
      refine zr_getI dX12_commit_24 lkX12_38 (by decide) (by decide) rfl (hL.K 38 13) ?_
      refine zr_as (y := (nI 0)) (zput_hit _ _ _ _) ?_
      refine zr_if_leN 32 dX12_commit_27 (by decide) (by decide) (fun h27 => ?_) (fun h27 => absurd h27 (by decide))
      obtain ⟨M1, e1⟩ : ∃ z, z = (zput M 402 (ad 38) (nI 0)) := ⟨_, rfl⟩
      rw [← e1]
      have hF1 : Fl ad 0 [402] [] [] M M1 := by rw [e1]; exact ((Fl.refl ad _ _ _ M).put hL (f := 402) (i := 38))
      have g1_402 : zI M1 402 (ad 38) = (nI 0) := by rw [e1]; exact zput_hit _ _ _ _
      have hT1 : Ta ad M1 A := by rw [e1]; exact hT.t402
      have hL1 := hT1.1
      have hcb1 := hF1.cb hcb
      have tM1 := tM.fl hF1
      have hf0 : aF A = 0 := by omega
      have ho1 : aO A = 1 := by omega
      obtain ⟨h16, hMw⟩ := hpm hf0 ho1
      have hmb := hMw.mb (Nat.le_refl _)
      refine zr_aload_n dX12_commit_32 rfl ?_
      refine zr_callV (md' := mX12_begun) (As := []) dX12_commit_33 mlX12_100 okX12_begun rfl inX12_begun slX12_begun (by decide) (hL1.K 38 13) rfl (by omega) (Nat.le_of_ble_eq_true rfl) hcb1 (c_begun (d := d - 1) (by omega) hcb1 hL1 tM1) (fun k M1 h => by cases h.1) (fun v M2 hq => ?_)
      obtain ⟨e0, hF2, hN2⟩ := hq
      cases e0
      have hL2 := hF2.lay hL1
      have hcb2 := hF2.cb hcb1
      have tB2 := (tB.fl hF1).fl hF2
      refine zr_iconst (v := nI 0) dX12_commit_36 (by decide) ?_
      refine zr_istore_n (lv' := [some (.ref ((ad 38))), some (.int (nI 0)), none, none, none, none, none, none]) dX12_commit_37 (Nat.le_of_ble_eq_true rfl) (Nat.le_of_ble_eq_true rfl) rfl rfl ?_
      refine zr_iconst (v := nI 0) dX12_commit_38 (by decide) ?_
      refine zr_istore_n (lv' := [some (.ref ((ad 38))), some (.int (nI 0)), some (.int (nI 0)), none, none, none, none, none]) dX12_commit_39 (Nat.le_of_ble_eq_true rfl) (Nat.le_of_ble_eq_true rfl) rfl rfl ?_
      refine zr_asL (lv' := [some (.ref ((ad 38))), some (.int (nI ((Sb []).length))), some (.int (nI (([] : List Sp).length))), none, none, none, none, none]) rfl ?_
      refine l_mcommit (by omega) hcb2 hL2 tM.2.2 tB2 (fun M3 hF3 hN3 => ?_) _ [] (aS A) M2 rfl rfl (Fl.refl ad _ _ _ M2) (by rw [mset_nil _ tM.2.2.1]; exact hN2)
      have hL3 := hF3.lay hL2
      have hcb3 := hF3.cb hcb2
      refine zr_aload_n dX12_commit_143 rfl ?_
      refine zr_iconst (v := nI 0) dX12_commit_144 (by decide) ?_
      refine zr_putZ dX12_commit_145 lkX12_82 (by decide) (by decide) rfl rfl (Or.inl rfl) (hL3.K 38 13) ?_
      refine zr_aload_n dX12_commit_148 rfl ?_
      refine zr_iconst (v := nI 0) dX12_commit_149 (by decide) ?_
      refine zr_putI dX12_commit_150 lkX12_85 (by decide) (by decide) rfl rfl (hL3.K 38 13) ?_
      refine zr_aload_n dX12_commit_153 rfl ?_
      refine zr_iconst (v := nI 0) dX12_commit_154 (by decide) ?_
      refine zr_putI dX12_commit_155 lkX12_88 (by decide) (by decide) rfl rfl (hL3.K 38 13) ?_
      obtain ⟨M4, e4⟩ : ∃ z, z = (zput (zput (zput M3 398 (ad 38) (nI 0)) 397 (ad 38) (nI 0)) 396 (ad 38) (nI 0)) := ⟨_, rfl⟩
      rw [← e4]
      have hF4 : Fl ad 0 [396, 397, 398] [] [] M3 M4 := by rw [e4]; exact ((((Fl.refl ad _ _ _ M3).put hL3 (f := 398) (i := 38)).put hL3 (f := 397) (i := 38)).put hL3 (f := 396) (i := 38))
      have g4_396 : zI M4 396 (ad 38) = (nI 0) := by rw [e4]; exact zput_hit _ _ _ _
      have g4_397 : zI M4 397 (ad 38) = (nI 0) := by rw [e4]; exact (zput_ms (f := 396) (by decide) (zput_hit _ _ _ _))
      have g4_398 : zI M4 398 (ad 38) = (nI 0) := by rw [e4]; exact (zput_ms (f := 396) (by decide) (zput_ms (f := 397) (by decide) (zput_hit _ _ _ _)))
      have hL4 := hF4.lay hL3
      have hcb4 := hF4.cb hcb3
      have hN4 := hN3.fl hF4
      refine zr_aload_n dX12_commit_158 rfl ?_
      refine zr_getR dX12_commit_159 lkX12_20 (by decide) (by decide) rfl (hL4.K 38 13) (hL4.R 389 38 42) ?_
      refine zr_iconst (v := nI 0) dX12_commit_162 (by decide) ?_
      refine zr_aload_n dX12_commit_163 rfl ?_
      refine zr_getI dX12_commit_164 lkX12_45 (by decide) (by decide) rfl (hL4.K 38 13) ?_
      refine zr_as (y := (nI ((Mb (mset (aM A) (aS A))).length))) hN4.1 ?_
      refine zr_callS (md' := mX12_size) (As := [.ref ((ad 42)), .int (nI 0), .int (nI ((Mb (mset (aM A) (aS A))).length))]) dX12_commit_167 mlX12_71 okX12_size rfl stX12_size rfl (by omega) (Nat.le_of_ble_eq_true rfl) hcb4 (c_size (d := d - 1) (m := (mset (aM A) (aS A))) (by omega) hcb4 (Rw8.k hL4).2.2.2.1 hN4.ma hMw.shr (by omega)) (fun k M1 h => by cases h.1) (fun v M9 hq => ?_)
      obtain ⟨e0, e9⟩ := hq
      cases e0
      rw [e9]
      refine zr_sipush (v := nI 16000) dX12_commit_170 (by decide) ?_
      refine zr_icmp_leN 183 dX12_commit_173 (by decide) (by omega) (by decide) (fun h173 => ?_) (fun h173 => ?_)
      · refine zr_aload_n dX12_commit_183 rfl ?_
        refine zr_iconst (v := nI 0) dX12_commit_184 (by decide) ?_
        refine zr_putI dX12_commit_185 lkX12_38 (by decide) (by decide) rfl rfl (hL4.K 38 13) ?_
        obtain ⟨M5, e5⟩ : ∃ z, z = (zput M4 402 (ad 38) (nI 0)) := ⟨_, rfl⟩
        rw [← e5]
        have hF5 : Fl ad 0 [402] [] [] M4 M5 := by rw [e5]; exact (Fl.refl ad _ _ _ M4).put hL4 (f := 402) (i := 38)
        have hL5 := hF5.lay hL4
        have hcb5 := hF5.cb hcb4
        have hN5 := hN4.fl hF5
        have g5 : zI M5 402 (ad 38) = nI 0 := by rw [e5]; exact zput_hit _ _ _ _
        have hF05 : Fl ad 0 [392, 396, 397, 398, 402] [42] [] M M5 := (((hF1.mono.trans0 hF2.mono).trans0 hF3.mono).trans0 hF4.mono).trans0 hF5.mono
        have hF15 : Fl ad 0 LM LMA [] M M5 := hF05.mono
        have hT5 : Ta ad M5 (aM A, aK A, aV A, [], 0, aF A, aW A, aC A, aN A) := ⟨hL5, tK.fl hF05, tV.fl hF05, tM.fl hF05, tS.fl hF05, TaB.nil ((hF5.rI (by decide) (by decide)).trans g4_398) (Nat.le_of_ble_eq_true rfl) ((hF5.rI (by decide) (by decide)).trans g4_397) ((hF5.rI (by decide) (by decide)).trans g4_396), tX.fl hF05⟩
        refine zr_aload_n dX12_commit_188 rfl ?_
        refine zr_callV (md' := mX12_done) (As := []) dX12_commit_189 mlX12_107 okX12_done rfl inX12_done slX12_done (by decide) (hL5.K 38 13) rfl (by omega) (Nat.le_of_ble_eq_true rfl) hcb5 (c_done (d := d - 1) (A := (aM A, aK A, aV A, [], 0, aF A, aW A, aC A, aN A)) (m1 := (mset (aM A) (aS A))) (by omega) hcb5 hT5 hN5 hMw) (fun k M9 h => by obtain ⟨_, ⟨_, h, _⟩ | ⟨_, h, _⟩ | ⟨_, h, _⟩⟩ := h <;> cases h) (fun v9 M6 hq => ?_)
        obtain ⟨hF6, hd9⟩ := hq
        rcases hd9 with ⟨hw, e0, hT6, g6⟩ | ⟨hw, e0, hT6, g6⟩ | ⟨hw, e0, hT6, g6⟩
        · cases e0
          change aW A = 0 at hw
          have hL6 := hT6.1
          refine zr_istore_n (lv' := [some (.ref ((ad 38))), some (.int (nI ((Sb (aS A)).length))), some (.int (nI 0)), none, none, none, none, none]) dX12_commit_192 (Nat.le_of_ble_eq_true rfl) (Nat.le_of_ble_eq_true rfl) rfl rfl ?_
          refine zr_aload_n dX12_commit_193 rfl ?_
          refine zr_getI dX12_commit_194 lkX12_38 (by decide) (by decide) rfl (hL6.K 38 13) ?_
          refine zr_as (y := (nI 3)) g6 ?_
          refine zr_iconst (v := nI 3) dX12_commit_197 (by decide) ?_
          refine zr_icmp_neN 206 dX12_commit_198 (by decide) (by decide) (by decide) (fun h198 => absurd h198 (by decide)) (fun h198 => ?_)
          refine zr_aload_n dX12_commit_201 rfl ?_
          refine zr_iconst (v := nI 2) dX12_commit_202 (by decide) ?_
          refine zr_putI dX12_commit_203 lkX12_38 (by decide) (by decide) rfl rfl (hL6.K 38 13) ?_
          refine zr_iload_n dX12_commit_206 rfl ?_
          refine zr_iret dX12_commit_207 rfl ?_
          have e8 : sCommit A = (fell A, .inr 2) := by
            have z : sCommit A = sFin A (aS A) := if_neg (by omega)
            rw [z]
            unfold sFin
            rw [if_pos hw]
          rw [e8]
          exact ⟨hT6.t402, ((hF15 : Fl ad 0 LM LMA [] M M5).trans0 hF6).put hL (f := 402) (i := 38), zput_hit _ _ _ _, rfl⟩
        · cases e0
          change aW A = 1 at hw
          have hL6 := hT6.1
          refine zr_istore_n (lv' := [some (.ref ((ad 38))), some (.int (nI ((Sb (aS A)).length))), some (.int (nI 0)), none, none, none, none, none]) dX12_commit_192 (Nat.le_of_ble_eq_true rfl) (Nat.le_of_ble_eq_true rfl) rfl rfl ?_
          refine zr_aload_n dX12_commit_193 rfl ?_
          refine zr_getI dX12_commit_194 lkX12_38 (by decide) (by decide) rfl (hL6.K 38 13) ?_
          refine zr_as (y := (nI 3)) g6 ?_
          refine zr_iconst (v := nI 3) dX12_commit_197 (by decide) ?_
          refine zr_icmp_neN 206 dX12_commit_198 (by decide) (by decide) (by decide) (fun h198 => absurd h198 (by decide)) (fun h198 => ?_)
          refine zr_aload_n dX12_commit_201 rfl ?_
          refine zr_iconst (v := nI 2) dX12_commit_202 (by decide) ?_
          refine zr_putI dX12_commit_203 lkX12_38 (by decide) (by decide) rfl rfl (hL6.K 38 13) ?_
          refine zr_iload_n dX12_commit_206 rfl ?_
          refine zr_iret dX12_commit_207 rfl ?_
          have e8 : sCommit A = (fell ((mset (aM A) (aS A)), aK A, aV A, aS A, aO A, aF A, aW A, aC A + 1, aN A), .inr 2) := by
            have z : sCommit A = sFin A (aS A) := if_neg (by omega)
            rw [z]
            unfold sFin
            rw [if_neg (by omega), if_pos hw]
          rw [e8]
          exact ⟨hT6.t402, ((hF15 : Fl ad 0 LM LMA [] M M5).trans0 hF6).put hL (f := 402) (i := 38), zput_hit _ _ _ _, rfl⟩
        · cases e0
          change 2 ≤ aW A at hw
          have hL6 := hT6.1
          refine zr_istore_n (lv' := [some (.ref ((ad 38))), some (.int (nI ((Sb (aS A)).length))), some (.int (nI (msz (mset (aM A) (aS A))))), none, none, none, none, none]) dX12_commit_192 (Nat.le_of_ble_eq_true rfl) (Nat.le_of_ble_eq_true rfl) rfl rfl ?_
          refine zr_aload_n dX12_commit_193 rfl ?_
          refine zr_getI dX12_commit_194 lkX12_38 (by decide) (by decide) rfl (hL6.K 38 13) ?_
          refine zr_as (y := (nI 0)) (g6.trans g5) ?_
          refine zr_iconst (v := nI 3) dX12_commit_197 (by decide) ?_
          refine zr_icmp_neN 206 dX12_commit_198 (by decide) (by decide) (by decide) (fun h198 => ?_) (fun h198 => absurd h198 (by decide))
          refine zr_iload_n dX12_commit_206 rfl ?_
          refine zr_iret dX12_commit_207 rfl ?_
          have e8 : sCommit A = (((mset (aM A) (aS A)), aK A, aV A, [], 0, 0, aW A, aC A + 1, aN A), .inl (some (.int (nI (msz (mset (aM A) (aS A))))))) := by
            have z : sCommit A = sFin A (aS A) := if_neg (by omega)
            rw [z]
            unfold sFin
            rw [if_neg (by omega), if_neg (by omega)]
          rw [e8]
          rw [hf0] at hT6
          exact ⟨hT6, (hF15 : Fl ad 0 LM LMA [] M M5).trans0 hF6, g6.trans g5, rfl⟩
      · refine zr_aload_n dX12_commit_176 rfl ?_
        refine zr_iconst (v := nI 1) dX12_commit_177 (by decide) ?_
        refine zr_putI dX12_commit_178 lkX12_38 (by decide) (by decide) rfl rfl (hL4.K 38 13) ?_
        refine zr_iconst (v := nI 0) dX12_commit_181 (by decide) ?_
        refine zr_iret dX12_commit_182 rfl ?_
        exfalso; omega
    · refine zr_iconst (v := nI 1) dX12_commit_15 (by decide) ?_
      refine zr_goto 20 dX12_commit_16 (by decide) ?_
      refine zr_putI dX12_commit_20 lkX12_38 (by decide) (by decide) rfl rfl (hL.K 38 13) ?_
      refine zr_aload_n dX12_commit_23 rfl ?_
      refine zr_getI dX12_commit_24 lkX12_38 (by decide) (by decide) rfl (hL.K 38 13) ?_
      refine zr_as (y := (nI 1)) (zput_hit _ _ _ _) ?_
      refine zr_if_leN 32 dX12_commit_27 (by decide) (by decide) (fun h27 => absurd h27 (by decide)) (fun h27 => ?_)
      refine zr_iconst (v := nI 0) dX12_commit_30 (by decide) ?_
      refine zr_iret dX12_commit_31 rfl ?_
      obtain ⟨M9, e9⟩ : ∃ z, z = (zput M 402 (ad 38) (nI 1)) := ⟨_, rfl⟩
      rw [← e9]
      have hF9 : Fl ad 0 [402] [] [] M M9 := by rw [e9]; exact ((Fl.refl ad _ _ _ M).put hL (f := 402) (i := 38))
      have g9_402 : zI M9 402 (ad 38) = (nI 1) := by rw [e9]; exact zput_hit _ _ _ _
      have e8 : sCommit A = (A, .inr 0) := if_pos (by omega)
      rw [e8]
      exact ⟨⟨hF9.lay hL, tK.fl hF9, tV.fl hF9, tM.fl hF9, tS.fl hF9, tB.fl hF9, tX.fl hF9⟩, hF9.mono, g9_402, rfl⟩
theorem cpy_0 (f g : Nat → Int32) (s d : Nat) : va_cpy f g s d 0 = g := funext (fun i => pk_cpy_out (by omega))
/-- a step is put behind -/
theorem rc_stp {F Fk Fv : Nat → Int32} {P K V : List Nat} {c0 ko vo : Nat} {x0 x1 x2 : Int32} (h : Rc F P) (hk : Rc (fun i => Fk (ko + i)) K) (hv : Rc (fun i => Fv (vo + i)) V) (h0 : zb x0 = c0) (h1 : zb x1 = K.length) (h2 : zb x2 = V.length) :
    Rc (va_cpy Fv (upd (va_cpy Fk (upd (upd F P.length x0) (P.length + 1) x1) ko (P.length + 2) K.length) (P.length + 2 + K.length) x2) vo (P.length + 2 + K.length + 1) V.length) (P ++ (c0 :: (K.length :: (K ++ (V.length :: V))))) := by
  obtain ⟨F2, e2⟩ : ∃ z, z = va_cpy Fk (upd (upd F P.length x0) (P.length + 1) x1) ko (P.length + 2) K.length := ⟨_, rfl⟩
  rw [← e2]
  have hu : ∀ i, i ≠ P.length + 2 + K.length → upd F2 (P.length + 2 + K.length) x2 i = F2 i := fun i hi => if_neg hi
  have hl : ∀ i, i < P.length + 2 → F2 i = upd (upd F P.length x0) (P.length + 1) x1 i := fun i hi => by rw [e2]; exact pk_cpy_out (by omega)
  refine Rc.app (h.congr (fun i hi => ?_)) ?_
  · rw [pk_cpy_out (by omega), hu i (by omega), hl i (by omega)]
    show (if i = P.length + 1 then x1 else if i = P.length then x0 else F i) = F i
    rw [if_neg (by omega), if_neg (by omega)]
  · show Rc _ ([c0] ++ ([K.length] ++ (K ++ ([V.length] ++ V))))
    refine Rc.app (rc_one ?_) (Rc.app (rc_one ?_) (Rc.app ?_ (Rc.app (rc_one ?_) ?_)))
    · show zb (va_cpy Fv _ vo _ V.length (P.length + 0)) = _
      rw [pk_cpy_out (by omega), hu _ (by omega), hl _ (by omega)]
      show zb (if P.length + 0 = P.length + 1 then x1 else if P.length + 0 = P.length then x0 else _) = _
      rw [if_neg (by omega), if_pos (Nat.add_zero _), h0]
    · show zb (va_cpy Fv _ vo _ V.length (P.length + (1 + 0))) = _
      rw [pk_cpy_out (by omega), hu _ (by omega), hl _ (by omega)]
      show zb (if P.length + (1 + 0) = P.length + 1 then x1 else _) = _
      rw [if_pos rfl, h1]
    · refine hk.congr (fun i hi => ?_)
      show va_cpy Fv _ vo _ V.length (P.length + (1 + (1 + i))) = Fk (ko + i)
      rw [pk_cpy_out (by omega), hu _ (by omega), e2, pk_cpy_in (by omega) (by omega)]
      congr 1
      omega
    · show zb (va_cpy Fv _ vo _ V.length (P.length + (1 + (1 + (K.length + 0))))) = _
      rw [pk_cpy_out (by omega)]
      show zb (if P.length + (1 + (1 + (K.length + 0))) = P.length + 2 + K.length then x2 else _) = _
      rw [if_pos (by omega), h2]
    · refine hv.congr (fun i hi => ?_)
      show va_cpy Fv _ vo _ V.length (P.length + (1 + (1 + (K.length + (1 + i))))) = Fv (vo + i)
      rw [pk_cpy_in (by omega) (by omega)]
      congr 1
      omega
set_option maxRecDepth 100000 in
set_option maxHeartbeats 4000000 in
theorem b_change1 {G : zG} {ad : Nat → Nat} {d : Nat} {A : As} {M : zM} (hd : 5 ≤ d) (hcb : zC M ≤ 600128 ∧ zS M ≤ 7301098) (hT : Ta ad M A) (hss : aF A = 0 → aO A = 1 → (aS A).length < 64) (hs9 : aO A = 0 → aS A = []) (hpm : aF A = 0 → aO A = 0 → aK A ≠ [] → msz (mset (aM A) [(1, aK A, if 1 = 1 then aV A else [])]) ≤ 16000 ∧ Mw 64 (mset (aM A) [(1, aK A, if 1 = 1 then aV A else [])]))  : zMet G mX12_change d [.ref ((ad 38)), .int (nI 1)] M (Mst ad M (sAdd 1 A) cdP (some (.int 0))) := by
  obtain ⟨hL, tK, tV, tM, tS, tB, tX⟩ := id hT
  have hbd := hT.bd
  refine zMet_of (by decide +kernel) (Nat.le_of_ble_eq_true rfl) rfl hcb ?_
  show zw G mX12_change d _ _ _ 0 [some (.ref ((ad 38))), some (.int (nI 1))] [] M
  refine zr_aload_n dX12_change_0 rfl ?_
  refine zr_aload_n dX12_change_1 rfl ?_
  refine zr_getI dX12_change_2 lkX12_75 (by decide) (by decide) rfl (hL.K 38 13) ?_
  refine zr_as (y := (nI (aF A))) tX.1 ?_
  refine zr_if_eqN 12 dX12_change_5 (by decide) (by omega) (fun h5 => ?_) (fun h5 => ?_)
  · refine zr_aload_n dX12_change_12 rfl ?_
    refine zr_getI dX12_change_13 lkX12_94 (by decide) (by decide) rfl (hL.K 38 13) ?_
    refine zr_as (y := (nI ((aK A).length))) tK.1 ?_
    refine zr_if_neN 23 dX12_change_16 (by decide) (by omega) (fun h16 => ?_) (fun h16 => ?_)
    · refine zr_aload_n dX12_change_23 rfl ?_
      refine zr_getI dX12_change_24 lkX12_82 (by decide) (by decide) rfl (hL.K 38 13) ?_
      refine zr_as (y := (nI (aO A))) tB.1 ?_
      refine zr_if_eqN 43 dX12_change_27 (by decide) (by omega) (fun h27 => ?_) (fun h27 => ?_)
      · refine zr_iconst (v := nI 0) dX12_change_43 (by decide) ?_
        refine zr_putI dX12_change_44 lkX12_38 (by decide) (by decide) rfl rfl (hL.K 38 13) ?_
        refine zr_aload_n dX12_change_47 rfl ?_
        refine zr_getI dX12_change_48 lkX12_38 (by decide) (by decide) rfl (hL.K 38 13) ?_
        refine zr_as (y := (nI 0)) (zput_hit _ _ _ _) ?_
        refine zr_if_leN 56 dX12_change_51 (by decide) (by decide) (fun h51 => ?_) (fun h51 => absurd h51 (by decide))
        obtain ⟨M1, e1⟩ : ∃ z, z = (zput M 402 (ad 38) (nI 0)) := ⟨_, rfl⟩
        rw [← e1]
        have hF1 : Fl ad 0 [402] [] [] M M1 := by rw [e1]; exact ((Fl.refl ad _ _ _ M).put hL (f := 402) (i := 38))
        have g1_402 : zI M1 402 (ad 38) = (nI 0) := by rw [e1]; exact zput_hit _ _ _ _
        have hT1 : Ta ad M1 A := by rw [e1]; exact hT.t402
        have hL1 := hT1.1
        have hcb1 := hF1.cb hcb
        have tM1 := tM.fl hF1
        have hf0 : aF A = 0 := by omega
        have hne : aK A ≠ [] := fun z => h16 (by rw [z]; rfl)
        have p1 := (tK.fl hF1).1
        have q1 := (tV.fl hF1).1
        have g1 := (tB.fl hF1).2.2.2.1
        have b1 := (tB.fl hF1).2.2.1
        refine zr_aload_n dX12_change_56 rfl ?_
        refine zr_getI dX12_change_57 lkX12_82 (by decide) (by decide) rfl (hL1.K 38 13) ?_
        refine zr_as (y := (nI (aO A))) (tB.fl hF1).1 ?_
        refine zr_if_eqN 224 dX12_change_60 (by decide) (by omega) (fun h60 => ?_) (fun h60 => ?_)
        · refine zr_aload_n dX12_change_224 rfl ?_
          refine zr_callV (md' := mX12_begun) (As := []) dX12_change_225 mlX12_100 okX12_begun rfl inX12_begun slX12_begun (by decide) (hL1.K 38 13) rfl (by omega) (Nat.le_of_ble_eq_true rfl) hcb1 (c_begun (d := d - 1) (by omega) hcb1 hL1 tM1) (fun k M1 h => by cases h.1) (fun v M2 hq => ?_)
          obtain ⟨e0, hF2, hN2⟩ := hq
          cases e0
          have hL2 := hF2.lay hL1
          have hcb2 := hF2.cb hcb1
          have hF02 : Fl ad 0 [392, 402] [42] [] M M2 := hF1.mono.trans0 hF2.mono
          have tK2 := tK.fl hF02
          have tV2 := tV.fl hF02
          have hml2 : (Mb (aM A)).length + 300 ≤ 70000 := by omega
          have hkr : ∀ M' : zM, Fl ad 0 [392] [42] [] M2 M' → zA M' (ad 39) = zA M2 (ad 39) := fun M' hF => hF.rA (by decide) (by decide)
          have hvr : ∀ M' : zM, Fl ad 0 [392] [42] [] M2 M' → zA M' (ad 40) = zA M2 (ad 40) := fun M' hF => hF.rA (by decide) (by decide)
          have hk2 : Rc (fun i => zA M2 (ad 39) (0 + i)) (aK A) := tK2.2.1.congr (fun i _ => by rw [Nat.zero_add])
          have hv2 : Rc (fun i => zA M2 (ad 40) (0 + i)) (aV A) := tV2.2.1.congr (fun i _ => by rw [Nat.zero_add])
          refine zr_aload_n dX12_change_228 rfl ?_
          refine zr_aload_n dX12_change_229 rfl ?_
          refine zr_getR dX12_change_230 lkX12_9 (by decide) (by decide) rfl (hL2.K 38 13) (hL2.R 384 38 39) ?_
          refine zr_iconst (v := nI 0) dX12_change_233 (by decide) ?_
          refine zr_aload_n dX12_change_234 rfl ?_
          refine zr_getI dX12_change_235 lkX12_94 (by decide) (by decide) rfl (hL2.K 38 13) ?_
          refine zr_as (y := (nI ((aK A).length))) tK2.1 ?_
          refine zr_aload_n dX12_change_238 rfl ?_
          refine zr_getR dX12_change_239 lkX12_13 (by decide) (by decide) rfl (hL2.K 38 13) (hL2.R 385 38 40) ?_
          refine zr_iload_n dX12_change_242 rfl ?_
          refine zr_if_eq 250 dX12_change_243 (by decide) (fun h243 => absurd h243 (by decide)) (fun h243 => ?_)
          refine zr_iconst (v := nI 0) dX12_change_246 (by decide) ?_
          refine zr_goto 251 dX12_change_247 (by decide) ?_
          refine zr_aload_n dX12_change_251 rfl ?_
          refine zr_getI dX12_change_252 lkX12_97 (by decide) (by decide) rfl (hL2.K 38 13) ?_
          refine zr_as (y := (nI ((aV A).length))) tV2.1 ?_
          refine zr_callV (md' := mX12_set) (As := [.ref ((ad 39)), .int (nI 0), .int (nI ((aK A).length)), .ref ((ad 40)), .int (nI 0), .int (nI ((aV A).length))]) dX12_change_255 mlX12_103 okX12_set rfl inX12_set slX12_set (by decide) (hL2.K 38 13) rfl (by omega) (Nat.le_of_ble_eq_true rfl) hcb2 (c_setS (d := d - 1) (kk := aK A) (V := aV A) (by omega) hcb2 hL2 (Rw8.k hL2).1 (hL2.ne (by decide)) hkr hk2 (by omega) tK2.2.2 hN2 tM.2.2.shr tM.2.2.1 hml2 (Rw8.k hL2).2.1 (hL2.ne (by decide)) hvr hv2 (by omega) tV2.2.2) (fun k M1 h => by cases h.1) (fun v M3 hq => ?_)
          obtain ⟨e0, hF3, m3, hm3, hN3⟩ := hq
          cases e0
          have em3 : m3 = (mset (aM A) [(1, aK A, if 1 = 1 then aV A else [])]) := mset_step (ss := []) tM.2.2.1 (by rw [mset_nil _ tM.2.2.1]; exact hm3)
          subst em3
          have hL3 := hF3.lay hL2
          have hcb3 := hF3.cb hcb2
          have hF03 : Fl ad 0 [392, 402] [42] [] M M3 := hF02.trans0 hF3.mono
          have ho0 : aO A = 0 := by omega
          obtain ⟨h160, hMw⟩ := hpm hf0 ho0 hne
          have hmb := hMw.mb (Nat.le_refl _)
          have hT3 : Ta ad M3 A := ⟨hL3, tK.fl hF03, tV.fl hF03, tM.fl hF03, tS.fl hF03, tB.fl hF03, tX.fl hF03⟩
          have g3 : zI M3 402 (ad 38) = nI 0 := (hF3.rI (by decide) (by decide)).trans ((hF2.rI (by decide) (by decide)).trans g1_402)
          refine zr_aload_n dX12_change_258 rfl ?_
          refine zr_getR dX12_change_259 lkX12_20 (by decide) (by decide) rfl (hL3.K 38 13) (hL3.R 389 38 42) ?_
          refine zr_iconst (v := nI 0) dX12_change_262 (by decide) ?_
          refine zr_aload_n dX12_change_263 rfl ?_
          refine zr_getI dX12_change_264 lkX12_45 (by decide) (by decide) rfl (hL3.K 38 13) ?_
          refine zr_as (y := (nI ((Mb (mset (aM A) [(1, aK A, if 1 = 1 then aV A else [])])).length))) hN3.1 ?_
          refine zr_callS (md' := mX12_size) (As := [.ref ((ad 42)), .int (nI 0), .int (nI ((Mb (mset (aM A) [(1, aK A, if 1 = 1 then aV A else [])])).length))]) dX12_change_267 mlX12_71 okX12_size rfl stX12_size rfl (by omega) (Nat.le_of_ble_eq_true rfl) hcb3 (c_size (d := d - 1) (m := (mset (aM A) [(1, aK A, if 1 = 1 then aV A else [])])) (by omega) hcb3 (Rw8.k hL3).2.2.2.1 hN3.ma hMw.shr (by omega)) (fun k M1 h => by cases h.1) (fun v M9 hq => ?_)
          obtain ⟨e0, e9⟩ := hq
          cases e0
          rw [e9]
          refine zr_sipush (v := nI 16000) dX12_change_270 (by decide) ?_
          refine zr_icmp_leN 283 dX12_change_273 (by decide) (by omega) (by decide) (fun h273 => ?_) (fun h273 => ?_)
          · refine zr_aload_n dX12_change_283 rfl ?_
            refine zr_callV (md' := mX12_done) (As := []) dX12_change_284 mlX12_107 okX12_done rfl inX12_done slX12_done (by decide) (hL3.K 38 13) rfl (by omega) (Nat.le_of_ble_eq_true rfl) hcb3 (c_done (d := d - 1) (A := A) (m1 := (mset (aM A) [(1, aK A, if 1 = 1 then aV A else [])])) (by omega) hcb3 hT3 hN3 hMw) (fun k M9 h => by obtain ⟨_, ⟨_, h, _⟩ | ⟨_, h, _⟩ | ⟨_, h, _⟩⟩ := h <;> cases h) (fun v9 M6 hq => ?_)
            obtain ⟨hF6, hd9⟩ := hq
            have ez : sAdd 1 A = sFin A [(1, aK A, if 1 = 1 then aV A else [])] := by
              unfold sAdd
              rw [if_neg (by omega), if_neg hne, if_neg (by omega)]
            have hs0 : aS A = [] := hs9 ho0
            have FT : Fl ad 0 LM LMA [] M M6 := (hF03.mono : Fl ad 0 LM LMA [] M M3).trans0 hF6
            rcases hd9 with ⟨hw, e0, hT6, g6⟩ | ⟨hw, e0, hT6, g6⟩ | ⟨hw, e0, hT6, g6⟩
            · cases e0
              refine zr_iret dX12_change_287 rfl ?_
              have e8 : sAdd 1 A = (fell A, .inr 2) := by
                rw [ez]
                unfold sFin
                rw [if_pos hw]
              rw [e8]
              exact ⟨hT6, FT, g6, rfl⟩
            · cases e0
              refine zr_iret dX12_change_287 rfl ?_
              have e8 : sAdd 1 A = (fell ((mset (aM A) [(1, aK A, if 1 = 1 then aV A else [])]), aK A, aV A, aS A, aO A, aF A, aW A, aC A + 1, aN A), .inr 2) := by
                rw [ez]
                unfold sFin
                rw [if_neg (by omega), if_pos hw]
              rw [e8]
              exact ⟨hT6, FT, g6, rfl⟩
            · cases e0
              refine zr_iret dX12_change_287 rfl ?_
              have e8 : sAdd 1 A = (((mset (aM A) [(1, aK A, if 1 = 1 then aV A else [])]), aK A, aV A, [], 0, 0, aW A, aC A + 1, aN A), .inl (some (.int (nI (msz (mset (aM A) [(1, aK A, if 1 = 1 then aV A else [])])))))) := by
                rw [ez]
                unfold sFin
                rw [if_neg (by omega), if_neg (by omega)]
              rw [e8]
              rw [hf0, ho0, hs0] at hT6
              exact ⟨hT6, FT, g6.trans g3, rfl⟩
          · refine zr_aload_n dX12_change_276 rfl ?_
            refine zr_iconst (v := nI 1) dX12_change_277 (by decide) ?_
            refine zr_putI dX12_change_278 lkX12_38 (by decide) (by decide) rfl rfl (hL3.K 38 13) ?_
            refine zr_iconst (v := nI 0) dX12_change_281 (by decide) ?_
            refine zr_iret dX12_change_282 rfl ?_
            exfalso; omega
        · refine zr_aload_n dX12_change_63 rfl ?_
          refine zr_getR dX12_change_64 lkX12_31 (by decide) (by decide) rfl (hL1.K 38 13) (hL1.R 395 38 45) ?_
          refine zr_aload_n dX12_change_67 rfl ?_
          refine zr_dup dX12_change_68 rfl ?_
          refine zr_getI dX12_change_69 lkX12_88 (by decide) (by decide) rfl (hL1.K 38 13) ?_
          refine zr_as (y := (nI ((Sb (aS A)).length))) g1 ?_
          refine zr_dup_x1 dX12_change_72 rfl rfl ?_
          refine zr_iconst (v := nI 1) dX12_change_73 (by decide) ?_
          refine zr_iaddN dX12_change_74 ?_
          refine zr_putI dX12_change_75 lkX12_88 (by decide) (by decide) rfl rfl (hL1.K 38 13) ?_
          refine zr_iload_n dX12_change_78 rfl ?_
          refine zr_if_eq 86 dX12_change_79 (by decide) (fun h79 => absurd h79 (by decide)) (fun h79 => ?_)
          refine zr_iconst (v := nI 1) dX12_change_82 (by decide) ?_
          refine zr_goto 87 dX12_change_83 (by decide) ?_
          refine zr_i2b dX12_change_87 ?_
          refine zr_bastN dX12_change_88 (hL1.K 45 14) (hL1.N 45 15360) (by omega) (by omega) ?_
          obtain ⟨M2, e2⟩ : ∃ z, z = (zsetA (zput M1 396 (ad 38) (nI ((Sb (aS A)).length + 1))) (ad 45) (upd (zA (zput M1 396 (ad 38) (nI ((Sb (aS A)).length + 1))) (ad 45)) (Sb (aS A)).length (vp_nar .byte (Int32.toInt8 (nI 1)).toInt32))) := ⟨_, rfl⟩
          rw [← e2]
          have hF2 : Fl ad 0 [396] [45] [] M1 M2 := by rw [e2]; exact ((Fl.refl ad _ _ _ M1).put hL1 (f := 396) (i := 38)).setA hL1 (i := 45)
          have hL2 := hF2.lay hL1
          have g2 : zI M2 396 (ad 38) = nI ((Sb (aS A)).length + 1) := by rw [e2]; exact zput_hit _ _ _ _
          have a2 : zA M2 (ad 45) = upd (zA M1 (ad 45)) (Sb (aS A)).length (vp_nar .byte (Int32.toInt8 (nI 1)).toInt32) := by rw [e2]; exact zsetA_hit _ _ _
          have k2 : zA M2 (ad 39) = zA M1 (ad 39) := hF2.rA (by decide) (by decide)
          have v2 : zA M2 (ad 40) = zA M1 (ad 40) := hF2.rA (by decide) (by decide)
          have p2 : zI M2 386 (ad 38) = nI (aK A).length := (hF2.rI (by decide) (by decide)).trans p1
          have q2 : zI M2 387 (ad 38) = nI (aV A).length := (hF2.rI (by decide) (by decide)).trans q1
          have b2 : zI M2 397 (ad 38) = nI (aS A).length := (hF2.rI (by decide) (by decide)).trans b1
          refine zr_aload_n dX12_change_89 rfl ?_
          refine zr_getR dX12_change_90 lkX12_31 (by decide) (by decide) rfl (hL2.K 38 13) (hL2.R 395 38 45) ?_
          refine zr_aload_n dX12_change_93 rfl ?_
          refine zr_dup dX12_change_94 rfl ?_
          refine zr_getI dX12_change_95 lkX12_88 (by decide) (by decide) rfl (hL2.K 38 13) ?_
          refine zr_as (y := (nI ((Sb (aS A)).length + 1))) g2 ?_
          refine zr_dup_x1 dX12_change_98 rfl rfl ?_
          refine zr_iconst (v := nI 1) dX12_change_99 (by decide) ?_
          refine zr_iaddN dX12_change_100 ?_
          refine zr_putI dX12_change_101 lkX12_88 (by decide) (by decide) rfl rfl (hL2.K 38 13) ?_
          refine zr_aload_n dX12_change_104 rfl ?_
          refine zr_getI dX12_change_105 lkX12_94 (by decide) (by decide) rfl (hL2.K 38 13) ?_
          refine zr_as (y := (nI ((aK A).length))) (zput_ms (by decide) p2) ?_
          refine zr_i2b dX12_change_108 ?_
          refine zr_bastN dX12_change_109 (hL2.K 45 14) (hL2.N 45 15360) (by omega) (by omega) ?_
          obtain ⟨M3, e3⟩ : ∃ z, z = (zsetA (zput M2 396 (ad 38) (nI (((Sb (aS A)).length + 1) + 1))) (ad 45) (upd (zA (zput M2 396 (ad 38) (nI (((Sb (aS A)).length + 1) + 1))) (ad 45)) ((Sb (aS A)).length + 1) (vp_nar .byte (Int32.toInt8 (nI ((aK A).length))).toInt32))) := ⟨_, rfl⟩
          rw [← e3]
          have hF3 : Fl ad 0 [396] [45] [] M2 M3 := by rw [e3]; exact ((Fl.refl ad _ _ _ M2).put hL2 (f := 396) (i := 38)).setA hL2 (i := 45)
          have hL3 := hF3.lay hL2
          have g3 : zI M3 396 (ad 38) = nI ((Sb (aS A)).length + 1 + 1) := by rw [e3]; exact zput_hit _ _ _ _
          have a3 : zA M3 (ad 45) = upd (zA M2 (ad 45)) ((Sb (aS A)).length + 1) (vp_nar .byte (Int32.toInt8 (nI (aK A).length)).toInt32) := by rw [e3]; exact zsetA_hit _ _ _
          have k3 : zA M3 (ad 39) = zA M1 (ad 39) := (hF3.rA (by decide) (by decide)).trans k2
          have v3 : zA M3 (ad 40) = zA M1 (ad 40) := (hF3.rA (by decide) (by decide)).trans v2
          have p3 : zI M3 386 (ad 38) = nI (aK A).length := (hF3.rI (by decide) (by decide)).trans p2
          have q3 : zI M3 387 (ad 38) = nI (aV A).length := (hF3.rI (by decide) (by decide)).trans q2
          have b3 : zI M3 397 (ad 38) = nI (aS A).length := (hF3.rI (by decide) (by decide)).trans b2
          refine zr_aload_n dX12_change_110 rfl ?_
          refine zr_getR dX12_change_111 lkX12_9 (by decide) (by decide) rfl (hL3.K 38 13) (hL3.R 384 38 39) ?_
          refine zr_iconst (v := nI 0) dX12_change_114 (by decide) ?_
          refine zr_aload_n dX12_change_115 rfl ?_
          refine zr_getR dX12_change_116 lkX12_31 (by decide) (by decide) rfl (hL3.K 38 13) (hL3.R 395 38 45) ?_
          refine zr_aload_n dX12_change_119 rfl ?_
          refine zr_getI dX12_change_120 lkX12_88 (by decide) (by decide) rfl (hL3.K 38 13) ?_
          refine zr_as (y := (nI ((Sb (aS A)).length + 1 + 1))) g3 ?_
          refine zr_aload_n dX12_change_123 rfl ?_
          refine zr_getI dX12_change_124 lkX12_94 (by decide) (by decide) rfl (hL3.K 38 13) ?_
          refine zr_as (y := (nI ((aK A).length))) p3 ?_
          refine zr_copyN dX12_change_127 mlX12_52 (Or.inl ⟨(hL3.K 39 14), (hL3.K 45 14)⟩) (hL3.N 39 32) (hL3.N 45 15360) (by omega) (by omega) (by omega) (by omega) (by omega) (Nat.le_of_ble_eq_true rfl) ?_
          refine zr_aload_n dX12_change_130 rfl ?_
          refine zr_dup dX12_change_131 rfl ?_
          refine zr_getI dX12_change_132 lkX12_88 (by decide) (by decide) rfl (hL3.K 38 13) ?_
          refine zr_as (y := (nI ((Sb (aS A)).length + 1 + 1))) g3 ?_
          refine zr_aload_n dX12_change_135 rfl ?_
          refine zr_getI dX12_change_136 lkX12_94 (by decide) (by decide) rfl (hL3.K 38 13) ?_
          refine zr_as (y := (nI ((aK A).length))) p3 ?_
          refine zr_iaddN dX12_change_139 ?_
          refine zr_putI dX12_change_140 lkX12_88 (by decide) (by decide) rfl rfl (hL3.K 38 13) ?_
          obtain ⟨M4, e4⟩ : ∃ z, z = (zput (zsetA M3 (ad 45) (va_cpy (zA M3 (ad 39)) (zA M3 (ad 45)) 0 ((Sb (aS A)).length + 1 + 1) (aK A).length)) 396 (ad 38) (nI (((Sb (aS A)).length + 1 + 1) + (aK A).length))) := ⟨_, rfl⟩
          rw [← e4]
          have hF4 : Fl ad 0 [396] [45] [] M3 M4 := by rw [e4]; exact ((Fl.refl ad _ _ _ M3).setA hL3 (i := 45)).put hL3 (f := 396) (i := 38)
          have hL4 := hF4.lay hL3
          have g4 : zI M4 396 (ad 38) = nI ((Sb (aS A)).length + 1 + 1 + (aK A).length) := by rw [e4]; exact zput_hit _ _ _ _
          have a4 : zA M4 (ad 45) = va_cpy (zA M3 (ad 39)) (zA M3 (ad 45)) 0 ((Sb (aS A)).length + 1 + 1) (aK A).length := by rw [e4]; exact zsetA_hit _ _ _
          have k4 : zA M4 (ad 39) = zA M1 (ad 39) := (hF4.rA (by decide) (by decide)).trans k3
          have v4 : zA M4 (ad 40) = zA M1 (ad 40) := (hF4.rA (by decide) (by decide)).trans v3
          have p4 : zI M4 386 (ad 38) = nI (aK A).length := (hF4.rI (by decide) (by decide)).trans p3
          have q4 : zI M4 387 (ad 38) = nI (aV A).length := (hF4.rI (by decide) (by decide)).trans q3
          have b4 : zI M4 397 (ad 38) = nI (aS A).length := (hF4.rI (by decide) (by decide)).trans b3
          refine zr_aload_n dX12_change_143 rfl ?_
          refine zr_getR dX12_change_144 lkX12_31 (by decide) (by decide) rfl (hL4.K 38 13) (hL4.R 395 38 45) ?_
          refine zr_aload_n dX12_change_147 rfl ?_
          refine zr_dup dX12_change_148 rfl ?_
          refine zr_getI dX12_change_149 lkX12_88 (by decide) (by decide) rfl (hL4.K 38 13) ?_
          refine zr_as (y := (nI ((Sb (aS A)).length + 1 + 1 + (aK A).length))) g4 ?_
          refine zr_dup_x1 dX12_change_152 rfl rfl ?_
          refine zr_iconst (v := nI 1) dX12_change_153 (by decide) ?_
          refine zr_iaddN dX12_change_154 ?_
          refine zr_putI dX12_change_155 lkX12_88 (by decide) (by decide) rfl rfl (hL4.K 38 13) ?_
          refine zr_iload_n dX12_change_158 rfl ?_
          refine zr_if_eq 169 dX12_change_159 (by decide) (fun h159 => absurd h159 (by decide)) (fun h159 => ?_)
          refine zr_aload_n dX12_change_162 rfl ?_
          refine zr_getI dX12_change_163 lkX12_97 (by decide) (by decide) rfl (hL4.K 38 13) ?_
          refine zr_as (y := (nI ((aV A).length))) (zput_ms (by decide) q4) ?_
          refine zr_goto 170 dX12_change_166 (by decide) ?_
          refine zr_i2b dX12_change_170 ?_
          refine zr_bastN dX12_change_171 (hL4.K 45 14) (hL4.N 45 15360) (by omega) (by omega) ?_
          obtain ⟨M5, e5⟩ : ∃ z, z = (zsetA (zput M4 396 (ad 38) (nI (((Sb (aS A)).length + 1 + 1 + (aK A).length) + 1))) (ad 45) (upd (zA (zput M4 396 (ad 38) (nI (((Sb (aS A)).length + 1 + 1 + (aK A).length) + 1))) (ad 45)) ((Sb (aS A)).length + 1 + 1 + (aK A).length) (vp_nar .byte (Int32.toInt8 (nI ((aV A).length))).toInt32))) := ⟨_, rfl⟩
          rw [← e5]
          have hF5 : Fl ad 0 [396] [45] [] M4 M5 := by rw [e5]; exact ((Fl.refl ad _ _ _ M4).put hL4 (f := 396) (i := 38)).setA hL4 (i := 45)
          have hL5 := hF5.lay hL4
          have g5 : zI M5 396 (ad 38) = nI ((Sb (aS A)).length + 1 + 1 + (aK A).length + 1) := by rw [e5]; exact zput_hit _ _ _ _
          have a5 : zA M5 (ad 45) = upd (zA M4 (ad 45)) ((Sb (aS A)).length + 1 + 1 + (aK A).length) (vp_nar .byte (Int32.toInt8 (nI (aV A).length)).toInt32) := by rw [e5]; exact zsetA_hit _ _ _
          have k5 : zA M5 (ad 39) = zA M1 (ad 39) := (hF5.rA (by decide) (by decide)).trans k4
          have v5 : zA M5 (ad 40) = zA M1 (ad 40) := (hF5.rA (by decide) (by decide)).trans v4
          have p5 : zI M5 386 (ad 38) = nI (aK A).length := (hF5.rI (by decide) (by decide)).trans p4
          have q5 : zI M5 387 (ad 38) = nI (aV A).length := (hF5.rI (by decide) (by decide)).trans q4
          have b5 : zI M5 397 (ad 38) = nI (aS A).length := (hF5.rI (by decide) (by decide)).trans b4
          refine zr_iload_n dX12_change_172 rfl ?_
          refine zr_if_eq 209 dX12_change_173 (by decide) (fun h173 => absurd h173 (by decide)) (fun h173 => ?_)
          refine zr_aload_n dX12_change_176 rfl ?_
          refine zr_getR dX12_change_177 lkX12_13 (by decide) (by decide) rfl (hL5.K 38 13) (hL5.R 385 38 40) ?_
          refine zr_iconst (v := nI 0) dX12_change_180 (by decide) ?_
          refine zr_aload_n dX12_change_181 rfl ?_
          refine zr_getR dX12_change_182 lkX12_31 (by decide) (by decide) rfl (hL5.K 38 13) (hL5.R 395 38 45) ?_
          refine zr_aload_n dX12_change_185 rfl ?_
          refine zr_getI dX12_change_186 lkX12_88 (by decide) (by decide) rfl (hL5.K 38 13) ?_
          refine zr_as (y := (nI ((Sb (aS A)).length + 1 + 1 + (aK A).length + 1))) g5 ?_
          refine zr_aload_n dX12_change_189 rfl ?_
          refine zr_getI dX12_change_190 lkX12_97 (by decide) (by decide) rfl (hL5.K 38 13) ?_
          refine zr_as (y := (nI ((aV A).length))) q5 ?_
          refine zr_copyN dX12_change_193 mlX12_52 (Or.inl ⟨(hL5.K 40 14), (hL5.K 45 14)⟩) (hL5.N 40 200) (hL5.N 45 15360) (by omega) (by omega) (by omega) (by omega) (by omega) (Nat.le_of_ble_eq_true rfl) ?_
          refine zr_aload_n dX12_change_196 rfl ?_
          refine zr_dup dX12_change_197 rfl ?_
          refine zr_getI dX12_change_198 lkX12_88 (by decide) (by decide) rfl (hL5.K 38 13) ?_
          refine zr_as (y := (nI ((Sb (aS A)).length + 1 + 1 + (aK A).length + 1))) g5 ?_
          refine zr_aload_n dX12_change_201 rfl ?_
          refine zr_getI dX12_change_202 lkX12_97 (by decide) (by decide) rfl (hL5.K 38 13) ?_
          refine zr_as (y := (nI ((aV A).length))) q5 ?_
          refine zr_iaddN dX12_change_205 ?_
          refine zr_putI dX12_change_206 lkX12_88 (by decide) (by decide) rfl rfl (hL5.K 38 13) ?_
          obtain ⟨M6, e6⟩ : ∃ z, z = (zput (zsetA M5 (ad 45) (va_cpy (zA M5 (ad 40)) (zA M5 (ad 45)) 0 ((Sb (aS A)).length + 1 + 1 + (aK A).length + 1) (aV A).length)) 396 (ad 38) (nI (((Sb (aS A)).length + 1 + 1 + (aK A).length + 1) + (aV A).length))) := ⟨_, rfl⟩
          rw [← e6]
          have hF6 : Fl ad 0 [396] [45] [] M5 M6 := by rw [e6]; exact ((Fl.refl ad _ _ _ M5).setA hL5 (i := 45)).put hL5 (f := 396) (i := 38)
          have hL6 := hF6.lay hL5
          have g6 : zI M6 396 (ad 38) = nI ((Sb (aS A)).length + 1 + 1 + (aK A).length + 1 + (aV A).length) := by rw [e6]; exact zput_hit _ _ _ _
          have a6 : zA M6 (ad 45) = va_cpy (zA M5 (ad 40)) (zA M5 (ad 45)) 0 ((Sb (aS A)).length + 1 + 1 + (aK A).length + 1) (aV A).length := by rw [e6]; exact zsetA_hit _ _ _
          have k6 : zA M6 (ad 39) = zA M1 (ad 39) := (hF6.rA (by decide) (by decide)).trans k5
          have v6 : zA M6 (ad 40) = zA M1 (ad 40) := (hF6.rA (by decide) (by decide)).trans v5
          have p6 : zI M6 386 (ad 38) = nI (aK A).length := (hF6.rI (by decide) (by decide)).trans p5
          have q6 : zI M6 387 (ad 38) = nI (aV A).length := (hF6.rI (by decide) (by decide)).trans q5
          have b6 : zI M6 397 (ad 38) = nI (aS A).length := (hF6.rI (by decide) (by decide)).trans b5
          refine zr_aload_n dX12_change_209 rfl ?_
          refine zr_dup dX12_change_210 rfl ?_
          refine zr_getI dX12_change_211 lkX12_85 (by decide) (by decide) rfl (hL6.K 38 13) ?_
          refine zr_as (y := (nI ((aS A).length))) b6 ?_
          refine zr_iconst (v := nI 1) dX12_change_214 (by decide) ?_
          refine zr_iaddN dX12_change_215 ?_
          refine zr_putI dX12_change_216 lkX12_85 (by decide) (by decide) rfl rfl (hL6.K 38 13) ?_
          refine zr_aload_n dX12_change_219 rfl ?_
          refine zr_getI dX12_change_220 lkX12_85 (by decide) (by decide) rfl (hL6.K 38 13) ?_
          refine zr_as (y := (nI ((aS A).length + 1))) (zput_hit _ _ _ _) ?_
          refine zr_iret dX12_change_223 rfl ?_
          obtain ⟨M7, e7⟩ : ∃ z, z = (zput M6 397 (ad 38) (nI ((aS A).length + 1))) := ⟨_, rfl⟩
          rw [← e7]
          have hF7 : Fl ad 0 [397] [] [] M6 M7 := by rw [e7]; exact (Fl.refl ad _ _ _ M6).put hL6 (f := 397) (i := 38)
          have hF16 : Fl ad 0 [396] [45] [] M1 M6 := ((((hF2.trans0 hF3).trans0 hF4).trans0 hF5).trans0 hF6)
          have hF07 : Fl ad 0 [396, 397, 402] [45] [] M M7 := (hF1.mono.trans0 hF16.mono).trans0 hF7.mono
          have e8 : sAdd 1 A = ((aM A, aK A, aV A, (aS A ++ [(1, aK A, if 1 = 1 then aV A else [])]), 1, 0, aW A, aC A, aN A), .inl (some (.int (nI ((aS A).length + 1))))) := by
            unfold sAdd
            rw [if_neg (by omega), if_neg hne, if_pos (by omega)]
          rw [e8]
          have hk1 : Rc (fun i => zA M1 (ad 39) (0 + i)) (aK A) := (tK.fl hF1).2.1.congr (fun i _ => by rw [Nat.zero_add])
          have hv1 : Rc (fun i => zA M1 (ad 40) (0 + i)) (aV A) := (tV.fl hF1).2.1.congr (fun i _ => by rw [Nat.zero_add])
          have hrc := rc_stp (V := aV A) (c0 := 1) (x0 := (vp_nar .byte (Int32.toInt8 (nI 1)).toInt32)) (x1 := (vp_nar .byte (Int32.toInt8 (nI (aK A).length)).toInt32)) (x2 := (vp_nar .byte (Int32.toInt8 (nI (aV A).length)).toInt32)) (tB.fl hF1).2.2.2.2.1 hk1 hv1 (by decide) (zb_nn (by omega)) (zb_nn (by omega))
          have hB7 : TaB ad M7 1 (aS A ++ [(1, aK A, if 1 = 1 then aV A else [])]) := by
            refine ⟨(hF07.rI (by decide) (by decide)).trans (tB.1.trans (by rw [show aO A = 1 by omega])), by decide, ?_, ?_, ?_, ?_, ?_⟩
            · rw [e7, List.length_append]; exact zput_hit _ _ _ _
            · rw [hF7.rI (by decide) (by decide), g6, Sb_sl]
              congr 1
              show _ = _ + (3 + (aK A).length + (aV A).length)
              omega
            · rw [hF7.rA (i := 45) (by decide) (by decide), a6, a5, v5, a4, k3, a3, a2, Sb_app, Sb_cons]
              have ez : sb (1, aK A, if 1 = 1 then aV A else []) ++ Sb [] = 1 :: ((aK A).length :: (aK A ++ ((aV A).length :: aV A))) := List.append_nil _
              rw [ez]
              exact hrc
            · intro s hs
              rcases List.mem_append.mp hs with z | z
              · exact tB.2.2.2.2.2.1 s z
              · rw [List.mem_singleton.mp z]; exact ⟨Or.inl rfl, tK.2.2, tV.2.2⟩
            · rw [List.length_append]; show (aS A).length + 1 ≤ 64; omega
          exact ⟨⟨hF07.lay hL, tK.fl hF07, tV.fl hF07, tM.fl hF07, tS.fl hF07, hB7, by have z := tX.fl hF07; rw [hf0] at z; exact z⟩, hF07.mono, (hF7.rI (by decide) (by decide)).trans ((hF16.rI (by decide) (by decide)).trans g1_402), rfl⟩
      · refine zr_aload_n dX12_change_30 rfl ?_
        refine zr_getI dX12_change_31 lkX12_85 (by decide) (by decide) rfl (hL.K 38 13) ?_
        refine zr_as (y := (nI ((aS A).length))) tB.2.2.1 ?_
        refine zr_bipush (v := nI 64) dX12_change_34 (by decide) ?_
        refine zr_icmp_neN 43 dX12_change_36 (by decide) (by omega) (by decide) (fun h36 => ?_) (fun h36 => ?_)
        · refine zr_iconst (v := nI 0) dX12_change_43 (by decide) ?_
          refine zr_putI dX12_change_44 lkX12_38 (by decide) (by decide) rfl rfl (hL.K 38 13) ?_
          refine zr_aload_n dX12_change_47 rfl ?_
          refine zr_getI dX12_change_48 lkX12_38 (by decide) (by decide) rfl (hL.K 38 13) ?_
          refine zr_as (y := (nI 0)) (zput_hit _ _ _ _) ?_
          refine zr_if_leN 56 dX12_change_51 (by decide) (by decide) (fun h51 => ?_) (fun h51 => absurd h51 (by decide))
          obtain ⟨M1, e1⟩ : ∃ z, z = (zput M 402 (ad 38) (nI 0)) := ⟨_, rfl⟩
          rw [← e1]
          have hF1 : Fl ad 0 [402] [] [] M M1 := by rw [e1]; exact ((Fl.refl ad _ _ _ M).put hL (f := 402) (i := 38))
          have g1_402 : zI M1 402 (ad 38) = (nI 0) := by rw [e1]; exact zput_hit _ _ _ _
          have hT1 : Ta ad M1 A := by rw [e1]; exact hT.t402
          have hL1 := hT1.1
          have hcb1 := hF1.cb hcb
          have tM1 := tM.fl hF1
          have hf0 : aF A = 0 := by omega
          have hne : aK A ≠ [] := fun z => h16 (by rw [z]; rfl)
          have p1 := (tK.fl hF1).1
          have q1 := (tV.fl hF1).1
          have g1 := (tB.fl hF1).2.2.2.1
          have b1 := (tB.fl hF1).2.2.1
          refine zr_aload_n dX12_change_56 rfl ?_
          refine zr_getI dX12_change_57 lkX12_82 (by decide) (by decide) rfl (hL1.K 38 13) ?_
          refine zr_as (y := (nI (aO A))) (tB.fl hF1).1 ?_
          refine zr_if_eqN 224 dX12_change_60 (by decide) (by omega) (fun h60 => ?_) (fun h60 => ?_)
          · refine zr_aload_n dX12_change_224 rfl ?_
            refine zr_callV (md' := mX12_begun) (As := []) dX12_change_225 mlX12_100 okX12_begun rfl inX12_begun slX12_begun (by decide) (hL1.K 38 13) rfl (by omega) (Nat.le_of_ble_eq_true rfl) hcb1 (c_begun (d := d - 1) (by omega) hcb1 hL1 tM1) (fun k M1 h => by cases h.1) (fun v M2 hq => ?_)
            obtain ⟨e0, hF2, hN2⟩ := hq
            cases e0
            have hL2 := hF2.lay hL1
            have hcb2 := hF2.cb hcb1
            have hF02 : Fl ad 0 [392, 402] [42] [] M M2 := hF1.mono.trans0 hF2.mono
            have tK2 := tK.fl hF02
            have tV2 := tV.fl hF02
            have hml2 : (Mb (aM A)).length + 300 ≤ 70000 := by omega
            have hkr : ∀ M' : zM, Fl ad 0 [392] [42] [] M2 M' → zA M' (ad 39) = zA M2 (ad 39) := fun M' hF => hF.rA (by decide) (by decide)
            have hvr : ∀ M' : zM, Fl ad 0 [392] [42] [] M2 M' → zA M' (ad 40) = zA M2 (ad 40) := fun M' hF => hF.rA (by decide) (by decide)
            have hk2 : Rc (fun i => zA M2 (ad 39) (0 + i)) (aK A) := tK2.2.1.congr (fun i _ => by rw [Nat.zero_add])
            have hv2 : Rc (fun i => zA M2 (ad 40) (0 + i)) (aV A) := tV2.2.1.congr (fun i _ => by rw [Nat.zero_add])
            refine zr_aload_n dX12_change_228 rfl ?_
            refine zr_aload_n dX12_change_229 rfl ?_
            refine zr_getR dX12_change_230 lkX12_9 (by decide) (by decide) rfl (hL2.K 38 13) (hL2.R 384 38 39) ?_
            refine zr_iconst (v := nI 0) dX12_change_233 (by decide) ?_
            refine zr_aload_n dX12_change_234 rfl ?_
            refine zr_getI dX12_change_235 lkX12_94 (by decide) (by decide) rfl (hL2.K 38 13) ?_
            refine zr_as (y := (nI ((aK A).length))) tK2.1 ?_
            refine zr_aload_n dX12_change_238 rfl ?_
            refine zr_getR dX12_change_239 lkX12_13 (by decide) (by decide) rfl (hL2.K 38 13) (hL2.R 385 38 40) ?_
            refine zr_iload_n dX12_change_242 rfl ?_
            refine zr_if_eq 250 dX12_change_243 (by decide) (fun h243 => absurd h243 (by decide)) (fun h243 => ?_)
            refine zr_iconst (v := nI 0) dX12_change_246 (by decide) ?_
            refine zr_goto 251 dX12_change_247 (by decide) ?_
            refine zr_aload_n dX12_change_251 rfl ?_
            refine zr_getI dX12_change_252 lkX12_97 (by decide) (by decide) rfl (hL2.K 38 13) ?_
            refine zr_as (y := (nI ((aV A).length))) tV2.1 ?_
            refine zr_callV (md' := mX12_set) (As := [.ref ((ad 39)), .int (nI 0), .int (nI ((aK A).length)), .ref ((ad 40)), .int (nI 0), .int (nI ((aV A).length))]) dX12_change_255 mlX12_103 okX12_set rfl inX12_set slX12_set (by decide) (hL2.K 38 13) rfl (by omega) (Nat.le_of_ble_eq_true rfl) hcb2 (c_setS (d := d - 1) (kk := aK A) (V := aV A) (by omega) hcb2 hL2 (Rw8.k hL2).1 (hL2.ne (by decide)) hkr hk2 (by omega) tK2.2.2 hN2 tM.2.2.shr tM.2.2.1 hml2 (Rw8.k hL2).2.1 (hL2.ne (by decide)) hvr hv2 (by omega) tV2.2.2) (fun k M1 h => by cases h.1) (fun v M3 hq => ?_)
            obtain ⟨e0, hF3, m3, hm3, hN3⟩ := hq
            cases e0
            have em3 : m3 = (mset (aM A) [(1, aK A, if 1 = 1 then aV A else [])]) := mset_step (ss := []) tM.2.2.1 (by rw [mset_nil _ tM.2.2.1]; exact hm3)
            subst em3
            have hL3 := hF3.lay hL2
            have hcb3 := hF3.cb hcb2
            have hF03 : Fl ad 0 [392, 402] [42] [] M M3 := hF02.trans0 hF3.mono
            have ho0 : aO A = 0 := by omega
            obtain ⟨h160, hMw⟩ := hpm hf0 ho0 hne
            have hmb := hMw.mb (Nat.le_refl _)
            have hT3 : Ta ad M3 A := ⟨hL3, tK.fl hF03, tV.fl hF03, tM.fl hF03, tS.fl hF03, tB.fl hF03, tX.fl hF03⟩
            have g3 : zI M3 402 (ad 38) = nI 0 := (hF3.rI (by decide) (by decide)).trans ((hF2.rI (by decide) (by decide)).trans g1_402)
            refine zr_aload_n dX12_change_258 rfl ?_
            refine zr_getR dX12_change_259 lkX12_20 (by decide) (by decide) rfl (hL3.K 38 13) (hL3.R 389 38 42) ?_
            refine zr_iconst (v := nI 0) dX12_change_262 (by decide) ?_
            refine zr_aload_n dX12_change_263 rfl ?_
            refine zr_getI dX12_change_264 lkX12_45 (by decide) (by decide) rfl (hL3.K 38 13) ?_
            refine zr_as (y := (nI ((Mb (mset (aM A) [(1, aK A, if 1 = 1 then aV A else [])])).length))) hN3.1 ?_
            refine zr_callS (md' := mX12_size) (As := [.ref ((ad 42)), .int (nI 0), .int (nI ((Mb (mset (aM A) [(1, aK A, if 1 = 1 then aV A else [])])).length))]) dX12_change_267 mlX12_71 okX12_size rfl stX12_size rfl (by omega) (Nat.le_of_ble_eq_true rfl) hcb3 (c_size (d := d - 1) (m := (mset (aM A) [(1, aK A, if 1 = 1 then aV A else [])])) (by omega) hcb3 (Rw8.k hL3).2.2.2.1 hN3.ma hMw.shr (by omega)) (fun k M1 h => by cases h.1) (fun v M9 hq => ?_)
            obtain ⟨e0, e9⟩ := hq
            cases e0
            rw [e9]
            refine zr_sipush (v := nI 16000) dX12_change_270 (by decide) ?_
            refine zr_icmp_leN 283 dX12_change_273 (by decide) (by omega) (by decide) (fun h273 => ?_) (fun h273 => ?_)
            · refine zr_aload_n dX12_change_283 rfl ?_
              refine zr_callV (md' := mX12_done) (As := []) dX12_change_284 mlX12_107 okX12_done rfl inX12_done slX12_done (by decide) (hL3.K 38 13) rfl (by omega) (Nat.le_of_ble_eq_true rfl) hcb3 (c_done (d := d - 1) (A := A) (m1 := (mset (aM A) [(1, aK A, if 1 = 1 then aV A else [])])) (by omega) hcb3 hT3 hN3 hMw) (fun k M9 h => by obtain ⟨_, ⟨_, h, _⟩ | ⟨_, h, _⟩ | ⟨_, h, _⟩⟩ := h <;> cases h) (fun v9 M6 hq => ?_)
              obtain ⟨hF6, hd9⟩ := hq
              have ez : sAdd 1 A = sFin A [(1, aK A, if 1 = 1 then aV A else [])] := by
                unfold sAdd
                rw [if_neg (by omega), if_neg hne, if_neg (by omega)]
              have hs0 : aS A = [] := hs9 ho0
              have FT : Fl ad 0 LM LMA [] M M6 := (hF03.mono : Fl ad 0 LM LMA [] M M3).trans0 hF6
              rcases hd9 with ⟨hw, e0, hT6, g6⟩ | ⟨hw, e0, hT6, g6⟩ | ⟨hw, e0, hT6, g6⟩
              · cases e0
                refine zr_iret dX12_change_287 rfl ?_
                have e8 : sAdd 1 A = (fell A, .inr 2) := by
                  rw [ez]
                  unfold sFin
                  rw [if_pos hw]
                rw [e8]
                exact ⟨hT6, FT, g6, rfl⟩
              · cases e0
                refine zr_iret dX12_change_287 rfl ?_
                have e8 : sAdd 1 A = (fell ((mset (aM A) [(1, aK A, if 1 = 1 then aV A else [])]), aK A, aV A, aS A, aO A, aF A, aW A, aC A + 1, aN A), .inr 2) := by
                  rw [ez]
                  unfold sFin
                  rw [if_neg (by omega), if_pos hw]
                rw [e8]
                exact ⟨hT6, FT, g6, rfl⟩
              · cases e0
                refine zr_iret dX12_change_287 rfl ?_
                have e8 : sAdd 1 A = (((mset (aM A) [(1, aK A, if 1 = 1 then aV A else [])]), aK A, aV A, [], 0, 0, aW A, aC A + 1, aN A), .inl (some (.int (nI (msz (mset (aM A) [(1, aK A, if 1 = 1 then aV A else [])])))))) := by
                  rw [ez]
                  unfold sFin
                  rw [if_neg (by omega), if_neg (by omega)]
                rw [e8]
                rw [hf0, ho0, hs0] at hT6
                exact ⟨hT6, FT, g6.trans g3, rfl⟩
            · refine zr_aload_n dX12_change_276 rfl ?_
              refine zr_iconst (v := nI 1) dX12_change_277 (by decide) ?_
              refine zr_putI dX12_change_278 lkX12_38 (by decide) (by decide) rfl rfl (hL3.K 38 13) ?_
              refine zr_iconst (v := nI 0) dX12_change_281 (by decide) ?_
              refine zr_iret dX12_change_282 rfl ?_
              exfalso; omega
          · refine zr_aload_n dX12_change_63 rfl ?_
            refine zr_getR dX12_change_64 lkX12_31 (by decide) (by decide) rfl (hL1.K 38 13) (hL1.R 395 38 45) ?_
            refine zr_aload_n dX12_change_67 rfl ?_
            refine zr_dup dX12_change_68 rfl ?_
            refine zr_getI dX12_change_69 lkX12_88 (by decide) (by decide) rfl (hL1.K 38 13) ?_
            refine zr_as (y := (nI ((Sb (aS A)).length))) g1 ?_
            refine zr_dup_x1 dX12_change_72 rfl rfl ?_
            refine zr_iconst (v := nI 1) dX12_change_73 (by decide) ?_
            refine zr_iaddN dX12_change_74 ?_
            refine zr_putI dX12_change_75 lkX12_88 (by decide) (by decide) rfl rfl (hL1.K 38 13) ?_
            refine zr_iload_n dX12_change_78 rfl ?_
            refine zr_if_eq 86 dX12_change_79 (by decide) (fun h79 => absurd h79 (by decide)) (fun h79 => ?_)
            refine zr_iconst (v := nI 1) dX12_change_82 (by decide) ?_
            refine zr_goto 87 dX12_change_83 (by decide) ?_
            refine zr_i2b dX12_change_87 ?_
            refine zr_bastN dX12_change_88 (hL1.K 45 14) (hL1.N 45 15360) (by omega) (by omega) ?_
            obtain ⟨M2, e2⟩ : ∃ z, z = (zsetA (zput M1 396 (ad 38) (nI ((Sb (aS A)).length + 1))) (ad 45) (upd (zA (zput M1 396 (ad 38) (nI ((Sb (aS A)).length + 1))) (ad 45)) (Sb (aS A)).length (vp_nar .byte (Int32.toInt8 (nI 1)).toInt32))) := ⟨_, rfl⟩
            rw [← e2]
            have hF2 : Fl ad 0 [396] [45] [] M1 M2 := by rw [e2]; exact ((Fl.refl ad _ _ _ M1).put hL1 (f := 396) (i := 38)).setA hL1 (i := 45)
            have hL2 := hF2.lay hL1
            have g2 : zI M2 396 (ad 38) = nI ((Sb (aS A)).length + 1) := by rw [e2]; exact zput_hit _ _ _ _
            have a2 : zA M2 (ad 45) = upd (zA M1 (ad 45)) (Sb (aS A)).length (vp_nar .byte (Int32.toInt8 (nI 1)).toInt32) := by rw [e2]; exact zsetA_hit _ _ _
            have k2 : zA M2 (ad 39) = zA M1 (ad 39) := hF2.rA (by decide) (by decide)
            have v2 : zA M2 (ad 40) = zA M1 (ad 40) := hF2.rA (by decide) (by decide)
            have p2 : zI M2 386 (ad 38) = nI (aK A).length := (hF2.rI (by decide) (by decide)).trans p1
            have q2 : zI M2 387 (ad 38) = nI (aV A).length := (hF2.rI (by decide) (by decide)).trans q1
            have b2 : zI M2 397 (ad 38) = nI (aS A).length := (hF2.rI (by decide) (by decide)).trans b1
            refine zr_aload_n dX12_change_89 rfl ?_
            refine zr_getR dX12_change_90 lkX12_31 (by decide) (by decide) rfl (hL2.K 38 13) (hL2.R 395 38 45) ?_
            refine zr_aload_n dX12_change_93 rfl ?_
            refine zr_dup dX12_change_94 rfl ?_
            refine zr_getI dX12_change_95 lkX12_88 (by decide) (by decide) rfl (hL2.K 38 13) ?_
            refine zr_as (y := (nI ((Sb (aS A)).length + 1))) g2 ?_
            refine zr_dup_x1 dX12_change_98 rfl rfl ?_
            refine zr_iconst (v := nI 1) dX12_change_99 (by decide) ?_
            refine zr_iaddN dX12_change_100 ?_
            refine zr_putI dX12_change_101 lkX12_88 (by decide) (by decide) rfl rfl (hL2.K 38 13) ?_
            refine zr_aload_n dX12_change_104 rfl ?_
            refine zr_getI dX12_change_105 lkX12_94 (by decide) (by decide) rfl (hL2.K 38 13) ?_
            refine zr_as (y := (nI ((aK A).length))) (zput_ms (by decide) p2) ?_
            refine zr_i2b dX12_change_108 ?_
            refine zr_bastN dX12_change_109 (hL2.K 45 14) (hL2.N 45 15360) (by omega) (by omega) ?_
            obtain ⟨M3, e3⟩ : ∃ z, z = (zsetA (zput M2 396 (ad 38) (nI (((Sb (aS A)).length + 1) + 1))) (ad 45) (upd (zA (zput M2 396 (ad 38) (nI (((Sb (aS A)).length + 1) + 1))) (ad 45)) ((Sb (aS A)).length + 1) (vp_nar .byte (Int32.toInt8 (nI ((aK A).length))).toInt32))) := ⟨_, rfl⟩
            rw [← e3]
            have hF3 : Fl ad 0 [396] [45] [] M2 M3 := by rw [e3]; exact ((Fl.refl ad _ _ _ M2).put hL2 (f := 396) (i := 38)).setA hL2 (i := 45)
            have hL3 := hF3.lay hL2
            have g3 : zI M3 396 (ad 38) = nI ((Sb (aS A)).length + 1 + 1) := by rw [e3]; exact zput_hit _ _ _ _
            have a3 : zA M3 (ad 45) = upd (zA M2 (ad 45)) ((Sb (aS A)).length + 1) (vp_nar .byte (Int32.toInt8 (nI (aK A).length)).toInt32) := by rw [e3]; exact zsetA_hit _ _ _
            have k3 : zA M3 (ad 39) = zA M1 (ad 39) := (hF3.rA (by decide) (by decide)).trans k2
            have v3 : zA M3 (ad 40) = zA M1 (ad 40) := (hF3.rA (by decide) (by decide)).trans v2
            have p3 : zI M3 386 (ad 38) = nI (aK A).length := (hF3.rI (by decide) (by decide)).trans p2
            have q3 : zI M3 387 (ad 38) = nI (aV A).length := (hF3.rI (by decide) (by decide)).trans q2
            have b3 : zI M3 397 (ad 38) = nI (aS A).length := (hF3.rI (by decide) (by decide)).trans b2
            refine zr_aload_n dX12_change_110 rfl ?_
            refine zr_getR dX12_change_111 lkX12_9 (by decide) (by decide) rfl (hL3.K 38 13) (hL3.R 384 38 39) ?_
            refine zr_iconst (v := nI 0) dX12_change_114 (by decide) ?_
            refine zr_aload_n dX12_change_115 rfl ?_
            refine zr_getR dX12_change_116 lkX12_31 (by decide) (by decide) rfl (hL3.K 38 13) (hL3.R 395 38 45) ?_
            refine zr_aload_n dX12_change_119 rfl ?_
            refine zr_getI dX12_change_120 lkX12_88 (by decide) (by decide) rfl (hL3.K 38 13) ?_
            refine zr_as (y := (nI ((Sb (aS A)).length + 1 + 1))) g3 ?_
            refine zr_aload_n dX12_change_123 rfl ?_
            refine zr_getI dX12_change_124 lkX12_94 (by decide) (by decide) rfl (hL3.K 38 13) ?_
            refine zr_as (y := (nI ((aK A).length))) p3 ?_
            refine zr_copyN dX12_change_127 mlX12_52 (Or.inl ⟨(hL3.K 39 14), (hL3.K 45 14)⟩) (hL3.N 39 32) (hL3.N 45 15360) (by omega) (by omega) (by omega) (by omega) (by omega) (Nat.le_of_ble_eq_true rfl) ?_
            refine zr_aload_n dX12_change_130 rfl ?_
            refine zr_dup dX12_change_131 rfl ?_
            refine zr_getI dX12_change_132 lkX12_88 (by decide) (by decide) rfl (hL3.K 38 13) ?_
            refine zr_as (y := (nI ((Sb (aS A)).length + 1 + 1))) g3 ?_
            refine zr_aload_n dX12_change_135 rfl ?_
            refine zr_getI dX12_change_136 lkX12_94 (by decide) (by decide) rfl (hL3.K 38 13) ?_
            refine zr_as (y := (nI ((aK A).length))) p3 ?_
            refine zr_iaddN dX12_change_139 ?_
            refine zr_putI dX12_change_140 lkX12_88 (by decide) (by decide) rfl rfl (hL3.K 38 13) ?_
            obtain ⟨M4, e4⟩ : ∃ z, z = (zput (zsetA M3 (ad 45) (va_cpy (zA M3 (ad 39)) (zA M3 (ad 45)) 0 ((Sb (aS A)).length + 1 + 1) (aK A).length)) 396 (ad 38) (nI (((Sb (aS A)).length + 1 + 1) + (aK A).length))) := ⟨_, rfl⟩
            rw [← e4]
            have hF4 : Fl ad 0 [396] [45] [] M3 M4 := by rw [e4]; exact ((Fl.refl ad _ _ _ M3).setA hL3 (i := 45)).put hL3 (f := 396) (i := 38)
            have hL4 := hF4.lay hL3
            have g4 : zI M4 396 (ad 38) = nI ((Sb (aS A)).length + 1 + 1 + (aK A).length) := by rw [e4]; exact zput_hit _ _ _ _
            have a4 : zA M4 (ad 45) = va_cpy (zA M3 (ad 39)) (zA M3 (ad 45)) 0 ((Sb (aS A)).length + 1 + 1) (aK A).length := by rw [e4]; exact zsetA_hit _ _ _
            have k4 : zA M4 (ad 39) = zA M1 (ad 39) := (hF4.rA (by decide) (by decide)).trans k3
            have v4 : zA M4 (ad 40) = zA M1 (ad 40) := (hF4.rA (by decide) (by decide)).trans v3
            have p4 : zI M4 386 (ad 38) = nI (aK A).length := (hF4.rI (by decide) (by decide)).trans p3
            have q4 : zI M4 387 (ad 38) = nI (aV A).length := (hF4.rI (by decide) (by decide)).trans q3
            have b4 : zI M4 397 (ad 38) = nI (aS A).length := (hF4.rI (by decide) (by decide)).trans b3
            refine zr_aload_n dX12_change_143 rfl ?_
            refine zr_getR dX12_change_144 lkX12_31 (by decide) (by decide) rfl (hL4.K 38 13) (hL4.R 395 38 45) ?_
            refine zr_aload_n dX12_change_147 rfl ?_
            refine zr_dup dX12_change_148 rfl ?_
            refine zr_getI dX12_change_149 lkX12_88 (by decide) (by decide) rfl (hL4.K 38 13) ?_
            refine zr_as (y := (nI ((Sb (aS A)).length + 1 + 1 + (aK A).length))) g4 ?_
            refine zr_dup_x1 dX12_change_152 rfl rfl ?_
            refine zr_iconst (v := nI 1) dX12_change_153 (by decide) ?_
            refine zr_iaddN dX12_change_154 ?_
            refine zr_putI dX12_change_155 lkX12_88 (by decide) (by decide) rfl rfl (hL4.K 38 13) ?_
            refine zr_iload_n dX12_change_158 rfl ?_
            refine zr_if_eq 169 dX12_change_159 (by decide) (fun h159 => absurd h159 (by decide)) (fun h159 => ?_)
            refine zr_aload_n dX12_change_162 rfl ?_
            refine zr_getI dX12_change_163 lkX12_97 (by decide) (by decide) rfl (hL4.K 38 13) ?_
            refine zr_as (y := (nI ((aV A).length))) (zput_ms (by decide) q4) ?_
            refine zr_goto 170 dX12_change_166 (by decide) ?_
            refine zr_i2b dX12_change_170 ?_
            refine zr_bastN dX12_change_171 (hL4.K 45 14) (hL4.N 45 15360) (by omega) (by omega) ?_
            obtain ⟨M5, e5⟩ : ∃ z, z = (zsetA (zput M4 396 (ad 38) (nI (((Sb (aS A)).length + 1 + 1 + (aK A).length) + 1))) (ad 45) (upd (zA (zput M4 396 (ad 38) (nI (((Sb (aS A)).length + 1 + 1 + (aK A).length) + 1))) (ad 45)) ((Sb (aS A)).length + 1 + 1 + (aK A).length) (vp_nar .byte (Int32.toInt8 (nI ((aV A).length))).toInt32))) := ⟨_, rfl⟩
            rw [← e5]
            have hF5 : Fl ad 0 [396] [45] [] M4 M5 := by rw [e5]; exact ((Fl.refl ad _ _ _ M4).put hL4 (f := 396) (i := 38)).setA hL4 (i := 45)
            have hL5 := hF5.lay hL4
            have g5 : zI M5 396 (ad 38) = nI ((Sb (aS A)).length + 1 + 1 + (aK A).length + 1) := by rw [e5]; exact zput_hit _ _ _ _
            have a5 : zA M5 (ad 45) = upd (zA M4 (ad 45)) ((Sb (aS A)).length + 1 + 1 + (aK A).length) (vp_nar .byte (Int32.toInt8 (nI (aV A).length)).toInt32) := by rw [e5]; exact zsetA_hit _ _ _
            have k5 : zA M5 (ad 39) = zA M1 (ad 39) := (hF5.rA (by decide) (by decide)).trans k4
            have v5 : zA M5 (ad 40) = zA M1 (ad 40) := (hF5.rA (by decide) (by decide)).trans v4
            have p5 : zI M5 386 (ad 38) = nI (aK A).length := (hF5.rI (by decide) (by decide)).trans p4
            have q5 : zI M5 387 (ad 38) = nI (aV A).length := (hF5.rI (by decide) (by decide)).trans q4
            have b5 : zI M5 397 (ad 38) = nI (aS A).length := (hF5.rI (by decide) (by decide)).trans b4
            refine zr_iload_n dX12_change_172 rfl ?_
            refine zr_if_eq 209 dX12_change_173 (by decide) (fun h173 => absurd h173 (by decide)) (fun h173 => ?_)
            refine zr_aload_n dX12_change_176 rfl ?_
            refine zr_getR dX12_change_177 lkX12_13 (by decide) (by decide) rfl (hL5.K 38 13) (hL5.R 385 38 40) ?_
            refine zr_iconst (v := nI 0) dX12_change_180 (by decide) ?_
            refine zr_aload_n dX12_change_181 rfl ?_
            refine zr_getR dX12_change_182 lkX12_31 (by decide) (by decide) rfl (hL5.K 38 13) (hL5.R 395 38 45) ?_
            refine zr_aload_n dX12_change_185 rfl ?_
            refine zr_getI dX12_change_186 lkX12_88 (by decide) (by decide) rfl (hL5.K 38 13) ?_
            refine zr_as (y := (nI ((Sb (aS A)).length + 1 + 1 + (aK A).length + 1))) g5 ?_
            refine zr_aload_n dX12_change_189 rfl ?_
            refine zr_getI dX12_change_190 lkX12_97 (by decide) (by decide) rfl (hL5.K 38 13) ?_
            refine zr_as (y := (nI ((aV A).length))) q5 ?_
            refine zr_copyN dX12_change_193 mlX12_52 (Or.inl ⟨(hL5.K 40 14), (hL5.K 45 14)⟩) (hL5.N 40 200) (hL5.N 45 15360) (by omega) (by omega) (by omega) (by omega) (by omega) (Nat.le_of_ble_eq_true rfl) ?_
            refine zr_aload_n dX12_change_196 rfl ?_
            refine zr_dup dX12_change_197 rfl ?_
            refine zr_getI dX12_change_198 lkX12_88 (by decide) (by decide) rfl (hL5.K 38 13) ?_
            refine zr_as (y := (nI ((Sb (aS A)).length + 1 + 1 + (aK A).length + 1))) g5 ?_
            refine zr_aload_n dX12_change_201 rfl ?_
            refine zr_getI dX12_change_202 lkX12_97 (by decide) (by decide) rfl (hL5.K 38 13) ?_
            refine zr_as (y := (nI ((aV A).length))) q5 ?_
            refine zr_iaddN dX12_change_205 ?_
            refine zr_putI dX12_change_206 lkX12_88 (by decide) (by decide) rfl rfl (hL5.K 38 13) ?_
            obtain ⟨M6, e6⟩ : ∃ z, z = (zput (zsetA M5 (ad 45) (va_cpy (zA M5 (ad 40)) (zA M5 (ad 45)) 0 ((Sb (aS A)).length + 1 + 1 + (aK A).length + 1) (aV A).length)) 396 (ad 38) (nI (((Sb (aS A)).length + 1 + 1 + (aK A).length + 1) + (aV A).length))) := ⟨_, rfl⟩
            rw [← e6]
            have hF6 : Fl ad 0 [396] [45] [] M5 M6 := by rw [e6]; exact ((Fl.refl ad _ _ _ M5).setA hL5 (i := 45)).put hL5 (f := 396) (i := 38)
            have hL6 := hF6.lay hL5
            have g6 : zI M6 396 (ad 38) = nI ((Sb (aS A)).length + 1 + 1 + (aK A).length + 1 + (aV A).length) := by rw [e6]; exact zput_hit _ _ _ _
            have a6 : zA M6 (ad 45) = va_cpy (zA M5 (ad 40)) (zA M5 (ad 45)) 0 ((Sb (aS A)).length + 1 + 1 + (aK A).length + 1) (aV A).length := by rw [e6]; exact zsetA_hit _ _ _
            have k6 : zA M6 (ad 39) = zA M1 (ad 39) := (hF6.rA (by decide) (by decide)).trans k5
            have v6 : zA M6 (ad 40) = zA M1 (ad 40) := (hF6.rA (by decide) (by decide)).trans v5
            have p6 : zI M6 386 (ad 38) = nI (aK A).length := (hF6.rI (by decide) (by decide)).trans p5
            have q6 : zI M6 387 (ad 38) = nI (aV A).length := (hF6.rI (by decide) (by decide)).trans q5
            have b6 : zI M6 397 (ad 38) = nI (aS A).length := (hF6.rI (by decide) (by decide)).trans b5
            refine zr_aload_n dX12_change_209 rfl ?_
            refine zr_dup dX12_change_210 rfl ?_
            refine zr_getI dX12_change_211 lkX12_85 (by decide) (by decide) rfl (hL6.K 38 13) ?_
            refine zr_as (y := (nI ((aS A).length))) b6 ?_
            refine zr_iconst (v := nI 1) dX12_change_214 (by decide) ?_
            refine zr_iaddN dX12_change_215 ?_
            refine zr_putI dX12_change_216 lkX12_85 (by decide) (by decide) rfl rfl (hL6.K 38 13) ?_
            refine zr_aload_n dX12_change_219 rfl ?_
            refine zr_getI dX12_change_220 lkX12_85 (by decide) (by decide) rfl (hL6.K 38 13) ?_
            refine zr_as (y := (nI ((aS A).length + 1))) (zput_hit _ _ _ _) ?_
            refine zr_iret dX12_change_223 rfl ?_
            obtain ⟨M7, e7⟩ : ∃ z, z = (zput M6 397 (ad 38) (nI ((aS A).length + 1))) := ⟨_, rfl⟩
            rw [← e7]
            have hF7 : Fl ad 0 [397] [] [] M6 M7 := by rw [e7]; exact (Fl.refl ad _ _ _ M6).put hL6 (f := 397) (i := 38)
            have hF16 : Fl ad 0 [396] [45] [] M1 M6 := ((((hF2.trans0 hF3).trans0 hF4).trans0 hF5).trans0 hF6)
            have hF07 : Fl ad 0 [396, 397, 402] [45] [] M M7 := (hF1.mono.trans0 hF16.mono).trans0 hF7.mono
            have e8 : sAdd 1 A = ((aM A, aK A, aV A, (aS A ++ [(1, aK A, if 1 = 1 then aV A else [])]), 1, 0, aW A, aC A, aN A), .inl (some (.int (nI ((aS A).length + 1))))) := by
              unfold sAdd
              rw [if_neg (by omega), if_neg hne, if_pos (by omega)]
            rw [e8]
            have hk1 : Rc (fun i => zA M1 (ad 39) (0 + i)) (aK A) := (tK.fl hF1).2.1.congr (fun i _ => by rw [Nat.zero_add])
            have hv1 : Rc (fun i => zA M1 (ad 40) (0 + i)) (aV A) := (tV.fl hF1).2.1.congr (fun i _ => by rw [Nat.zero_add])
            have hrc := rc_stp (V := aV A) (c0 := 1) (x0 := (vp_nar .byte (Int32.toInt8 (nI 1)).toInt32)) (x1 := (vp_nar .byte (Int32.toInt8 (nI (aK A).length)).toInt32)) (x2 := (vp_nar .byte (Int32.toInt8 (nI (aV A).length)).toInt32)) (tB.fl hF1).2.2.2.2.1 hk1 hv1 (by decide) (zb_nn (by omega)) (zb_nn (by omega))
            have hB7 : TaB ad M7 1 (aS A ++ [(1, aK A, if 1 = 1 then aV A else [])]) := by
              refine ⟨(hF07.rI (by decide) (by decide)).trans (tB.1.trans (by rw [show aO A = 1 by omega])), by decide, ?_, ?_, ?_, ?_, ?_⟩
              · rw [e7, List.length_append]; exact zput_hit _ _ _ _
              · rw [hF7.rI (by decide) (by decide), g6, Sb_sl]
                congr 1
                show _ = _ + (3 + (aK A).length + (aV A).length)
                omega
              · rw [hF7.rA (i := 45) (by decide) (by decide), a6, a5, v5, a4, k3, a3, a2, Sb_app, Sb_cons]
                have ez : sb (1, aK A, if 1 = 1 then aV A else []) ++ Sb [] = 1 :: ((aK A).length :: (aK A ++ ((aV A).length :: aV A))) := List.append_nil _
                rw [ez]
                exact hrc
              · intro s hs
                rcases List.mem_append.mp hs with z | z
                · exact tB.2.2.2.2.2.1 s z
                · rw [List.mem_singleton.mp z]; exact ⟨Or.inl rfl, tK.2.2, tV.2.2⟩
              · rw [List.length_append]; show (aS A).length + 1 ≤ 64; omega
            exact ⟨⟨hF07.lay hL, tK.fl hF07, tV.fl hF07, tM.fl hF07, tS.fl hF07, hB7, by have z := tX.fl hF07; rw [hf0] at z; exact z⟩, hF07.mono, (hF7.rI (by decide) (by decide)).trans ((hF16.rI (by decide) (by decide)).trans g1_402), rfl⟩
        · refine zr_iconst (v := nI 1) dX12_change_39 (by decide) ?_
          refine zr_goto 44 dX12_change_40 (by decide) ?_
          refine zr_putI dX12_change_44 lkX12_38 (by decide) (by decide) rfl rfl (hL.K 38 13) ?_
          refine zr_aload_n dX12_change_47 rfl ?_
          refine zr_getI dX12_change_48 lkX12_38 (by decide) (by decide) rfl (hL.K 38 13) ?_
          refine zr_as (y := (nI 1)) (zput_hit _ _ _ _) ?_
          refine zr_if_leN 56 dX12_change_51 (by decide) (by decide) (fun h51 => absurd h51 (by decide)) (fun h51 => ?_)
          refine zr_iconst (v := nI 0) dX12_change_54 (by decide) ?_
          refine zr_iret dX12_change_55 rfl ?_
          obtain ⟨M9, e9⟩ : ∃ z, z = (zput M 402 (ad 38) (nI 1)) := ⟨_, rfl⟩
          rw [← e9]
          have hF9 : Fl ad 0 [402] [] [] M M9 := by rw [e9]; exact ((Fl.refl ad _ _ _ M).put hL (f := 402) (i := 38))
          have g9_402 : zI M9 402 (ad 38) = (nI 1) := by rw [e9]; exact zput_hit _ _ _ _
          have hf1 : aF A = 1 := by
            by_cases z : aF A = 1
            · exact z
            · exfalso; have := hss (by omega) (by omega); omega
          have e8 : sAdd 1 A = (A, .inr 0) := if_pos hf1
          rw [e8]
          exact ⟨⟨hF9.lay hL, tK.fl hF9, tV.fl hF9, tM.fl hF9, tS.fl hF9, tB.fl hF9, tX.fl hF9⟩, hF9.mono, g9_402, rfl⟩
    · refine zr_iconst (v := nI 2) dX12_change_19 (by decide) ?_
      refine zr_goto 44 dX12_change_20 (by decide) ?_
      refine zr_putI dX12_change_44 lkX12_38 (by decide) (by decide) rfl rfl (hL.K 38 13) ?_
      refine zr_aload_n dX12_change_47 rfl ?_
      refine zr_getI dX12_change_48 lkX12_38 (by decide) (by decide) rfl (hL.K 38 13) ?_
      refine zr_as (y := (nI 2)) (zput_hit _ _ _ _) ?_
      refine zr_if_leN 56 dX12_change_51 (by decide) (by decide) (fun h51 => absurd h51 (by decide)) (fun h51 => ?_)
      refine zr_iconst (v := nI 0) dX12_change_54 (by decide) ?_
      refine zr_iret dX12_change_55 rfl ?_
      obtain ⟨M9, e9⟩ : ∃ z, z = (zput M 402 (ad 38) (nI 2)) := ⟨_, rfl⟩
      rw [← e9]
      have hF9 : Fl ad 0 [402] [] [] M M9 := by rw [e9]; exact ((Fl.refl ad _ _ _ M).put hL (f := 402) (i := 38))
      have g9_402 : zI M9 402 (ad 38) = (nI 2) := by rw [e9]; exact zput_hit _ _ _ _
      have e8 : sAdd 1 A = (A, .inr 1) := by unfold sAdd; rw [if_neg (by omega), if_pos (List.length_eq_zero_iff.mp (by omega))]
      rw [e8]
      exact ⟨⟨hF9.lay hL, tK.fl hF9, tV.fl hF9, tM.fl hF9, tS.fl hF9, tB.fl hF9, tX.fl hF9⟩, hF9.mono, g9_402, rfl⟩
  · refine zr_iconst (v := nI 1) dX12_change_8 (by decide) ?_
    refine zr_goto 44 dX12_change_9 (by decide) ?_
    refine zr_putI dX12_change_44 lkX12_38 (by decide) (by decide) rfl rfl (hL.K 38 13) ?_
    refine zr_aload_n dX12_change_47 rfl ?_
    refine zr_getI dX12_change_48 lkX12_38 (by decide) (by decide) rfl (hL.K 38 13) ?_
    refine zr_as (y := (nI 1)) (zput_hit _ _ _ _) ?_
    refine zr_if_leN 56 dX12_change_51 (by decide) (by decide) (fun h51 => absurd h51 (by decide)) (fun h51 => ?_)
    refine zr_iconst (v := nI 0) dX12_change_54 (by decide) ?_
    refine zr_iret dX12_change_55 rfl ?_
    obtain ⟨M9, e9⟩ : ∃ z, z = (zput M 402 (ad 38) (nI 1)) := ⟨_, rfl⟩
    rw [← e9]
    have hF9 : Fl ad 0 [402] [] [] M M9 := by rw [e9]; exact ((Fl.refl ad _ _ _ M).put hL (f := 402) (i := 38))
    have g9_402 : zI M9 402 (ad 38) = (nI 1) := by rw [e9]; exact zput_hit _ _ _ _
    have hf1 : aF A = 1 := by
      by_cases z : aF A = 1
      · exact z
      · exfalso; have := hss (by omega) (by omega); omega
    have e8 : sAdd 1 A = (A, .inr 0) := if_pos hf1
    rw [e8]
    exact ⟨⟨hF9.lay hL, tK.fl hF9, tV.fl hF9, tM.fl hF9, tS.fl hF9, tB.fl hF9, tX.fl hF9⟩, hF9.mono, g9_402, rfl⟩
set_option maxRecDepth 100000 in
set_option maxHeartbeats 4000000 in
theorem b_put {G : zG} {ad : Nat → Nat} {d : Nat} {A : As} {M : zM} (hd : 6 ≤ d) (hcb : zC M ≤ 600128 ∧ zS M ≤ 7301098) (hT : Ta ad M A) (hss : aF A = 0 → aO A = 1 → (aS A).length < 64) (hs9 : aO A = 0 → aS A = []) (hpm : aF A = 0 → aO A = 0 → aK A ≠ [] → msz (mset (aM A) [(1, aK A, if 1 = 1 then aV A else [])]) ≤ 16000 ∧ Mw 64 (mset (aM A) [(1, aK A, if 1 = 1 then aV A else [])]))  : zMet G mX12_put d [.ref ((ad 38))] M (Mst ad M (sAdd 1 A) cdP (some (.int 0))) := by
  obtain ⟨hL, tK, tV, tM, tS, tB, tX⟩ := id hT
  refine zMet_of (by decide +kernel) (Nat.le_of_ble_eq_true rfl) rfl hcb ?_
  show zw G mX12_put d _ _ _ 0 [some (.ref ((ad 38)))] [] M
  refine zr_aload_n dX12_put_0 rfl ?_
  refine zr_iconst (v := nI 1) dX12_put_1 (by decide) ?_
  refine zr_callV (md' := mX12_change) (As := [.int (nI 1)]) dX12_put_2 mlX12_110 okX12_change rfl inX12_change slX12_change (by decide) (hL.K 38 13) rfl (by omega) (Nat.le_of_ble_eq_true rfl) hcb (b_change1 (d := d - 1) (by omega) hcb hT hss hs9 hpm) (fun k M1 h => by cases h.2.2.2) (fun v9 M1 hq => ?_)
  obtain ⟨x9, hx9⟩ : ∃ x, v9 = some (.int x) := by
    have e0 := Sum.inl.inj hq.2.2.2
    rw [e0]
    unfold sAdd
    split
    · exact ⟨_, rfl⟩
    · split
      · exact ⟨_, rfl⟩
      · split
        · exact ⟨_, rfl⟩
        · unfold sFin
          split
          · exact ⟨_, rfl⟩
          · split <;> exact ⟨_, rfl⟩
  subst hx9
  refine zr_iret dX12_put_5 rfl ?_
  exact hq
set_option maxRecDepth 100000 in
set_option maxHeartbeats 4000000 in
theorem b_change0 {G : zG} {ad : Nat → Nat} {d : Nat} {A : As} {M : zM} (hd : 5 ≤ d) (hcb : zC M ≤ 600128 ∧ zS M ≤ 7301098) (hT : Ta ad M A) (hss : aF A = 0 → aO A = 1 → (aS A).length < 64) (hs9 : aO A = 0 → aS A = []) (hpm : aF A = 0 → aO A = 0 → aK A ≠ [] → msz (mset (aM A) [(2, aK A, if 2 = 1 then aV A else [])]) ≤ 16000 ∧ Mw 64 (mset (aM A) [(2, aK A, if 2 = 1 then aV A else [])]))  : zMet G mX12_change d [.ref ((ad 38)), .int (nI 0)] M (Mst ad M (sAdd 2 A) cdP (some (.int 0))) := by
  obtain ⟨hL, tK, tV, tM, tS, tB, tX⟩ := id hT
  have hbd := hT.bd
  refine zMet_of (by decide +kernel) (Nat.le_of_ble_eq_true rfl) rfl hcb ?_
  show zw G mX12_change d _ _ _ 0 [some (.ref ((ad 38))), some (.int (nI 0))] [] M
  refine zr_aload_n dX12_change_0 rfl ?_
  refine zr_aload_n dX12_change_1 rfl ?_
  refine zr_getI dX12_change_2 lkX12_75 (by decide) (by decide) rfl (hL.K 38 13) ?_
  refine zr_as (y := (nI (aF A))) tX.1 ?_
  refine zr_if_eqN 12 dX12_change_5 (by decide) (by omega) (fun h5 => ?_) (fun h5 => ?_)
  · refine zr_aload_n dX12_change_12 rfl ?_
    refine zr_getI dX12_change_13 lkX12_94 (by decide) (by decide) rfl (hL.K 38 13) ?_
    refine zr_as (y := (nI ((aK A).length))) tK.1 ?_
    refine zr_if_neN 23 dX12_change_16 (by decide) (by omega) (fun h16 => ?_) (fun h16 => ?_)
    · refine zr_aload_n dX12_change_23 rfl ?_
      refine zr_getI dX12_change_24 lkX12_82 (by decide) (by decide) rfl (hL.K 38 13) ?_
      refine zr_as (y := (nI (aO A))) tB.1 ?_
      refine zr_if_eqN 43 dX12_change_27 (by decide) (by omega) (fun h27 => ?_) (fun h27 => ?_)
      · refine zr_iconst (v := nI 0) dX12_change_43 (by decide) ?_
        refine zr_putI dX12_change_44 lkX12_38 (by decide) (by decide) rfl rfl (hL.K 38 13) ?_
        refine zr_aload_n dX12_change_47 rfl ?_
        refine zr_getI dX12_change_48 lkX12_38 (by decide) (by decide) rfl (hL.K 38 13) ?_
        refine zr_as (y := (nI 0)) (zput_hit _ _ _ _) ?_
        refine zr_if_leN 56 dX12_change_51 (by decide) (by decide) (fun h51 => ?_) (fun h51 => absurd h51 (by decide))
        obtain ⟨M1, e1⟩ : ∃ z, z = (zput M 402 (ad 38) (nI 0)) := ⟨_, rfl⟩
        rw [← e1]
        have hF1 : Fl ad 0 [402] [] [] M M1 := by rw [e1]; exact ((Fl.refl ad _ _ _ M).put hL (f := 402) (i := 38))
        have g1_402 : zI M1 402 (ad 38) = (nI 0) := by rw [e1]; exact zput_hit _ _ _ _
        have hT1 : Ta ad M1 A := by rw [e1]; exact hT.t402
        have hL1 := hT1.1
        have hcb1 := hF1.cb hcb
        have tM1 := tM.fl hF1
        have hf0 : aF A = 0 := by omega
        have hne : aK A ≠ [] := fun z => h16 (by rw [z]; rfl)
        have p1 := (tK.fl hF1).1
        have q1 := (tV.fl hF1).1
        have g1 := (tB.fl hF1).2.2.2.1
        have b1 := (tB.fl hF1).2.2.1
        refine zr_aload_n dX12_change_56 rfl ?_
        refine zr_getI dX12_change_57 lkX12_82 (by decide) (by decide) rfl (hL1.K 38 13) ?_
        refine zr_as (y := (nI (aO A))) (tB.fl hF1).1 ?_
        refine zr_if_eqN 224 dX12_change_60 (by decide) (by omega) (fun h60 => ?_) (fun h60 => ?_)
        · refine zr_aload_n dX12_change_224 rfl ?_
          refine zr_callV (md' := mX12_begun) (As := []) dX12_change_225 mlX12_100 okX12_begun rfl inX12_begun slX12_begun (by decide) (hL1.K 38 13) rfl (by omega) (Nat.le_of_ble_eq_true rfl) hcb1 (c_begun (d := d - 1) (by omega) hcb1 hL1 tM1) (fun k M1 h => by cases h.1) (fun v M2 hq => ?_)
          obtain ⟨e0, hF2, hN2⟩ := hq
          cases e0
          have hL2 := hF2.lay hL1
          have hcb2 := hF2.cb hcb1
          have hF02 : Fl ad 0 [392, 402] [42] [] M M2 := hF1.mono.trans0 hF2.mono
          have tK2 := tK.fl hF02
          have tV2 := tV.fl hF02
          have hml2 : (Mb (aM A)).length + 300 ≤ 70000 := by omega
          have hkr : ∀ M' : zM, Fl ad 0 [392] [42] [] M2 M' → zA M' (ad 39) = zA M2 (ad 39) := fun M' hF => hF.rA (by decide) (by decide)
          have hvr : ∀ M' : zM, Fl ad 0 [392] [42] [] M2 M' → zA M' (ad 40) = zA M2 (ad 40) := fun M' hF => hF.rA (by decide) (by decide)
          have hk2 : Rc (fun i => zA M2 (ad 39) (0 + i)) (aK A) := tK2.2.1.congr (fun i _ => by rw [Nat.zero_add])
          have hv2 : Rc (fun i => zA M2 (ad 40) (0 + i)) (aV A) := tV2.2.1.congr (fun i _ => by rw [Nat.zero_add])
          refine zr_aload_n dX12_change_228 rfl ?_
          refine zr_aload_n dX12_change_229 rfl ?_
          refine zr_getR dX12_change_230 lkX12_9 (by decide) (by decide) rfl (hL2.K 38 13) (hL2.R 384 38 39) ?_
          refine zr_iconst (v := nI 0) dX12_change_233 (by decide) ?_
          refine zr_aload_n dX12_change_234 rfl ?_
          refine zr_getI dX12_change_235 lkX12_94 (by decide) (by decide) rfl (hL2.K 38 13) ?_
          refine zr_as (y := (nI ((aK A).length))) tK2.1 ?_
          refine zr_aload_n dX12_change_238 rfl ?_
          refine zr_getR dX12_change_239 lkX12_13 (by decide) (by decide) rfl (hL2.K 38 13) (hL2.R 385 38 40) ?_
          refine zr_iload_n dX12_change_242 rfl ?_
          refine zr_if_eq 250 dX12_change_243 (by decide) (fun h243 => ?_) (fun h243 => absurd rfl h243)
          refine zr_iconst (v := -1) dX12_change_250 (by decide) ?_
          refine zr_aload_n dX12_change_251 rfl ?_
          refine zr_getI dX12_change_252 lkX12_97 (by decide) (by decide) rfl (hL2.K 38 13) ?_
          refine zr_as (y := (nI ((aV A).length))) tV2.1 ?_
          refine zr_callV (md' := mX12_set) (As := [.ref ((ad 39)), .int (nI 0), .int (nI ((aK A).length)), .ref ((ad 40)), .int ((-1)), .int (nI ((aV A).length))]) dX12_change_255 mlX12_103 okX12_set rfl inX12_set slX12_set (by decide) (hL2.K 38 13) rfl (by omega) (Nat.le_of_ble_eq_true rfl) hcb2 (c_setN (d := d - 1) (kk := aK A) (by omega) hcb2 hL2 (Rw8.k hL2).1 hk2 (by omega) tK2.2.2 hN2 tM.2.2.shr tM.2.2.1 hml2) (fun k M1 h => by cases h.1) (fun v M3 hq => ?_)
          obtain ⟨e0, hF3, m3, hm3, hN3⟩ := hq
          cases e0
          have em3 : m3 = (mset (aM A) [(2, aK A, if 2 = 1 then aV A else [])]) := mset_step (ss := []) tM.2.2.1 (by rw [mset_nil _ tM.2.2.1]; exact hm3)
          subst em3
          have hL3 := hF3.lay hL2
          have hcb3 := hF3.cb hcb2
          have hF03 : Fl ad 0 [392, 402] [42] [] M M3 := hF02.trans0 hF3.mono
          have ho0 : aO A = 0 := by omega
          obtain ⟨h160, hMw⟩ := hpm hf0 ho0 hne
          have hmb := hMw.mb (Nat.le_refl _)
          have hT3 : Ta ad M3 A := ⟨hL3, tK.fl hF03, tV.fl hF03, tM.fl hF03, tS.fl hF03, tB.fl hF03, tX.fl hF03⟩
          have g3 : zI M3 402 (ad 38) = nI 0 := (hF3.rI (by decide) (by decide)).trans ((hF2.rI (by decide) (by decide)).trans g1_402)
          refine zr_aload_n dX12_change_258 rfl ?_
          refine zr_getR dX12_change_259 lkX12_20 (by decide) (by decide) rfl (hL3.K 38 13) (hL3.R 389 38 42) ?_
          refine zr_iconst (v := nI 0) dX12_change_262 (by decide) ?_
          refine zr_aload_n dX12_change_263 rfl ?_
          refine zr_getI dX12_change_264 lkX12_45 (by decide) (by decide) rfl (hL3.K 38 13) ?_
          refine zr_as (y := (nI ((Mb (mset (aM A) [(2, aK A, if 2 = 1 then aV A else [])])).length))) hN3.1 ?_
          refine zr_callS (md' := mX12_size) (As := [.ref ((ad 42)), .int (nI 0), .int (nI ((Mb (mset (aM A) [(2, aK A, if 2 = 1 then aV A else [])])).length))]) dX12_change_267 mlX12_71 okX12_size rfl stX12_size rfl (by omega) (Nat.le_of_ble_eq_true rfl) hcb3 (c_size (d := d - 1) (m := (mset (aM A) [(2, aK A, if 2 = 1 then aV A else [])])) (by omega) hcb3 (Rw8.k hL3).2.2.2.1 hN3.ma hMw.shr (by omega)) (fun k M1 h => by cases h.1) (fun v M9 hq => ?_)
          obtain ⟨e0, e9⟩ := hq
          cases e0
          rw [e9]
          refine zr_sipush (v := nI 16000) dX12_change_270 (by decide) ?_
          refine zr_icmp_leN 283 dX12_change_273 (by decide) (by omega) (by decide) (fun h273 => ?_) (fun h273 => ?_)
          · refine zr_aload_n dX12_change_283 rfl ?_
            refine zr_callV (md' := mX12_done) (As := []) dX12_change_284 mlX12_107 okX12_done rfl inX12_done slX12_done (by decide) (hL3.K 38 13) rfl (by omega) (Nat.le_of_ble_eq_true rfl) hcb3 (c_done (d := d - 1) (A := A) (m1 := (mset (aM A) [(2, aK A, if 2 = 1 then aV A else [])])) (by omega) hcb3 hT3 hN3 hMw) (fun k M9 h => by obtain ⟨_, ⟨_, h, _⟩ | ⟨_, h, _⟩ | ⟨_, h, _⟩⟩ := h <;> cases h) (fun v9 M6 hq => ?_)
            obtain ⟨hF6, hd9⟩ := hq
            have ez : sAdd 2 A = sFin A [(2, aK A, if 2 = 1 then aV A else [])] := by
              unfold sAdd
              rw [if_neg (by omega), if_neg hne, if_neg (by omega)]
            have hs0 : aS A = [] := hs9 ho0
            have FT : Fl ad 0 LM LMA [] M M6 := (hF03.mono : Fl ad 0 LM LMA [] M M3).trans0 hF6
            rcases hd9 with ⟨hw, e0, hT6, g6⟩ | ⟨hw, e0, hT6, g6⟩ | ⟨hw, e0, hT6, g6⟩
            · cases e0
              refine zr_iret dX12_change_287 rfl ?_
              have e8 : sAdd 2 A = (fell A, .inr 2) := by
                rw [ez]
                unfold sFin
                rw [if_pos hw]
              rw [e8]
              exact ⟨hT6, FT, g6, rfl⟩
            · cases e0
              refine zr_iret dX12_change_287 rfl ?_
              have e8 : sAdd 2 A = (fell ((mset (aM A) [(2, aK A, if 2 = 1 then aV A else [])]), aK A, aV A, aS A, aO A, aF A, aW A, aC A + 1, aN A), .inr 2) := by
                rw [ez]
                unfold sFin
                rw [if_neg (by omega), if_pos hw]
              rw [e8]
              exact ⟨hT6, FT, g6, rfl⟩
            · cases e0
              refine zr_iret dX12_change_287 rfl ?_
              have e8 : sAdd 2 A = (((mset (aM A) [(2, aK A, if 2 = 1 then aV A else [])]), aK A, aV A, [], 0, 0, aW A, aC A + 1, aN A), .inl (some (.int (nI (msz (mset (aM A) [(2, aK A, if 2 = 1 then aV A else [])])))))) := by
                rw [ez]
                unfold sFin
                rw [if_neg (by omega), if_neg (by omega)]
              rw [e8]
              rw [hf0, ho0, hs0] at hT6
              exact ⟨hT6, FT, g6.trans g3, rfl⟩
          · refine zr_aload_n dX12_change_276 rfl ?_
            refine zr_iconst (v := nI 1) dX12_change_277 (by decide) ?_
            refine zr_putI dX12_change_278 lkX12_38 (by decide) (by decide) rfl rfl (hL3.K 38 13) ?_
            refine zr_iconst (v := nI 0) dX12_change_281 (by decide) ?_
            refine zr_iret dX12_change_282 rfl ?_
            exfalso; omega
        · refine zr_aload_n dX12_change_63 rfl ?_
          refine zr_getR dX12_change_64 lkX12_31 (by decide) (by decide) rfl (hL1.K 38 13) (hL1.R 395 38 45) ?_
          refine zr_aload_n dX12_change_67 rfl ?_
          refine zr_dup dX12_change_68 rfl ?_
          refine zr_getI dX12_change_69 lkX12_88 (by decide) (by decide) rfl (hL1.K 38 13) ?_
          refine zr_as (y := (nI ((Sb (aS A)).length))) g1 ?_
          refine zr_dup_x1 dX12_change_72 rfl rfl ?_
          refine zr_iconst (v := nI 1) dX12_change_73 (by decide) ?_
          refine zr_iaddN dX12_change_74 ?_
          refine zr_putI dX12_change_75 lkX12_88 (by decide) (by decide) rfl rfl (hL1.K 38 13) ?_
          refine zr_iload_n dX12_change_78 rfl ?_
          refine zr_if_eq 86 dX12_change_79 (by decide) (fun h79 => ?_) (fun h79 => absurd rfl h79)
          refine zr_iconst (v := nI 0) dX12_change_86 (by decide) ?_
          refine zr_i2b dX12_change_87 ?_
          refine zr_bastN dX12_change_88 (hL1.K 45 14) (hL1.N 45 15360) (by omega) (by omega) ?_
          obtain ⟨M2, e2⟩ : ∃ z, z = (zsetA (zput M1 396 (ad 38) (nI ((Sb (aS A)).length + 1))) (ad 45) (upd (zA (zput M1 396 (ad 38) (nI ((Sb (aS A)).length + 1))) (ad 45)) (Sb (aS A)).length (vp_nar .byte (Int32.toInt8 (nI 0)).toInt32))) := ⟨_, rfl⟩
          rw [← e2]
          have hF2 : Fl ad 0 [396] [45] [] M1 M2 := by rw [e2]; exact ((Fl.refl ad _ _ _ M1).put hL1 (f := 396) (i := 38)).setA hL1 (i := 45)
          have hL2 := hF2.lay hL1
          have g2 : zI M2 396 (ad 38) = nI ((Sb (aS A)).length + 1) := by rw [e2]; exact zput_hit _ _ _ _
          have a2 : zA M2 (ad 45) = upd (zA M1 (ad 45)) (Sb (aS A)).length (vp_nar .byte (Int32.toInt8 (nI 0)).toInt32) := by rw [e2]; exact zsetA_hit _ _ _
          have k2 : zA M2 (ad 39) = zA M1 (ad 39) := hF2.rA (by decide) (by decide)
          have v2 : zA M2 (ad 40) = zA M1 (ad 40) := hF2.rA (by decide) (by decide)
          have p2 : zI M2 386 (ad 38) = nI (aK A).length := (hF2.rI (by decide) (by decide)).trans p1
          have q2 : zI M2 387 (ad 38) = nI (aV A).length := (hF2.rI (by decide) (by decide)).trans q1
          have b2 : zI M2 397 (ad 38) = nI (aS A).length := (hF2.rI (by decide) (by decide)).trans b1
          refine zr_aload_n dX12_change_89 rfl ?_
          refine zr_getR dX12_change_90 lkX12_31 (by decide) (by decide) rfl (hL2.K 38 13) (hL2.R 395 38 45) ?_
          refine zr_aload_n dX12_change_93 rfl ?_
          refine zr_dup dX12_change_94 rfl ?_
          refine zr_getI dX12_change_95 lkX12_88 (by decide) (by decide) rfl (hL2.K 38 13) ?_
          refine zr_as (y := (nI ((Sb (aS A)).length + 1))) g2 ?_
          refine zr_dup_x1 dX12_change_98 rfl rfl ?_
          refine zr_iconst (v := nI 1) dX12_change_99 (by decide) ?_
          refine zr_iaddN dX12_change_100 ?_
          refine zr_putI dX12_change_101 lkX12_88 (by decide) (by decide) rfl rfl (hL2.K 38 13) ?_
          refine zr_aload_n dX12_change_104 rfl ?_
          refine zr_getI dX12_change_105 lkX12_94 (by decide) (by decide) rfl (hL2.K 38 13) ?_
          refine zr_as (y := (nI ((aK A).length))) (zput_ms (by decide) p2) ?_
          refine zr_i2b dX12_change_108 ?_
          refine zr_bastN dX12_change_109 (hL2.K 45 14) (hL2.N 45 15360) (by omega) (by omega) ?_
          obtain ⟨M3, e3⟩ : ∃ z, z = (zsetA (zput M2 396 (ad 38) (nI (((Sb (aS A)).length + 1) + 1))) (ad 45) (upd (zA (zput M2 396 (ad 38) (nI (((Sb (aS A)).length + 1) + 1))) (ad 45)) ((Sb (aS A)).length + 1) (vp_nar .byte (Int32.toInt8 (nI ((aK A).length))).toInt32))) := ⟨_, rfl⟩
          rw [← e3]
          have hF3 : Fl ad 0 [396] [45] [] M2 M3 := by rw [e3]; exact ((Fl.refl ad _ _ _ M2).put hL2 (f := 396) (i := 38)).setA hL2 (i := 45)
          have hL3 := hF3.lay hL2
          have g3 : zI M3 396 (ad 38) = nI ((Sb (aS A)).length + 1 + 1) := by rw [e3]; exact zput_hit _ _ _ _
          have a3 : zA M3 (ad 45) = upd (zA M2 (ad 45)) ((Sb (aS A)).length + 1) (vp_nar .byte (Int32.toInt8 (nI (aK A).length)).toInt32) := by rw [e3]; exact zsetA_hit _ _ _
          have k3 : zA M3 (ad 39) = zA M1 (ad 39) := (hF3.rA (by decide) (by decide)).trans k2
          have v3 : zA M3 (ad 40) = zA M1 (ad 40) := (hF3.rA (by decide) (by decide)).trans v2
          have p3 : zI M3 386 (ad 38) = nI (aK A).length := (hF3.rI (by decide) (by decide)).trans p2
          have q3 : zI M3 387 (ad 38) = nI (aV A).length := (hF3.rI (by decide) (by decide)).trans q2
          have b3 : zI M3 397 (ad 38) = nI (aS A).length := (hF3.rI (by decide) (by decide)).trans b2
          refine zr_aload_n dX12_change_110 rfl ?_
          refine zr_getR dX12_change_111 lkX12_9 (by decide) (by decide) rfl (hL3.K 38 13) (hL3.R 384 38 39) ?_
          refine zr_iconst (v := nI 0) dX12_change_114 (by decide) ?_
          refine zr_aload_n dX12_change_115 rfl ?_
          refine zr_getR dX12_change_116 lkX12_31 (by decide) (by decide) rfl (hL3.K 38 13) (hL3.R 395 38 45) ?_
          refine zr_aload_n dX12_change_119 rfl ?_
          refine zr_getI dX12_change_120 lkX12_88 (by decide) (by decide) rfl (hL3.K 38 13) ?_
          refine zr_as (y := (nI ((Sb (aS A)).length + 1 + 1))) g3 ?_
          refine zr_aload_n dX12_change_123 rfl ?_
          refine zr_getI dX12_change_124 lkX12_94 (by decide) (by decide) rfl (hL3.K 38 13) ?_
          refine zr_as (y := (nI ((aK A).length))) p3 ?_
          refine zr_copyN dX12_change_127 mlX12_52 (Or.inl ⟨(hL3.K 39 14), (hL3.K 45 14)⟩) (hL3.N 39 32) (hL3.N 45 15360) (by omega) (by omega) (by omega) (by omega) (by omega) (Nat.le_of_ble_eq_true rfl) ?_
          refine zr_aload_n dX12_change_130 rfl ?_
          refine zr_dup dX12_change_131 rfl ?_
          refine zr_getI dX12_change_132 lkX12_88 (by decide) (by decide) rfl (hL3.K 38 13) ?_
          refine zr_as (y := (nI ((Sb (aS A)).length + 1 + 1))) g3 ?_
          refine zr_aload_n dX12_change_135 rfl ?_
          refine zr_getI dX12_change_136 lkX12_94 (by decide) (by decide) rfl (hL3.K 38 13) ?_
          refine zr_as (y := (nI ((aK A).length))) p3 ?_
          refine zr_iaddN dX12_change_139 ?_
          refine zr_putI dX12_change_140 lkX12_88 (by decide) (by decide) rfl rfl (hL3.K 38 13) ?_
          obtain ⟨M4, e4⟩ : ∃ z, z = (zput (zsetA M3 (ad 45) (va_cpy (zA M3 (ad 39)) (zA M3 (ad 45)) 0 ((Sb (aS A)).length + 1 + 1) (aK A).length)) 396 (ad 38) (nI (((Sb (aS A)).length + 1 + 1) + (aK A).length))) := ⟨_, rfl⟩
          rw [← e4]
          have hF4 : Fl ad 0 [396] [45] [] M3 M4 := by rw [e4]; exact ((Fl.refl ad _ _ _ M3).setA hL3 (i := 45)).put hL3 (f := 396) (i := 38)
          have hL4 := hF4.lay hL3
          have g4 : zI M4 396 (ad 38) = nI ((Sb (aS A)).length + 1 + 1 + (aK A).length) := by rw [e4]; exact zput_hit _ _ _ _
          have a4 : zA M4 (ad 45) = va_cpy (zA M3 (ad 39)) (zA M3 (ad 45)) 0 ((Sb (aS A)).length + 1 + 1) (aK A).length := by rw [e4]; exact zsetA_hit _ _ _
          have k4 : zA M4 (ad 39) = zA M1 (ad 39) := (hF4.rA (by decide) (by decide)).trans k3
          have v4 : zA M4 (ad 40) = zA M1 (ad 40) := (hF4.rA (by decide) (by decide)).trans v3
          have p4 : zI M4 386 (ad 38) = nI (aK A).length := (hF4.rI (by decide) (by decide)).trans p3
          have q4 : zI M4 387 (ad 38) = nI (aV A).length := (hF4.rI (by decide) (by decide)).trans q3
          have b4 : zI M4 397 (ad 38) = nI (aS A).length := (hF4.rI (by decide) (by decide)).trans b3
          refine zr_aload_n dX12_change_143 rfl ?_
          refine zr_getR dX12_change_144 lkX12_31 (by decide) (by decide) rfl (hL4.K 38 13) (hL4.R 395 38 45) ?_
          refine zr_aload_n dX12_change_147 rfl ?_
          refine zr_dup dX12_change_148 rfl ?_
          refine zr_getI dX12_change_149 lkX12_88 (by decide) (by decide) rfl (hL4.K 38 13) ?_
          refine zr_as (y := (nI ((Sb (aS A)).length + 1 + 1 + (aK A).length))) g4 ?_
          refine zr_dup_x1 dX12_change_152 rfl rfl ?_
          refine zr_iconst (v := nI 1) dX12_change_153 (by decide) ?_
          refine zr_iaddN dX12_change_154 ?_
          refine zr_putI dX12_change_155 lkX12_88 (by decide) (by decide) rfl rfl (hL4.K 38 13) ?_
          refine zr_iload_n dX12_change_158 rfl ?_
          refine zr_if_eq 169 dX12_change_159 (by decide) (fun h159 => ?_) (fun h159 => absurd rfl h159)
          refine zr_iconst (v := nI 0) dX12_change_169 (by decide) ?_
          refine zr_i2b dX12_change_170 ?_
          refine zr_bastN dX12_change_171 (hL4.K 45 14) (hL4.N 45 15360) (by omega) (by omega) ?_
          obtain ⟨M5, e5⟩ : ∃ z, z = (zsetA (zput M4 396 (ad 38) (nI (((Sb (aS A)).length + 1 + 1 + (aK A).length) + 1))) (ad 45) (upd (zA (zput M4 396 (ad 38) (nI (((Sb (aS A)).length + 1 + 1 + (aK A).length) + 1))) (ad 45)) ((Sb (aS A)).length + 1 + 1 + (aK A).length) (vp_nar .byte (Int32.toInt8 (nI 0)).toInt32))) := ⟨_, rfl⟩
          rw [← e5]
          have hF5 : Fl ad 0 [396] [45] [] M4 M5 := by rw [e5]; exact ((Fl.refl ad _ _ _ M4).put hL4 (f := 396) (i := 38)).setA hL4 (i := 45)
          have hL5 := hF5.lay hL4
          have g5 : zI M5 396 (ad 38) = nI ((Sb (aS A)).length + 1 + 1 + (aK A).length + 1) := by rw [e5]; exact zput_hit _ _ _ _
          have a5 : zA M5 (ad 45) = upd (zA M4 (ad 45)) ((Sb (aS A)).length + 1 + 1 + (aK A).length) (vp_nar .byte (Int32.toInt8 (nI 0)).toInt32) := by rw [e5]; exact zsetA_hit _ _ _
          have k5 : zA M5 (ad 39) = zA M1 (ad 39) := (hF5.rA (by decide) (by decide)).trans k4
          have v5 : zA M5 (ad 40) = zA M1 (ad 40) := (hF5.rA (by decide) (by decide)).trans v4
          have p5 : zI M5 386 (ad 38) = nI (aK A).length := (hF5.rI (by decide) (by decide)).trans p4
          have q5 : zI M5 387 (ad 38) = nI (aV A).length := (hF5.rI (by decide) (by decide)).trans q4
          have b5 : zI M5 397 (ad 38) = nI (aS A).length := (hF5.rI (by decide) (by decide)).trans b4
          refine zr_iload_n dX12_change_172 rfl ?_
          refine zr_if_eq 209 dX12_change_173 (by decide) (fun h173 => ?_) (fun h173 => absurd rfl h173)
          refine zr_aload_n dX12_change_209 rfl ?_
          refine zr_dup dX12_change_210 rfl ?_
          refine zr_getI dX12_change_211 lkX12_85 (by decide) (by decide) rfl (hL5.K 38 13) ?_
          refine zr_as (y := (nI ((aS A).length))) b5 ?_
          refine zr_iconst (v := nI 1) dX12_change_214 (by decide) ?_
          refine zr_iaddN dX12_change_215 ?_
          refine zr_putI dX12_change_216 lkX12_85 (by decide) (by decide) rfl rfl (hL5.K 38 13) ?_
          refine zr_aload_n dX12_change_219 rfl ?_
          refine zr_getI dX12_change_220 lkX12_85 (by decide) (by decide) rfl (hL5.K 38 13) ?_
          refine zr_as (y := (nI ((aS A).length + 1))) (zput_hit _ _ _ _) ?_
          refine zr_iret dX12_change_223 rfl ?_
          obtain ⟨M7, e7⟩ : ∃ z, z = (zput M5 397 (ad 38) (nI ((aS A).length + 1))) := ⟨_, rfl⟩
          rw [← e7]
          have hF7 : Fl ad 0 [397] [] [] M5 M7 := by rw [e7]; exact (Fl.refl ad _ _ _ M5).put hL5 (f := 397) (i := 38)
          have hF16 : Fl ad 0 [396] [45] [] M1 M5 := ((((hF2.trans0 hF3).trans0 hF4).trans0 hF5))
          have hF07 : Fl ad 0 [396, 397, 402] [45] [] M M7 := (hF1.mono.trans0 hF16.mono).trans0 hF7.mono
          have e8 : sAdd 2 A = ((aM A, aK A, aV A, (aS A ++ [(2, aK A, if 2 = 1 then aV A else [])]), 1, 0, aW A, aC A, aN A), .inl (some (.int (nI ((aS A).length + 1))))) := by
            unfold sAdd
            rw [if_neg (by omega), if_neg hne, if_pos (by omega)]
          rw [e8]
          have hk1 : Rc (fun i => zA M1 (ad 39) (0 + i)) (aK A) := (tK.fl hF1).2.1.congr (fun i _ => by rw [Nat.zero_add])
          have hv1 : Rc (fun i => zA M1 (ad 40) (0 + i)) [] := Rc.nil _
          have hrc := rc_stp (V := []) (c0 := 0) (x0 := (vp_nar .byte (Int32.toInt8 (nI 0)).toInt32)) (x1 := (vp_nar .byte (Int32.toInt8 (nI (aK A).length)).toInt32)) (x2 := (vp_nar .byte (Int32.toInt8 (nI 0)).toInt32)) (tB.fl hF1).2.2.2.2.1 hk1 hv1 (by decide) (zb_nn (by omega)) (by decide)
          have hB7 : TaB ad M7 1 (aS A ++ [(2, aK A, if 2 = 1 then aV A else [])]) := by
            refine ⟨(hF07.rI (by decide) (by decide)).trans (tB.1.trans (by rw [show aO A = 1 by omega])), by decide, ?_, ?_, ?_, ?_, ?_⟩
            · rw [e7, List.length_append]; exact zput_hit _ _ _ _
            · rw [hF7.rI (by decide) (by decide), g5, Sb_sl]
              congr 1
              show _ = _ + (3 + (aK A).length + 0)
              omega
            · rw [hF7.rA (i := 45) (by decide) (by decide), a5, a4, k3, a3, a2, Sb_app, Sb_cons]
              have ez : sb (2, aK A, if 2 = 1 then aV A else []) ++ Sb [] = 0 :: ((aK A).length :: (aK A ++ (([]).length :: []))) := List.append_nil _
              rw [ez]
              rw [show ([] : List Nat).length = 0 from rfl, cpy_0] at hrc
              exact hrc
            · intro s hs
              rcases List.mem_append.mp hs with z | z
              · exact tB.2.2.2.2.2.1 s z
              · rw [List.mem_singleton.mp z]; exact ⟨Or.inr ⟨rfl, rfl⟩, tK.2.2, Nat.zero_le _⟩
            · rw [List.length_append]; show (aS A).length + 1 ≤ 64; omega
          exact ⟨⟨hF07.lay hL, tK.fl hF07, tV.fl hF07, tM.fl hF07, tS.fl hF07, hB7, by have z := tX.fl hF07; rw [hf0] at z; exact z⟩, hF07.mono, (hF7.rI (by decide) (by decide)).trans ((hF16.rI (by decide) (by decide)).trans g1_402), rfl⟩
      · refine zr_aload_n dX12_change_30 rfl ?_
        refine zr_getI dX12_change_31 lkX12_85 (by decide) (by decide) rfl (hL.K 38 13) ?_
        refine zr_as (y := (nI ((aS A).length))) tB.2.2.1 ?_
        refine zr_bipush (v := nI 64) dX12_change_34 (by decide) ?_
        refine zr_icmp_neN 43 dX12_change_36 (by decide) (by omega) (by decide) (fun h36 => ?_) (fun h36 => ?_)
        · refine zr_iconst (v := nI 0) dX12_change_43 (by decide) ?_
          refine zr_putI dX12_change_44 lkX12_38 (by decide) (by decide) rfl rfl (hL.K 38 13) ?_
          refine zr_aload_n dX12_change_47 rfl ?_
          refine zr_getI dX12_change_48 lkX12_38 (by decide) (by decide) rfl (hL.K 38 13) ?_
          refine zr_as (y := (nI 0)) (zput_hit _ _ _ _) ?_
          refine zr_if_leN 56 dX12_change_51 (by decide) (by decide) (fun h51 => ?_) (fun h51 => absurd h51 (by decide))
          obtain ⟨M1, e1⟩ : ∃ z, z = (zput M 402 (ad 38) (nI 0)) := ⟨_, rfl⟩
          rw [← e1]
          have hF1 : Fl ad 0 [402] [] [] M M1 := by rw [e1]; exact ((Fl.refl ad _ _ _ M).put hL (f := 402) (i := 38))
          have g1_402 : zI M1 402 (ad 38) = (nI 0) := by rw [e1]; exact zput_hit _ _ _ _
          have hT1 : Ta ad M1 A := by rw [e1]; exact hT.t402
          have hL1 := hT1.1
          have hcb1 := hF1.cb hcb
          have tM1 := tM.fl hF1
          have hf0 : aF A = 0 := by omega
          have hne : aK A ≠ [] := fun z => h16 (by rw [z]; rfl)
          have p1 := (tK.fl hF1).1
          have q1 := (tV.fl hF1).1
          have g1 := (tB.fl hF1).2.2.2.1
          have b1 := (tB.fl hF1).2.2.1
          refine zr_aload_n dX12_change_56 rfl ?_
          refine zr_getI dX12_change_57 lkX12_82 (by decide) (by decide) rfl (hL1.K 38 13) ?_
          refine zr_as (y := (nI (aO A))) (tB.fl hF1).1 ?_
          refine zr_if_eqN 224 dX12_change_60 (by decide) (by omega) (fun h60 => ?_) (fun h60 => ?_)
          · refine zr_aload_n dX12_change_224 rfl ?_
            refine zr_callV (md' := mX12_begun) (As := []) dX12_change_225 mlX12_100 okX12_begun rfl inX12_begun slX12_begun (by decide) (hL1.K 38 13) rfl (by omega) (Nat.le_of_ble_eq_true rfl) hcb1 (c_begun (d := d - 1) (by omega) hcb1 hL1 tM1) (fun k M1 h => by cases h.1) (fun v M2 hq => ?_)
            obtain ⟨e0, hF2, hN2⟩ := hq
            cases e0
            have hL2 := hF2.lay hL1
            have hcb2 := hF2.cb hcb1
            have hF02 : Fl ad 0 [392, 402] [42] [] M M2 := hF1.mono.trans0 hF2.mono
            have tK2 := tK.fl hF02
            have tV2 := tV.fl hF02
            have hml2 : (Mb (aM A)).length + 300 ≤ 70000 := by omega
            have hkr : ∀ M' : zM, Fl ad 0 [392] [42] [] M2 M' → zA M' (ad 39) = zA M2 (ad 39) := fun M' hF => hF.rA (by decide) (by decide)
            have hvr : ∀ M' : zM, Fl ad 0 [392] [42] [] M2 M' → zA M' (ad 40) = zA M2 (ad 40) := fun M' hF => hF.rA (by decide) (by decide)
            have hk2 : Rc (fun i => zA M2 (ad 39) (0 + i)) (aK A) := tK2.2.1.congr (fun i _ => by rw [Nat.zero_add])
            have hv2 : Rc (fun i => zA M2 (ad 40) (0 + i)) (aV A) := tV2.2.1.congr (fun i _ => by rw [Nat.zero_add])
            refine zr_aload_n dX12_change_228 rfl ?_
            refine zr_aload_n dX12_change_229 rfl ?_
            refine zr_getR dX12_change_230 lkX12_9 (by decide) (by decide) rfl (hL2.K 38 13) (hL2.R 384 38 39) ?_
            refine zr_iconst (v := nI 0) dX12_change_233 (by decide) ?_
            refine zr_aload_n dX12_change_234 rfl ?_
            refine zr_getI dX12_change_235 lkX12_94 (by decide) (by decide) rfl (hL2.K 38 13) ?_
            refine zr_as (y := (nI ((aK A).length))) tK2.1 ?_
            refine zr_aload_n dX12_change_238 rfl ?_
            refine zr_getR dX12_change_239 lkX12_13 (by decide) (by decide) rfl (hL2.K 38 13) (hL2.R 385 38 40) ?_
            refine zr_iload_n dX12_change_242 rfl ?_
            refine zr_if_eq 250 dX12_change_243 (by decide) (fun h243 => ?_) (fun h243 => absurd rfl h243)
            refine zr_iconst (v := -1) dX12_change_250 (by decide) ?_
            refine zr_aload_n dX12_change_251 rfl ?_
            refine zr_getI dX12_change_252 lkX12_97 (by decide) (by decide) rfl (hL2.K 38 13) ?_
            refine zr_as (y := (nI ((aV A).length))) tV2.1 ?_
            refine zr_callV (md' := mX12_set) (As := [.ref ((ad 39)), .int (nI 0), .int (nI ((aK A).length)), .ref ((ad 40)), .int ((-1)), .int (nI ((aV A).length))]) dX12_change_255 mlX12_103 okX12_set rfl inX12_set slX12_set (by decide) (hL2.K 38 13) rfl (by omega) (Nat.le_of_ble_eq_true rfl) hcb2 (c_setN (d := d - 1) (kk := aK A) (by omega) hcb2 hL2 (Rw8.k hL2).1 hk2 (by omega) tK2.2.2 hN2 tM.2.2.shr tM.2.2.1 hml2) (fun k M1 h => by cases h.1) (fun v M3 hq => ?_)
            obtain ⟨e0, hF3, m3, hm3, hN3⟩ := hq
            cases e0
            have em3 : m3 = (mset (aM A) [(2, aK A, if 2 = 1 then aV A else [])]) := mset_step (ss := []) tM.2.2.1 (by rw [mset_nil _ tM.2.2.1]; exact hm3)
            subst em3
            have hL3 := hF3.lay hL2
            have hcb3 := hF3.cb hcb2
            have hF03 : Fl ad 0 [392, 402] [42] [] M M3 := hF02.trans0 hF3.mono
            have ho0 : aO A = 0 := by omega
            obtain ⟨h160, hMw⟩ := hpm hf0 ho0 hne
            have hmb := hMw.mb (Nat.le_refl _)
            have hT3 : Ta ad M3 A := ⟨hL3, tK.fl hF03, tV.fl hF03, tM.fl hF03, tS.fl hF03, tB.fl hF03, tX.fl hF03⟩
            have g3 : zI M3 402 (ad 38) = nI 0 := (hF3.rI (by decide) (by decide)).trans ((hF2.rI (by decide) (by decide)).trans g1_402)
            refine zr_aload_n dX12_change_258 rfl ?_
            refine zr_getR dX12_change_259 lkX12_20 (by decide) (by decide) rfl (hL3.K 38 13) (hL3.R 389 38 42) ?_
            refine zr_iconst (v := nI 0) dX12_change_262 (by decide) ?_
            refine zr_aload_n dX12_change_263 rfl ?_
            refine zr_getI dX12_change_264 lkX12_45 (by decide) (by decide) rfl (hL3.K 38 13) ?_
            refine zr_as (y := (nI ((Mb (mset (aM A) [(2, aK A, if 2 = 1 then aV A else [])])).length))) hN3.1 ?_
            refine zr_callS (md' := mX12_size) (As := [.ref ((ad 42)), .int (nI 0), .int (nI ((Mb (mset (aM A) [(2, aK A, if 2 = 1 then aV A else [])])).length))]) dX12_change_267 mlX12_71 okX12_size rfl stX12_size rfl (by omega) (Nat.le_of_ble_eq_true rfl) hcb3 (c_size (d := d - 1) (m := (mset (aM A) [(2, aK A, if 2 = 1 then aV A else [])])) (by omega) hcb3 (Rw8.k hL3).2.2.2.1 hN3.ma hMw.shr (by omega)) (fun k M1 h => by cases h.1) (fun v M9 hq => ?_)
            obtain ⟨e0, e9⟩ := hq
            cases e0
            rw [e9]
            refine zr_sipush (v := nI 16000) dX12_change_270 (by decide) ?_
            refine zr_icmp_leN 283 dX12_change_273 (by decide) (by omega) (by decide) (fun h273 => ?_) (fun h273 => ?_)
            · refine zr_aload_n dX12_change_283 rfl ?_
              refine zr_callV (md' := mX12_done) (As := []) dX12_change_284 mlX12_107 okX12_done rfl inX12_done slX12_done (by decide) (hL3.K 38 13) rfl (by omega) (Nat.le_of_ble_eq_true rfl) hcb3 (c_done (d := d - 1) (A := A) (m1 := (mset (aM A) [(2, aK A, if 2 = 1 then aV A else [])])) (by omega) hcb3 hT3 hN3 hMw) (fun k M9 h => by obtain ⟨_, ⟨_, h, _⟩ | ⟨_, h, _⟩ | ⟨_, h, _⟩⟩ := h <;> cases h) (fun v9 M6 hq => ?_)
              obtain ⟨hF6, hd9⟩ := hq
              have ez : sAdd 2 A = sFin A [(2, aK A, if 2 = 1 then aV A else [])] := by
                unfold sAdd
                rw [if_neg (by omega), if_neg hne, if_neg (by omega)]
              have hs0 : aS A = [] := hs9 ho0
              have FT : Fl ad 0 LM LMA [] M M6 := (hF03.mono : Fl ad 0 LM LMA [] M M3).trans0 hF6
              rcases hd9 with ⟨hw, e0, hT6, g6⟩ | ⟨hw, e0, hT6, g6⟩ | ⟨hw, e0, hT6, g6⟩
              · cases e0
                refine zr_iret dX12_change_287 rfl ?_
                have e8 : sAdd 2 A = (fell A, .inr 2) := by
                  rw [ez]
                  unfold sFin
                  rw [if_pos hw]
                rw [e8]
                exact ⟨hT6, FT, g6, rfl⟩
              · cases e0
                refine zr_iret dX12_change_287 rfl ?_
                have e8 : sAdd 2 A = (fell ((mset (aM A) [(2, aK A, if 2 = 1 then aV A else [])]), aK A, aV A, aS A, aO A, aF A, aW A, aC A + 1, aN A), .inr 2) := by
                  rw [ez]
                  unfold sFin
                  rw [if_neg (by omega), if_pos hw]
                rw [e8]
                exact ⟨hT6, FT, g6, rfl⟩
              · cases e0
                refine zr_iret dX12_change_287 rfl ?_
                have e8 : sAdd 2 A = (((mset (aM A) [(2, aK A, if 2 = 1 then aV A else [])]), aK A, aV A, [], 0, 0, aW A, aC A + 1, aN A), .inl (some (.int (nI (msz (mset (aM A) [(2, aK A, if 2 = 1 then aV A else [])])))))) := by
                  rw [ez]
                  unfold sFin
                  rw [if_neg (by omega), if_neg (by omega)]
                rw [e8]
                rw [hf0, ho0, hs0] at hT6
                exact ⟨hT6, FT, g6.trans g3, rfl⟩
            · refine zr_aload_n dX12_change_276 rfl ?_
              refine zr_iconst (v := nI 1) dX12_change_277 (by decide) ?_
              refine zr_putI dX12_change_278 lkX12_38 (by decide) (by decide) rfl rfl (hL3.K 38 13) ?_
              refine zr_iconst (v := nI 0) dX12_change_281 (by decide) ?_
              refine zr_iret dX12_change_282 rfl ?_
              exfalso; omega
          · refine zr_aload_n dX12_change_63 rfl ?_
            refine zr_getR dX12_change_64 lkX12_31 (by decide) (by decide) rfl (hL1.K 38 13) (hL1.R 395 38 45) ?_
            refine zr_aload_n dX12_change_67 rfl ?_
            refine zr_dup dX12_change_68 rfl ?_
            refine zr_getI dX12_change_69 lkX12_88 (by decide) (by decide) rfl (hL1.K 38 13) ?_
            refine zr_as (y := (nI ((Sb (aS A)).length))) g1 ?_
            refine zr_dup_x1 dX12_change_72 rfl rfl ?_
            refine zr_iconst (v := nI 1) dX12_change_73 (by decide) ?_
            refine zr_iaddN dX12_change_74 ?_
            refine zr_putI dX12_change_75 lkX12_88 (by decide) (by decide) rfl rfl (hL1.K 38 13) ?_
            refine zr_iload_n dX12_change_78 rfl ?_
            refine zr_if_eq 86 dX12_change_79 (by decide) (fun h79 => ?_) (fun h79 => absurd rfl h79)
            refine zr_iconst (v := nI 0) dX12_change_86 (by decide) ?_
            refine zr_i2b dX12_change_87 ?_
            refine zr_bastN dX12_change_88 (hL1.K 45 14) (hL1.N 45 15360) (by omega) (by omega) ?_
            obtain ⟨M2, e2⟩ : ∃ z, z = (zsetA (zput M1 396 (ad 38) (nI ((Sb (aS A)).length + 1))) (ad 45) (upd (zA (zput M1 396 (ad 38) (nI ((Sb (aS A)).length + 1))) (ad 45)) (Sb (aS A)).length (vp_nar .byte (Int32.toInt8 (nI 0)).toInt32))) := ⟨_, rfl⟩
            rw [← e2]
            have hF2 : Fl ad 0 [396] [45] [] M1 M2 := by rw [e2]; exact ((Fl.refl ad _ _ _ M1).put hL1 (f := 396) (i := 38)).setA hL1 (i := 45)
            have hL2 := hF2.lay hL1
            have g2 : zI M2 396 (ad 38) = nI ((Sb (aS A)).length + 1) := by rw [e2]; exact zput_hit _ _ _ _
            have a2 : zA M2 (ad 45) = upd (zA M1 (ad 45)) (Sb (aS A)).length (vp_nar .byte (Int32.toInt8 (nI 0)).toInt32) := by rw [e2]; exact zsetA_hit _ _ _
            have k2 : zA M2 (ad 39) = zA M1 (ad 39) := hF2.rA (by decide) (by decide)
            have v2 : zA M2 (ad 40) = zA M1 (ad 40) := hF2.rA (by decide) (by decide)
            have p2 : zI M2 386 (ad 38) = nI (aK A).length := (hF2.rI (by decide) (by decide)).trans p1
            have q2 : zI M2 387 (ad 38) = nI (aV A).length := (hF2.rI (by decide) (by decide)).trans q1
            have b2 : zI M2 397 (ad 38) = nI (aS A).length := (hF2.rI (by decide) (by decide)).trans b1
            refine zr_aload_n dX12_change_89 rfl ?_
            refine zr_getR dX12_change_90 lkX12_31 (by decide) (by decide) rfl (hL2.K 38 13) (hL2.R 395 38 45) ?_
            refine zr_aload_n dX12_change_93 rfl ?_
            refine zr_dup dX12_change_94 rfl ?_
            refine zr_getI dX12_change_95 lkX12_88 (by decide) (by decide) rfl (hL2.K 38 13) ?_
            refine zr_as (y := (nI ((Sb (aS A)).length + 1))) g2 ?_
            refine zr_dup_x1 dX12_change_98 rfl rfl ?_
            refine zr_iconst (v := nI 1) dX12_change_99 (by decide) ?_
            refine zr_iaddN dX12_change_100 ?_
            refine zr_putI dX12_change_101 lkX12_88 (by decide) (by decide) rfl rfl (hL2.K 38 13) ?_
            refine zr_aload_n dX12_change_104 rfl ?_
            refine zr_getI dX12_change_105 lkX12_94 (by decide) (by decide) rfl (hL2.K 38 13) ?_
            refine zr_as (y := (nI ((aK A).length))) (zput_ms (by decide) p2) ?_
            refine zr_i2b dX12_change_108 ?_
            refine zr_bastN dX12_change_109 (hL2.K 45 14) (hL2.N 45 15360) (by omega) (by omega) ?_
            obtain ⟨M3, e3⟩ : ∃ z, z = (zsetA (zput M2 396 (ad 38) (nI (((Sb (aS A)).length + 1) + 1))) (ad 45) (upd (zA (zput M2 396 (ad 38) (nI (((Sb (aS A)).length + 1) + 1))) (ad 45)) ((Sb (aS A)).length + 1) (vp_nar .byte (Int32.toInt8 (nI ((aK A).length))).toInt32))) := ⟨_, rfl⟩
            rw [← e3]
            have hF3 : Fl ad 0 [396] [45] [] M2 M3 := by rw [e3]; exact ((Fl.refl ad _ _ _ M2).put hL2 (f := 396) (i := 38)).setA hL2 (i := 45)
            have hL3 := hF3.lay hL2
            have g3 : zI M3 396 (ad 38) = nI ((Sb (aS A)).length + 1 + 1) := by rw [e3]; exact zput_hit _ _ _ _
            have a3 : zA M3 (ad 45) = upd (zA M2 (ad 45)) ((Sb (aS A)).length + 1) (vp_nar .byte (Int32.toInt8 (nI (aK A).length)).toInt32) := by rw [e3]; exact zsetA_hit _ _ _
            have k3 : zA M3 (ad 39) = zA M1 (ad 39) := (hF3.rA (by decide) (by decide)).trans k2
            have v3 : zA M3 (ad 40) = zA M1 (ad 40) := (hF3.rA (by decide) (by decide)).trans v2
            have p3 : zI M3 386 (ad 38) = nI (aK A).length := (hF3.rI (by decide) (by decide)).trans p2
            have q3 : zI M3 387 (ad 38) = nI (aV A).length := (hF3.rI (by decide) (by decide)).trans q2
            have b3 : zI M3 397 (ad 38) = nI (aS A).length := (hF3.rI (by decide) (by decide)).trans b2
            refine zr_aload_n dX12_change_110 rfl ?_
            refine zr_getR dX12_change_111 lkX12_9 (by decide) (by decide) rfl (hL3.K 38 13) (hL3.R 384 38 39) ?_
            refine zr_iconst (v := nI 0) dX12_change_114 (by decide) ?_
            refine zr_aload_n dX12_change_115 rfl ?_
            refine zr_getR dX12_change_116 lkX12_31 (by decide) (by decide) rfl (hL3.K 38 13) (hL3.R 395 38 45) ?_
            refine zr_aload_n dX12_change_119 rfl ?_
            refine zr_getI dX12_change_120 lkX12_88 (by decide) (by decide) rfl (hL3.K 38 13) ?_
            refine zr_as (y := (nI ((Sb (aS A)).length + 1 + 1))) g3 ?_
            refine zr_aload_n dX12_change_123 rfl ?_
            refine zr_getI dX12_change_124 lkX12_94 (by decide) (by decide) rfl (hL3.K 38 13) ?_
            refine zr_as (y := (nI ((aK A).length))) p3 ?_
            refine zr_copyN dX12_change_127 mlX12_52 (Or.inl ⟨(hL3.K 39 14), (hL3.K 45 14)⟩) (hL3.N 39 32) (hL3.N 45 15360) (by omega) (by omega) (by omega) (by omega) (by omega) (Nat.le_of_ble_eq_true rfl) ?_
            refine zr_aload_n dX12_change_130 rfl ?_
            refine zr_dup dX12_change_131 rfl ?_
            refine zr_getI dX12_change_132 lkX12_88 (by decide) (by decide) rfl (hL3.K 38 13) ?_
            refine zr_as (y := (nI ((Sb (aS A)).length + 1 + 1))) g3 ?_
            refine zr_aload_n dX12_change_135 rfl ?_
            refine zr_getI dX12_change_136 lkX12_94 (by decide) (by decide) rfl (hL3.K 38 13) ?_
            refine zr_as (y := (nI ((aK A).length))) p3 ?_
            refine zr_iaddN dX12_change_139 ?_
            refine zr_putI dX12_change_140 lkX12_88 (by decide) (by decide) rfl rfl (hL3.K 38 13) ?_
            obtain ⟨M4, e4⟩ : ∃ z, z = (zput (zsetA M3 (ad 45) (va_cpy (zA M3 (ad 39)) (zA M3 (ad 45)) 0 ((Sb (aS A)).length + 1 + 1) (aK A).length)) 396 (ad 38) (nI (((Sb (aS A)).length + 1 + 1) + (aK A).length))) := ⟨_, rfl⟩
            rw [← e4]
            have hF4 : Fl ad 0 [396] [45] [] M3 M4 := by rw [e4]; exact ((Fl.refl ad _ _ _ M3).setA hL3 (i := 45)).put hL3 (f := 396) (i := 38)
            have hL4 := hF4.lay hL3
            have g4 : zI M4 396 (ad 38) = nI ((Sb (aS A)).length + 1 + 1 + (aK A).length) := by rw [e4]; exact zput_hit _ _ _ _
            have a4 : zA M4 (ad 45) = va_cpy (zA M3 (ad 39)) (zA M3 (ad 45)) 0 ((Sb (aS A)).length + 1 + 1) (aK A).length := by rw [e4]; exact zsetA_hit _ _ _
            have k4 : zA M4 (ad 39) = zA M1 (ad 39) := (hF4.rA (by decide) (by decide)).trans k3
            have v4 : zA M4 (ad 40) = zA M1 (ad 40) := (hF4.rA (by decide) (by decide)).trans v3
            have p4 : zI M4 386 (ad 38) = nI (aK A).length := (hF4.rI (by decide) (by decide)).trans p3
            have q4 : zI M4 387 (ad 38) = nI (aV A).length := (hF4.rI (by decide) (by decide)).trans q3
            have b4 : zI M4 397 (ad 38) = nI (aS A).length := (hF4.rI (by decide) (by decide)).trans b3
            refine zr_aload_n dX12_change_143 rfl ?_
            refine zr_getR dX12_change_144 lkX12_31 (by decide) (by decide) rfl (hL4.K 38 13) (hL4.R 395 38 45) ?_
            refine zr_aload_n dX12_change_147 rfl ?_
            refine zr_dup dX12_change_148 rfl ?_
            refine zr_getI dX12_change_149 lkX12_88 (by decide) (by decide) rfl (hL4.K 38 13) ?_
            refine zr_as (y := (nI ((Sb (aS A)).length + 1 + 1 + (aK A).length))) g4 ?_
            refine zr_dup_x1 dX12_change_152 rfl rfl ?_
            refine zr_iconst (v := nI 1) dX12_change_153 (by decide) ?_
            refine zr_iaddN dX12_change_154 ?_
            refine zr_putI dX12_change_155 lkX12_88 (by decide) (by decide) rfl rfl (hL4.K 38 13) ?_
            refine zr_iload_n dX12_change_158 rfl ?_
            refine zr_if_eq 169 dX12_change_159 (by decide) (fun h159 => ?_) (fun h159 => absurd rfl h159)
            refine zr_iconst (v := nI 0) dX12_change_169 (by decide) ?_
            refine zr_i2b dX12_change_170 ?_
            refine zr_bastN dX12_change_171 (hL4.K 45 14) (hL4.N 45 15360) (by omega) (by omega) ?_
            obtain ⟨M5, e5⟩ : ∃ z, z = (zsetA (zput M4 396 (ad 38) (nI (((Sb (aS A)).length + 1 + 1 + (aK A).length) + 1))) (ad 45) (upd (zA (zput M4 396 (ad 38) (nI (((Sb (aS A)).length + 1 + 1 + (aK A).length) + 1))) (ad 45)) ((Sb (aS A)).length + 1 + 1 + (aK A).length) (vp_nar .byte (Int32.toInt8 (nI 0)).toInt32))) := ⟨_, rfl⟩
            rw [← e5]
            have hF5 : Fl ad 0 [396] [45] [] M4 M5 := by rw [e5]; exact ((Fl.refl ad _ _ _ M4).put hL4 (f := 396) (i := 38)).setA hL4 (i := 45)
            have hL5 := hF5.lay hL4
            have g5 : zI M5 396 (ad 38) = nI ((Sb (aS A)).length + 1 + 1 + (aK A).length + 1) := by rw [e5]; exact zput_hit _ _ _ _
            have a5 : zA M5 (ad 45) = upd (zA M4 (ad 45)) ((Sb (aS A)).length + 1 + 1 + (aK A).length) (vp_nar .byte (Int32.toInt8 (nI 0)).toInt32) := by rw [e5]; exact zsetA_hit _ _ _
            have k5 : zA M5 (ad 39) = zA M1 (ad 39) := (hF5.rA (by decide) (by decide)).trans k4
            have v5 : zA M5 (ad 40) = zA M1 (ad 40) := (hF5.rA (by decide) (by decide)).trans v4
            have p5 : zI M5 386 (ad 38) = nI (aK A).length := (hF5.rI (by decide) (by decide)).trans p4
            have q5 : zI M5 387 (ad 38) = nI (aV A).length := (hF5.rI (by decide) (by decide)).trans q4
            have b5 : zI M5 397 (ad 38) = nI (aS A).length := (hF5.rI (by decide) (by decide)).trans b4
            refine zr_iload_n dX12_change_172 rfl ?_
            refine zr_if_eq 209 dX12_change_173 (by decide) (fun h173 => ?_) (fun h173 => absurd rfl h173)
            refine zr_aload_n dX12_change_209 rfl ?_
            refine zr_dup dX12_change_210 rfl ?_
            refine zr_getI dX12_change_211 lkX12_85 (by decide) (by decide) rfl (hL5.K 38 13) ?_
            refine zr_as (y := (nI ((aS A).length))) b5 ?_
            refine zr_iconst (v := nI 1) dX12_change_214 (by decide) ?_
            refine zr_iaddN dX12_change_215 ?_
            refine zr_putI dX12_change_216 lkX12_85 (by decide) (by decide) rfl rfl (hL5.K 38 13) ?_
            refine zr_aload_n dX12_change_219 rfl ?_
            refine zr_getI dX12_change_220 lkX12_85 (by decide) (by decide) rfl (hL5.K 38 13) ?_
            refine zr_as (y := (nI ((aS A).length + 1))) (zput_hit _ _ _ _) ?_
            refine zr_iret dX12_change_223 rfl ?_
            obtain ⟨M7, e7⟩ : ∃ z, z = (zput M5 397 (ad 38) (nI ((aS A).length + 1))) := ⟨_, rfl⟩
            rw [← e7]
            have hF7 : Fl ad 0 [397] [] [] M5 M7 := by rw [e7]; exact (Fl.refl ad _ _ _ M5).put hL5 (f := 397) (i := 38)
            have hF16 : Fl ad 0 [396] [45] [] M1 M5 := ((((hF2.trans0 hF3).trans0 hF4).trans0 hF5))
            have hF07 : Fl ad 0 [396, 397, 402] [45] [] M M7 := (hF1.mono.trans0 hF16.mono).trans0 hF7.mono
            have e8 : sAdd 2 A = ((aM A, aK A, aV A, (aS A ++ [(2, aK A, if 2 = 1 then aV A else [])]), 1, 0, aW A, aC A, aN A), .inl (some (.int (nI ((aS A).length + 1))))) := by
              unfold sAdd
              rw [if_neg (by omega), if_neg hne, if_pos (by omega)]
            rw [e8]
            have hk1 : Rc (fun i => zA M1 (ad 39) (0 + i)) (aK A) := (tK.fl hF1).2.1.congr (fun i _ => by rw [Nat.zero_add])
            have hv1 : Rc (fun i => zA M1 (ad 40) (0 + i)) [] := Rc.nil _
            have hrc := rc_stp (V := []) (c0 := 0) (x0 := (vp_nar .byte (Int32.toInt8 (nI 0)).toInt32)) (x1 := (vp_nar .byte (Int32.toInt8 (nI (aK A).length)).toInt32)) (x2 := (vp_nar .byte (Int32.toInt8 (nI 0)).toInt32)) (tB.fl hF1).2.2.2.2.1 hk1 hv1 (by decide) (zb_nn (by omega)) (by decide)
            have hB7 : TaB ad M7 1 (aS A ++ [(2, aK A, if 2 = 1 then aV A else [])]) := by
              refine ⟨(hF07.rI (by decide) (by decide)).trans (tB.1.trans (by rw [show aO A = 1 by omega])), by decide, ?_, ?_, ?_, ?_, ?_⟩
              · rw [e7, List.length_append]; exact zput_hit _ _ _ _
              · rw [hF7.rI (by decide) (by decide), g5, Sb_sl]
                congr 1
                show _ = _ + (3 + (aK A).length + 0)
                omega
              · rw [hF7.rA (i := 45) (by decide) (by decide), a5, a4, k3, a3, a2, Sb_app, Sb_cons]
                have ez : sb (2, aK A, if 2 = 1 then aV A else []) ++ Sb [] = 0 :: ((aK A).length :: (aK A ++ (([]).length :: []))) := List.append_nil _
                rw [ez]
                rw [show ([] : List Nat).length = 0 from rfl, cpy_0] at hrc
                exact hrc
              · intro s hs
                rcases List.mem_append.mp hs with z | z
                · exact tB.2.2.2.2.2.1 s z
                · rw [List.mem_singleton.mp z]; exact ⟨Or.inr ⟨rfl, rfl⟩, tK.2.2, Nat.zero_le _⟩
              · rw [List.length_append]; show (aS A).length + 1 ≤ 64; omega
            exact ⟨⟨hF07.lay hL, tK.fl hF07, tV.fl hF07, tM.fl hF07, tS.fl hF07, hB7, by have z := tX.fl hF07; rw [hf0] at z; exact z⟩, hF07.mono, (hF7.rI (by decide) (by decide)).trans ((hF16.rI (by decide) (by decide)).trans g1_402), rfl⟩
        · refine zr_iconst (v := nI 1) dX12_change_39 (by decide) ?_
          refine zr_goto 44 dX12_change_40 (by decide) ?_
          refine zr_putI dX12_change_44 lkX12_38 (by decide) (by decide) rfl rfl (hL.K 38 13) ?_
          refine zr_aload_n dX12_change_47 rfl ?_
          refine zr_getI dX12_change_48 lkX12_38 (by decide) (by decide) rfl (hL.K 38 13) ?_
          refine zr_as (y := (nI 1)) (zput_hit _ _ _ _) ?_
          refine zr_if_leN 56 dX12_change_51 (by decide) (by decide) (fun h51 => absurd h51 (by decide)) (fun h51 => ?_)
          refine zr_iconst (v := nI 0) dX12_change_54 (by decide) ?_
          refine zr_iret dX12_change_55 rfl ?_
          obtain ⟨M9, e9⟩ : ∃ z, z = (zput M 402 (ad 38) (nI 1)) := ⟨_, rfl⟩
          rw [← e9]
          have hF9 : Fl ad 0 [402] [] [] M M9 := by rw [e9]; exact ((Fl.refl ad _ _ _ M).put hL (f := 402) (i := 38))
          have g9_402 : zI M9 402 (ad 38) = (nI 1) := by rw [e9]; exact zput_hit _ _ _ _
          have hf1 : aF A = 1 := by
            by_cases z : aF A = 1
            · exact z
            · exfalso; have := hss (by omega) (by omega); omega
          have e8 : sAdd 2 A = (A, .inr 0) := if_pos hf1
          rw [e8]
          exact ⟨⟨hF9.lay hL, tK.fl hF9, tV.fl hF9, tM.fl hF9, tS.fl hF9, tB.fl hF9, tX.fl hF9⟩, hF9.mono, g9_402, rfl⟩
    · refine zr_iconst (v := nI 2) dX12_change_19 (by decide) ?_
      refine zr_goto 44 dX12_change_20 (by decide) ?_
      refine zr_putI dX12_change_44 lkX12_38 (by decide) (by decide) rfl rfl (hL.K 38 13) ?_
      refine zr_aload_n dX12_change_47 rfl ?_
      refine zr_getI dX12_change_48 lkX12_38 (by decide) (by decide) rfl (hL.K 38 13) ?_
      refine zr_as (y := (nI 2)) (zput_hit _ _ _ _) ?_
      refine zr_if_leN 56 dX12_change_51 (by decide) (by decide) (fun h51 => absurd h51 (by decide)) (fun h51 => ?_)
      refine zr_iconst (v := nI 0) dX12_change_54 (by decide) ?_
      refine zr_iret dX12_change_55 rfl ?_
      obtain ⟨M9, e9⟩ : ∃ z, z = (zput M 402 (ad 38) (nI 2)) := ⟨_, rfl⟩
      rw [← e9]
      have hF9 : Fl ad 0 [402] [] [] M M9 := by rw [e9]; exact ((Fl.refl ad _ _ _ M).put hL (f := 402) (i := 38))
      have g9_402 : zI M9 402 (ad 38) = (nI 2) := by rw [e9]; exact zput_hit _ _ _ _
      have e8 : sAdd 2 A = (A, .inr 1) := by unfold sAdd; rw [if_neg (by omega), if_pos (List.length_eq_zero_iff.mp (by omega))]
      rw [e8]
      exact ⟨⟨hF9.lay hL, tK.fl hF9, tV.fl hF9, tM.fl hF9, tS.fl hF9, tB.fl hF9, tX.fl hF9⟩, hF9.mono, g9_402, rfl⟩
  · refine zr_iconst (v := nI 1) dX12_change_8 (by decide) ?_
    refine zr_goto 44 dX12_change_9 (by decide) ?_
    refine zr_putI dX12_change_44 lkX12_38 (by decide) (by decide) rfl rfl (hL.K 38 13) ?_
    refine zr_aload_n dX12_change_47 rfl ?_
    refine zr_getI dX12_change_48 lkX12_38 (by decide) (by decide) rfl (hL.K 38 13) ?_
    refine zr_as (y := (nI 1)) (zput_hit _ _ _ _) ?_
    refine zr_if_leN 56 dX12_change_51 (by decide) (by decide) (fun h51 => absurd h51 (by decide)) (fun h51 => ?_)
    refine zr_iconst (v := nI 0) dX12_change_54 (by decide) ?_
    refine zr_iret dX12_change_55 rfl ?_
    obtain ⟨M9, e9⟩ : ∃ z, z = (zput M 402 (ad 38) (nI 1)) := ⟨_, rfl⟩
    rw [← e9]
    have hF9 : Fl ad 0 [402] [] [] M M9 := by rw [e9]; exact ((Fl.refl ad _ _ _ M).put hL (f := 402) (i := 38))
    have g9_402 : zI M9 402 (ad 38) = (nI 1) := by rw [e9]; exact zput_hit _ _ _ _
    have hf1 : aF A = 1 := by
      by_cases z : aF A = 1
      · exact z
      · exfalso; have := hss (by omega) (by omega); omega
    have e8 : sAdd 2 A = (A, .inr 0) := if_pos hf1
    rw [e8]
    exact ⟨⟨hF9.lay hL, tK.fl hF9, tV.fl hF9, tM.fl hF9, tS.fl hF9, tB.fl hF9, tX.fl hF9⟩, hF9.mono, g9_402, rfl⟩
set_option maxRecDepth 100000 in
set_option maxHeartbeats 4000000 in
theorem b_remove {G : zG} {ad : Nat → Nat} {d : Nat} {A : As} {M : zM} (hd : 6 ≤ d) (hcb : zC M ≤ 600128 ∧ zS M ≤ 7301098) (hT : Ta ad M A) (hss : aF A = 0 → aO A = 1 → (aS A).length < 64) (hs9 : aO A = 0 → aS A = []) (hpm : aF A = 0 → aO A = 0 → aK A ≠ [] → msz (mset (aM A) [(2, aK A, if 2 = 1 then aV A else [])]) ≤ 16000 ∧ Mw 64 (mset (aM A) [(2, aK A, if 2 = 1 then aV A else [])]))  : zMet G mX12_remove d [.ref ((ad 38))] M (Mst ad M (sAdd 2 A) cdP (some (.int 0))) := by
  obtain ⟨hL, tK, tV, tM, tS, tB, tX⟩ := id hT
  refine zMet_of (by decide +kernel) (Nat.le_of_ble_eq_true rfl) rfl hcb ?_
  show zw G mX12_remove d _ _ _ 0 [some (.ref ((ad 38)))] [] M
  refine zr_aload_n dX12_remove_0 rfl ?_
  refine zr_iconst (v := nI 0) dX12_remove_1 (by decide) ?_
  refine zr_callV (md' := mX12_change) (As := [.int (nI 0)]) dX12_remove_2 mlX12_110 okX12_change rfl inX12_change slX12_change (by decide) (hL.K 38 13) rfl (by omega) (Nat.le_of_ble_eq_true rfl) hcb (b_change0 (d := d - 1) (by omega) hcb hT hss hs9 hpm) (fun k M1 h => by cases h.2.2.2) (fun v9 M1 hq => ?_)
  obtain ⟨x9, hx9⟩ : ∃ x, v9 = some (.int x) := by
    have e0 := Sum.inl.inj hq.2.2.2
    rw [e0]
    unfold sAdd
    split
    · exact ⟨_, rfl⟩
    · split
      · exact ⟨_, rfl⟩
      · split
        · exact ⟨_, rfl⟩
        · unfold sFin
          split
          · exact ⟨_, rfl⟩
          · split <;> exact ⟨_, rfl⟩
  subst hx9
  refine zr_iret dX12_remove_5 rfl ?_
  exact hq
