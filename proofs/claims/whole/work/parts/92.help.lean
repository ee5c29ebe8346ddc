/-! ===== the law: its calls of the store ===== -/
theorem cs0 : Cond.castable (zex 0) (zex 0) ∈ lw_tbl := by decide +kernel
theorem cs1 : Cond.castable (zex 1) (zex 1) ∈ lw_tbl := by decide +kernel
theorem cs2 : Cond.castable (zex 2) (zex 2) ∈ lw_tbl := by decide +kernel
theorem cs3 : Cond.castable (zex 3) (zex 3) ∈ lw_tbl := by decide +kernel
theorem ck0 : Cond.classLink RL 21 (zex 0) ∈ lw_tbl := by decide +kernel
theorem ck1 : Cond.classLink RL 13 (zex 1) ∈ lw_tbl := by decide +kernel
theorem ck2 : Cond.classLink RL 27 (zex 2) ∈ lw_tbl := by decide +kernel
theorem ck3 : Cond.classLink RL 45 (zex 3) ∈ lw_tbl := by decide +kernel
/-- behind one of the law's calls of the store -/
def Hst (ad : Nat → Nat) (M : zM) (n : Nat) (A : As) (r : As × zOut) (cd : Nat → Nat) (o : zOut) (M' : zM) : Prop := o = .inl (some (.int (nI (tc cd r.2)))) ∧ Sa ad M' r.1 (n + 1) ∧ (Ta ad M A → Ta ad M' A) ∧ (∀ x, r.2 = .inl (some (.int x)) → zJ M' (ad 46) 0 = Int32.toInt64 x) ∧ ∀ x, r.2 = .inl (some (.long x)) → zJ M' (ad 46) 0 = x
theorem Hst.x {ad : Nat → Nat} {M M' : zM} {n : Nat} {A : As} {r : As × zOut} {cd : Nat → Nat} {k c : Nat} (h : Pst ad M n r (.inr k) M') (hc : cd k = c) : Hst ad M n A r cd (.inl (some (.int (nI c)))) M' := by
  obtain ⟨h1, h2, kk, h3⟩ := h
  refine ⟨by rw [← h1]; show _ = Sum.inl (some (Value.int (nI (cd k)))); rw [hc], h2, fun hT => hT.fk h3, fun x hx => ?_, fun x hx => ?_⟩
  · rw [← h1] at hx; cases hx
  · rw [← h1] at hx; cases hx
theorem Hst.v {ad : Nat → Nat} {M M' : zM} {n : Nat} {A : As} {r : As × zOut} {cd : Nat → Nat} (h : Pst ad M n r (.inl none) M') : Hst ad M n A r cd (.inl (some (.int (nI 0)))) M' := by
  obtain ⟨h1, h2, kk, h3⟩ := h
  refine ⟨by rw [← h1]; rfl, h2, fun hT => hT.fk h3, fun x hx => ?_, fun x hx => ?_⟩
  · rw [← h1] at hx; cases hx
  · rw [← h1] at hx; cases hx
theorem Sa.setJ {ad : Nat → Nat} {M : zM} {n a : Nat} {A : As} {g : Nat → Int64} (h : Sa ad M A n) : Sa ad (zsetJ M a g) A n := h
theorem Ta.setJ {ad : Nat → Nat} {M : zM} {a : Nat} {A : As} {g : Nat → Int64} (h : Ta ad M A) : Ta ad (zsetJ M a g) A := h
theorem Hst.j {ad : Nat → Nat} {M M' : zM} {n : Nat} {A : As} {r : As × zOut} {cd : Nat → Nat} {v : Value} {w : Int64} (h : Pst ad M n r (.inl (some v)) M') (hv : (∃ x, v = .int x ∧ w = Int32.toInt64 x) ∨ v = .long w) : Hst ad M n A r cd (.inl (some (.int (nI 0)))) (zsetJ M' (ad 46) (vp_updL (zJ M' (ad 46)) (Int32.toNatClampNeg (nI 0)) w)) := by
  obtain ⟨h1, h2, kk, h3⟩ := h
  have hz : zJ (zsetJ M' (ad 46) (vp_updL (zJ M' (ad 46)) (Int32.toNatClampNeg (nI 0)) w)) (ad 46) 0 = w := by
    show va_up (zJ M') (ad 46) _ (ad 46) 0 = w
    rw [va_up_self]
    rfl
  refine ⟨by rw [← h1]; rfl, h2.setJ, fun hT => (hT.fk h3).setJ, fun x hx => ?_, fun x hx => ?_⟩
  · rw [← h1] at hx
    rcases hv with ⟨y, rfl, rfl⟩ | rfl
    · cases hx; exact hz
    · cases hx
  · rw [← h1] at hx
    rcases hv with ⟨y, rfl, rfl⟩ | rfl
    · cases hx
    · cases hx; exact hz
theorem vin0 {M : zM} {ad : Nat → Nat} (hL : Lay ad M) : vp_in (nI 0) (zN M (ad 46)) := by rw [hL.N 46 1]; exact zvp (by decide) (by decide)
set_option maxRecDepth 100000 in
set_option maxHeartbeats 4000000 in
theorem x_sKey {w0 : Int64} {n0 fr : Int32} {A : As} {k : Nat} (h : (sKey w0 n0 fr A).2 = .inr k) : k = 1 := by
  unfold sKey at h
  repeat' split at h
  all_goals try dsimp only at h
  all_goals try (repeat' split at h)
  all_goals first | (cases h; done) | (have e := Sum.inr.inj h; omega)
set_option maxRecDepth 100000 in
set_option maxHeartbeats 4000000 in
theorem v_sKey {w0 : Int64} {n0 fr : Int32} {A : As} {v : Option Value} (h : (sKey w0 n0 fr A).2 = .inl v) : ∃ x, v = some (.int x) := by
  unfold sKey at h
  repeat' split at h
  all_goals try dsimp only at h
  all_goals try (repeat' split at h)
  all_goals first | (cases h; done) | (have e := Sum.inl.inj h; exact ⟨_, e.symm⟩)
set_option maxRecDepth 100000 in
set_option maxHeartbeats 4000000 in
theorem h_key {G : zG} {ad : Nat → Nat} {d n : Nat} {w0 : Int64} {n0 fr : Int32} {A : As} {M : zM} (hd : 13 ≤ d) (hS : Sa ad M A n) (hn : n < 64) : zMet G mL_key d [.ref ((ad 0)), .long w0, .int n0, .int fr, .ref ((ad 46))] M (Hst ad M n A (sKey w0 n0 fr A) cd1) := by
  obtain ⟨hcb, hcx⟩ := hS.cb (by omega)
  have hL := hS.1.1
  refine zMet_of (by decide +kernel) (Nat.le_of_ble_eq_true rfl) rfl hcb ?_
  show zw G mL_key d _ _ _ 0 [some (.ref ((ad 0))), some (.long w0), none, some (.int n0), some (.int fr), some (.ref ((ad 46))), none] [] M
  have hthr : ∀ k M9, Pst ad M n (sKey w0 n0 fr A) (.inr k) M9 → zt G mL_key d (zC M) (zS M) (Hst ad M n A (sKey w0 n0 fr A) cd1) 8 [some (.ref ((ad 0))), some (.long w0), none, some (.int n0), some (.int fr), some (.ref ((ad 46))), none] k M9 := by
    intro k M9 h
    obtain hk9 := x_sKey h.1.symm
    subst hk9
    refine zt_catch (by decide) [] (0, 13, 16, 13) [] rfl (fun z hz => by cases hz) (by decide) (by decide) ck1 cs1 (fun q9 => ?_)
    refine zr_astore (lv' := [some (.ref ((ad 0))), some (.long w0), none, some (.int n0), some (.int fr), some (.ref ((ad 46))), some (.ref q9)]) dL_key_16 (Nat.le_of_ble_eq_true rfl) (Nat.le_of_ble_eq_true rfl) rfl rfl ?_
    refine zr_iconst (v := nI 1) dL_key_18 (by decide) ?_
    refine zr_iret dL_key_19 rfl ?_
    exact Hst.x h rfl
  refine zr_aload dL_key_0 rfl ?_
  refine zr_iconst (v := nI 0) dL_key_2 (by decide) ?_
  refine zr_aload_n dL_key_3 rfl ?_
  refine zr_lload_n dL_key_4 rfl ?_
  refine zr_iload_n dL_key_5 rfl ?_
  refine zr_iload dL_key_6 rfl ?_
  refine zr_callV (md' := mX11_key) (As := [.long w0, .int n0, .int fr]) dL_key_8 mlL_7 okX11_key rfl inX11_key slX11_key (by decide) (hL.K 0 12) rfl (by omega) (Nat.le_of_ble_eq_true rfl) hcb (a_key (d := d - 1) (by omega) hS hn) (fun k M9 h => hthr k M9 h) (fun v9 M1 hq => ?_)
  obtain ⟨x9, hv9⟩ := v_sKey hq.1.symm
  subst hv9
  have hL1 := hq.2.1.1.1
  refine zr_i2l dL_key_11 ?_
  refine zr_last dL_key_12 (hL1.K 46 17) (vin0 hL1) ?_
  refine zr_goto 20 dL_key_13 (by decide) ?_
  refine zr_iconst (v := nI 0) dL_key_20 (by decide) ?_
  refine zr_iret dL_key_21 rfl ?_
  exact Hst.j hq (Or.inl ⟨x9, rfl, rfl⟩)
set_option maxRecDepth 100000 in
set_option maxHeartbeats 4000000 in
theorem x_sVal {w0 : Int64} {n0 fr : Int32} {A : As} {k : Nat} (h : (sVal w0 n0 fr A).2 = .inr k) : k = 1 := by
  unfold sVal at h
  repeat' split at h
  all_goals try dsimp only at h
  all_goals try (repeat' split at h)
  all_goals first | (cases h; done) | (have e := Sum.inr.inj h; omega)
set_option maxRecDepth 100000 in
set_option maxHeartbeats 4000000 in
theorem v_sVal {w0 : Int64} {n0 fr : Int32} {A : As} {v : Option Value} (h : (sVal w0 n0 fr A).2 = .inl v) : ∃ x, v = some (.int x) := by
  unfold sVal at h
  repeat' split at h
  all_goals try dsimp only at h
  all_goals try (repeat' split at h)
  all_goals first | (cases h; done) | (have e := Sum.inl.inj h; exact ⟨_, e.symm⟩)
set_option maxRecDepth 100000 in
set_option maxHeartbeats 4000000 in
theorem h_value {G : zG} {ad : Nat → Nat} {d n : Nat} {w0 : Int64} {n0 fr : Int32} {A : As} {M : zM} (hd : 13 ≤ d) (hS : Sa ad M A n) (hn : n < 64) : zMet G mL_value d [.ref ((ad 0)), .long w0, .int n0, .int fr, .ref ((ad 46))] M (Hst ad M n A (sVal w0 n0 fr A) cd1) := by
  obtain ⟨hcb, hcx⟩ := hS.cb (by omega)
  have hL := hS.1.1
  refine zMet_of (by decide +kernel) (Nat.le_of_ble_eq_true rfl) rfl hcb ?_
  show zw G mL_value d _ _ _ 0 [some (.ref ((ad 0))), some (.long w0), none, some (.int n0), some (.int fr), some (.ref ((ad 46))), none] [] M
  have hthr : ∀ k M9, Pst ad M n (sVal w0 n0 fr A) (.inr k) M9 → zt G mL_value d (zC M) (zS M) (Hst ad M n A (sVal w0 n0 fr A) cd1) 8 [some (.ref ((ad 0))), some (.long w0), none, some (.int n0), some (.int fr), some (.ref ((ad 46))), none] k M9 := by
    intro k M9 h
    obtain hk9 := x_sVal h.1.symm
    subst hk9
    refine zt_catch (by decide) [] (0, 13, 16, 13) [] rfl (fun z hz => by cases hz) (by decide) (by decide) ck1 cs1 (fun q9 => ?_)
    refine zr_astore (lv' := [some (.ref ((ad 0))), some (.long w0), none, some (.int n0), some (.int fr), some (.ref ((ad 46))), some (.ref q9)]) dL_value_16 (Nat.le_of_ble_eq_true rfl) (Nat.le_of_ble_eq_true rfl) rfl rfl ?_
    refine zr_iconst (v := nI 1) dL_value_18 (by decide) ?_
    refine zr_iret dL_value_19 rfl ?_
    exact Hst.x h rfl
  refine zr_aload dL_value_0 rfl ?_
  refine zr_iconst (v := nI 0) dL_value_2 (by decide) ?_
  refine zr_aload_n dL_value_3 rfl ?_
  refine zr_lload_n dL_value_4 rfl ?_
  refine zr_iload_n dL_value_5 rfl ?_
  refine zr_iload dL_value_6 rfl ?_
  refine zr_callV (md' := mX11_value) (As := [.long w0, .int n0, .int fr]) dL_value_8 mlL_15 okX11_value rfl inX11_value slX11_value (by decide) (hL.K 0 12) rfl (by omega) (Nat.le_of_ble_eq_true rfl) hcb (a_value (d := d - 1) (by omega) hS hn) (fun k M9 h => hthr k M9 h) (fun v9 M1 hq => ?_)
  obtain ⟨x9, hv9⟩ := v_sVal hq.1.symm
  subst hv9
  have hL1 := hq.2.1.1.1
  refine zr_i2l dL_value_11 ?_
  refine zr_last dL_value_12 (hL1.K 46 17) (vin0 hL1) ?_
  refine zr_goto 20 dL_value_13 (by decide) ?_
  refine zr_iconst (v := nI 0) dL_value_20 (by decide) ?_
  refine zr_iret dL_value_21 rfl ?_
  exact Hst.j hq (Or.inl ⟨x9, rfl, rfl⟩)
set_option maxRecDepth 100000 in
set_option maxHeartbeats 4000000 in
theorem x_sBegin {A : As} {k : Nat} (h : (sBegin A).2 = .inr k) : k = 0 := by
  unfold sBegin at h
  repeat' split at h
  all_goals try dsimp only at h
  all_goals try (repeat' split at h)
  all_goals first | (cases h; done) | (have e := Sum.inr.inj h; omega)
set_option maxRecDepth 100000 in
set_option maxHeartbeats 4000000 in
theorem v_sBegin {A : As} {v : Option Value} (h : (sBegin A).2 = .inl v) : v = none := by
  unfold sBegin at h
  repeat' split at h
  all_goals try dsimp only at h
  all_goals try (repeat' split at h)
  all_goals first | (cases h; done) | (have e := Sum.inl.inj h; exact e.symm)
set_option maxRecDepth 100000 in
set_option maxHeartbeats 4000000 in
theorem h_begin {G : zG} {ad : Nat → Nat} {d n : Nat} {A : As} {M : zM} (hd : 13 ≤ d) (hS : Sa ad M A n) (hn : n < 64) : zMet G mL_begin d [.ref ((ad 0))] M (Hst ad M n A (sBegin A) cd1) := by
  obtain ⟨hcb, hcx⟩ := hS.cb (by omega)
  have hL := hS.1.1
  refine zMet_of (by decide +kernel) (Nat.le_of_ble_eq_true rfl) rfl hcb ?_
  show zw G mL_begin d _ _ _ 0 [some (.ref ((ad 0))), none] [] M
  have hthr : ∀ k M9, Pst ad M n (sBegin A) (.inr k) M9 → zt G mL_begin d (zC M) (zS M) (Hst ad M n A (sBegin A) cd1) 1 [some (.ref ((ad 0))), none] k M9 := by
    intro k M9 h
    obtain hk9 := x_sBegin h.1.symm
    subst hk9
    refine zt_catch (by decide) [] (0, 4, 7, 21) [] rfl (fun z hz => by cases hz) (by decide) (by decide) ck0 cs0 (fun q9 => ?_)
    refine zr_astore_n (lv' := [some (.ref ((ad 0))), some (.ref q9)]) dL_begin_7 (Nat.le_of_ble_eq_true rfl) (Nat.le_of_ble_eq_true rfl) rfl rfl ?_
    refine zr_iconst (v := nI 1) dL_begin_8 (by decide) ?_
    refine zr_iret dL_begin_9 rfl ?_
    exact Hst.x h rfl
  refine zr_aload_n dL_begin_0 rfl ?_
  refine zr_callV (md' := mX11_begin) (As := []) dL_begin_1 mlL_18 okX11_begin rfl inX11_begin slX11_begin (by decide) (hL.K 0 12) rfl (by omega) (Nat.le_of_ble_eq_true rfl) hcb (a_begin (d := d - 1) (by omega) hS hn) (fun k M9 h => hthr k M9 h) (fun v9 M1 hq => ?_)
  have hv9 := v_sBegin hq.1.symm
  subst hv9
  have hL1 := hq.2.1.1.1
  refine zr_goto 10 dL_begin_4 (by decide) ?_
  refine zr_iconst (v := nI 0) dL_begin_10 (by decide) ?_
  refine zr_iret dL_begin_11 rfl ?_
  exact Hst.v hq
set_option maxRecDepth 100000 in
set_option maxHeartbeats 4000000 in
theorem x_sAdd {kd : Nat} {A : As} {k : Nat} (h : (sAdd kd A).2 = .inr k) : k = 0 ∨ k = 1 ∨ k = 2 := by
  unfold sAdd sFin at h
  repeat' split at h
  all_goals try dsimp only at h
  all_goals try (repeat' split at h)
  all_goals first | (cases h; done) | (have e := Sum.inr.inj h; omega)
set_option maxRecDepth 100000 in
set_option maxHeartbeats 4000000 in
theorem v_sAdd {kd : Nat} {A : As} {v : Option Value} (h : (sAdd kd A).2 = .inl v) : ∃ x, v = some (.int x) := by
  unfold sAdd sFin at h
  repeat' split at h
  all_goals try dsimp only at h
  all_goals try (repeat' split at h)
  all_goals first | (cases h; done) | (have e := Sum.inl.inj h; exact ⟨_, e.symm⟩)
set_option maxRecDepth 100000 in
set_option maxHeartbeats 4000000 in
theorem h_put {G : zG} {ad : Nat → Nat} {d n : Nat} {A : As} {M : zM} (hd : 13 ≤ d) (hS : Sa ad M A n) (hn : n < 64) : zMet G mL_put d [.ref ((ad 0)), .ref ((ad 46))] M (Hst ad M n A (sAdd 1 A) cdP) := by
  obtain ⟨hcb, hcx⟩ := hS.cb (by omega)
  have hL := hS.1.1
  refine zMet_of (by decide +kernel) (Nat.le_of_ble_eq_true rfl) rfl hcb ?_
  show zw G mL_put d _ _ _ 0 [some (.ref ((ad 0))), some (.ref ((ad 46))), none] [] M
  have hthr : ∀ k M9, Pst ad M n (sAdd 1 A) (.inr k) M9 → zt G mL_put d (zC M) (zS M) (Hst ad M n A (sAdd 1 A) cdP) 3 [some (.ref ((ad 0))), some (.ref ((ad 46))), none] k M9 := by
    intro k M9 h
    obtain hk9 := x_sAdd h.1.symm
    rcases hk9 with rfl | rfl | rfl
    · refine zt_catch (by decide) [] (0, 8, 11, 21) [(0, 8, 14, 13), (0, 8, 17, 27)] rfl (fun z hz => by cases hz) (by decide) (by decide) ck0 cs0 (fun q9 => ?_)
      refine zr_astore_n (lv' := [some (.ref ((ad 0))), some (.ref ((ad 46))), some (.ref q9)]) dL_put_11 (Nat.le_of_ble_eq_true rfl) (Nat.le_of_ble_eq_true rfl) rfl rfl ?_
      refine zr_iconst (v := nI 1) dL_put_12 (by decide) ?_
      refine zr_iret dL_put_13 rfl ?_
      exact Hst.x h rfl
    · refine zt_catch (by decide) [(0, 8, 11, 21)] (0, 8, 14, 13) [(0, 8, 17, 27)] rfl (fun z hz => by
            rcases List.mem_cons.mp hz with rfl | hz
            · exact ⟨0, by decide, by decide, by decide, ck0⟩
            · cases hz) (by decide) (by decide) ck1 cs1 (fun q9 => ?_)
      refine zr_astore_n (lv' := [some (.ref ((ad 0))), some (.ref ((ad 46))), some (.ref q9)]) dL_put_14 (Nat.le_of_ble_eq_true rfl) (Nat.le_of_ble_eq_true rfl) rfl rfl ?_
      refine zr_iconst (v := nI 2) dL_put_15 (by decide) ?_
      refine zr_iret dL_put_16 rfl ?_
      exact Hst.x h rfl
    · refine zt_catch (by decide) [(0, 8, 11, 21), (0, 8, 14, 13)] (0, 8, 17, 27) [] rfl (fun z hz => by
            rcases List.mem_cons.mp hz with rfl | hz
            · exact ⟨0, by decide, by decide, by decide, ck0⟩
            · rcases List.mem_cons.mp hz with rfl | hz
              · exact ⟨1, by decide, by decide, by decide, ck1⟩
              · cases hz) (by decide) (by decide) ck2 cs2 (fun q9 => ?_)
      refine zr_astore_n (lv' := [some (.ref ((ad 0))), some (.ref ((ad 46))), some (.ref q9)]) dL_put_17 (Nat.le_of_ble_eq_true rfl) (Nat.le_of_ble_eq_true rfl) rfl rfl ?_
      refine zr_iconst (v := nI 3) dL_put_18 (by decide) ?_
      refine zr_iret dL_put_19 rfl ?_
      exact Hst.x h rfl
  refine zr_aload_n dL_put_0 rfl ?_
  refine zr_iconst (v := nI 0) dL_put_1 (by decide) ?_
  refine zr_aload_n dL_put_2 rfl ?_
  refine zr_callV (md' := mX11_put) (As := []) dL_put_3 mlL_23 okX11_put rfl inX11_put slX11_put (by decide) (hL.K 0 12) rfl (by omega) (Nat.le_of_ble_eq_true rfl) hcb (a_put (d := d - 1) (by omega) hS hn) (fun k M9 h => hthr k M9 h) (fun v9 M1 hq => ?_)
  obtain ⟨x9, hv9⟩ := v_sAdd hq.1.symm
  subst hv9
  have hL1 := hq.2.1.1.1
  refine zr_i2l dL_put_6 ?_
  refine zr_last dL_put_7 (hL1.K 46 17) (vin0 hL1) ?_
  refine zr_goto 20 dL_put_8 (by decide) ?_
  refine zr_iconst (v := nI 0) dL_put_20 (by decide) ?_
  refine zr_iret dL_put_21 rfl ?_
  exact Hst.j hq (Or.inl ⟨x9, rfl, rfl⟩)
set_option maxRecDepth 100000 in
set_option maxHeartbeats 4000000 in
theorem h_remove {G : zG} {ad : Nat → Nat} {d n : Nat} {A : As} {M : zM} (hd : 13 ≤ d) (hS : Sa ad M A n) (hn : n < 64) : zMet G mL_remove d [.ref ((ad 0)), .ref ((ad 46))] M (Hst ad M n A (sAdd 2 A) cdP) := by
  obtain ⟨hcb, hcx⟩ := hS.cb (by omega)
  have hL := hS.1.1
  refine zMet_of (by decide +kernel) (Nat.le_of_ble_eq_true rfl) rfl hcb ?_
  show zw G mL_remove d _ _ _ 0 [some (.ref ((ad 0))), some (.ref ((ad 46))), none] [] M
  have hthr : ∀ k M9, Pst ad M n (sAdd 2 A) (.inr k) M9 → zt G mL_remove d (zC M) (zS M) (Hst ad M n A (sAdd 2 A) cdP) 3 [some (.ref ((ad 0))), some (.ref ((ad 46))), none] k M9 := by
    intro k M9 h
    obtain hk9 := x_sAdd h.1.symm
    rcases hk9 with rfl | rfl | rfl
    · refine zt_catch (by decide) [] (0, 8, 11, 21) [(0, 8, 14, 13), (0, 8, 17, 27)] rfl (fun z hz => by cases hz) (by decide) (by decide) ck0 cs0 (fun q9 => ?_)
      refine zr_astore_n (lv' := [some (.ref ((ad 0))), some (.ref ((ad 46))), some (.ref q9)]) dL_remove_11 (Nat.le_of_ble_eq_true rfl) (Nat.le_of_ble_eq_true rfl) rfl rfl ?_
      refine zr_iconst (v := nI 1) dL_remove_12 (by decide) ?_
      refine zr_iret dL_remove_13 rfl ?_
      exact Hst.x h rfl
    · refine zt_catch (by decide) [(0, 8, 11, 21)] (0, 8, 14, 13) [(0, 8, 17, 27)] rfl (fun z hz => by
            rcases List.mem_cons.mp hz with rfl | hz
            · exact ⟨0, by decide, by decide, by decide, ck0⟩
            · cases hz) (by decide) (by decide) ck1 cs1 (fun q9 => ?_)
      refine zr_astore_n (lv' := [some (.ref ((ad 0))), some (.ref ((ad 46))), some (.ref q9)]) dL_remove_14 (Nat.le_of_ble_eq_true rfl) (Nat.le_of_ble_eq_true rfl) rfl rfl ?_
      refine zr_iconst (v := nI 2) dL_remove_15 (by decide) ?_
      refine zr_iret dL_remove_16 rfl ?_
      exact Hst.x h rfl
    · refine zt_catch (by decide) [(0, 8, 11, 21), (0, 8, 14, 13)] (0, 8, 17, 27) [] rfl (fun z hz => by
            rcases List.mem_cons.mp hz with rfl | hz
            · exact ⟨0, by decide, by decide, by decide, ck0⟩
            · rcases List.mem_cons.mp hz with rfl | hz
              · exact ⟨1, by decide, by decide, by decide, ck1⟩
              · cases hz) (by decide) (by decide) ck2 cs2 (fun q9 => ?_)
      refine zr_astore_n (lv' := [some (.ref ((ad 0))), some (.ref ((ad 46))), some (.ref q9)]) dL_remove_17 (Nat.le_of_ble_eq_true rfl) (Nat.le_of_ble_eq_true rfl) rfl rfl ?_
      refine zr_iconst (v := nI 3) dL_remove_18 (by decide) ?_
      refine zr_iret dL_remove_19 rfl ?_
      exact Hst.x h rfl
  refine zr_aload_n dL_remove_0 rfl ?_
  refine zr_iconst (v := nI 0) dL_remove_1 (by decide) ?_
  refine zr_aload_n dL_remove_2 rfl ?_
  refine zr_callV (md' := mX11_remove) (As := []) dL_remove_3 mlL_29 okX11_remove rfl inX11_remove slX11_remove (by decide) (hL.K 0 12) rfl (by omega) (Nat.le_of_ble_eq_true rfl) hcb (a_remove (d := d - 1) (by omega) hS hn) (fun k M9 h => hthr k M9 h) (fun v9 M1 hq => ?_)
  obtain ⟨x9, hv9⟩ := v_sAdd hq.1.symm
  subst hv9
  have hL1 := hq.2.1.1.1
  refine zr_i2l dL_remove_6 ?_
  refine zr_last dL_remove_7 (hL1.K 46 17) (vin0 hL1) ?_
  refine zr_goto 20 dL_remove_8 (by decide) ?_
  refine zr_iconst (v := nI 0) dL_remove_20 (by decide) ?_
  refine zr_iret dL_remove_21 rfl ?_
  exact Hst.j hq (Or.inl ⟨x9, rfl, rfl⟩)
set_option maxRecDepth 100000 in
set_option maxHeartbeats 4000000 in
theorem x_sCommit {A : As} {k : Nat} (h : (sCommit A).2 = .inr k) : k = 0 ∨ k = 2 := by
  unfold sCommit sFin at h
  repeat' split at h
  all_goals try dsimp only at h
  all_goals try (repeat' split at h)
  all_goals first | (cases h; done) | (have e := Sum.inr.inj h; omega)
set_option maxRecDepth 100000 in
set_option maxHeartbeats 4000000 in
theorem v_sCommit {A : As} {v : Option Value} (h : (sCommit A).2 = .inl v) : ∃ x, v = some (.int x) := by
  unfold sCommit sFin at h
  repeat' split at h
  all_goals try dsimp only at h
  all_goals try (repeat' split at h)
  all_goals first | (cases h; done) | (have e := Sum.inl.inj h; exact ⟨_, e.symm⟩)
set_option maxRecDepth 100000 in
set_option maxHeartbeats 4000000 in
theorem h_commit {G : zG} {ad : Nat → Nat} {d n : Nat} {A : As} {M : zM} (hd : 13 ≤ d) (hS : Sa ad M A n) (hn : n < 64) : zMet G mL_commit d [.ref ((ad 0)), .ref ((ad 46))] M (Hst ad M n A (sCommit A) cdW) := by
  obtain ⟨hcb, hcx⟩ := hS.cb (by omega)
  have hL := hS.1.1
  refine zMet_of (by decide +kernel) (Nat.le_of_ble_eq_true rfl) rfl hcb ?_
  show zw G mL_commit d _ _ _ 0 [some (.ref ((ad 0))), some (.ref ((ad 46))), none] [] M
  have hthr : ∀ k M9, Pst ad M n (sCommit A) (.inr k) M9 → zt G mL_commit d (zC M) (zS M) (Hst ad M n A (sCommit A) cdW) 3 [some (.ref ((ad 0))), some (.ref ((ad 46))), none] k M9 := by
    intro k M9 h
    obtain hk9 := x_sCommit h.1.symm
    rcases hk9 with rfl | rfl
    · refine zt_catch (by decide) [] (0, 8, 11, 21) [(0, 8, 14, 27)] rfl (fun z hz => by cases hz) (by decide) (by decide) ck0 cs0 (fun q9 => ?_)
      refine zr_astore_n (lv' := [some (.ref ((ad 0))), some (.ref ((ad 46))), some (.ref q9)]) dL_commit_11 (Nat.le_of_ble_eq_true rfl) (Nat.le_of_ble_eq_true rfl) rfl rfl ?_
      refine zr_iconst (v := nI 1) dL_commit_12 (by decide) ?_
      refine zr_iret dL_commit_13 rfl ?_
      exact Hst.x h rfl
    · refine zt_catch (by decide) [(0, 8, 11, 21)] (0, 8, 14, 27) [] rfl (fun z hz => by
            rcases List.mem_cons.mp hz with rfl | hz
            · exact ⟨0, by decide, by decide, by decide, ck0⟩
            · cases hz) (by decide) (by decide) ck2 cs2 (fun q9 => ?_)
      refine zr_astore_n (lv' := [some (.ref ((ad 0))), some (.ref ((ad 46))), some (.ref q9)]) dL_commit_14 (Nat.le_of_ble_eq_true rfl) (Nat.le_of_ble_eq_true rfl) rfl rfl ?_
      refine zr_iconst (v := nI 2) dL_commit_15 (by decide) ?_
      refine zr_iret dL_commit_16 rfl ?_
      exact Hst.x h rfl
  refine zr_aload_n dL_commit_0 rfl ?_
  refine zr_iconst (v := nI 0) dL_commit_1 (by decide) ?_
  refine zr_aload_n dL_commit_2 rfl ?_
  refine zr_callV (md' := mX11_commit) (As := []) dL_commit_3 mlL_32 okX11_commit rfl inX11_commit slX11_commit (by decide) (hL.K 0 12) rfl (by omega) (Nat.le_of_ble_eq_true rfl) hcb (a_commit (d := d - 1) (by omega) hS hn) (fun k M9 h => hthr k M9 h) (fun v9 M1 hq => ?_)
  obtain ⟨x9, hv9⟩ := v_sCommit hq.1.symm
  subst hv9
  have hL1 := hq.2.1.1.1
  refine zr_i2l dL_commit_6 ?_
  refine zr_last dL_commit_7 (hL1.K 46 17) (vin0 hL1) ?_
  refine zr_goto 17 dL_commit_8 (by decide) ?_
  refine zr_iconst (v := nI 0) dL_commit_17 (by decide) ?_
  refine zr_iret dL_commit_18 rfl ?_
  exact Hst.j hq (Or.inl ⟨x9, rfl, rfl⟩)
set_option maxRecDepth 100000 in
set_option maxHeartbeats 4000000 in
theorem x_sCancel {A : As} {k : Nat} (h : (sCancel A).2 = .inr k) : k = 0 := by
  unfold sCancel at h
  repeat' split at h
  all_goals try dsimp only at h
  all_goals try (repeat' split at h)
  all_goals first | (cases h; done) | (have e := Sum.inr.inj h; omega)
set_option maxRecDepth 100000 in
set_option maxHeartbeats 4000000 in
theorem v_sCancel {A : As} {v : Option Value} (h : (sCancel A).2 = .inl v) : ∃ x, v = some (.int x) := by
  unfold sCancel at h
  repeat' split at h
  all_goals try dsimp only at h
  all_goals try (repeat' split at h)
  all_goals first | (cases h; done) | (have e := Sum.inl.inj h; exact ⟨_, e.symm⟩)
set_option maxRecDepth 100000 in
set_option maxHeartbeats 4000000 in
theorem h_cancel {G : zG} {ad : Nat → Nat} {d n : Nat} {A : As} {M : zM} (hd : 13 ≤ d) (hS : Sa ad M A n) (hn : n < 64) : zMet G mL_cancel d [.ref ((ad 0)), .ref ((ad 46))] M (Hst ad M n A (sCancel A) cd1) := by
  obtain ⟨hcb, hcx⟩ := hS.cb (by omega)
  have hL := hS.1.1
  refine zMet_of (by decide +kernel) (Nat.le_of_ble_eq_true rfl) rfl hcb ?_
  show zw G mL_cancel d _ _ _ 0 [some (.ref ((ad 0))), some (.ref ((ad 46))), none] [] M
  have hthr : ∀ k M9, Pst ad M n (sCancel A) (.inr k) M9 → zt G mL_cancel d (zC M) (zS M) (Hst ad M n A (sCancel A) cd1) 3 [some (.ref ((ad 0))), some (.ref ((ad 46))), none] k M9 := by
    intro k M9 h
    obtain hk9 := x_sCancel h.1.symm
    subst hk9
    refine zt_catch (by decide) [] (0, 8, 11, 21) [] rfl (fun z hz => by cases hz) (by decide) (by decide) ck0 cs0 (fun q9 => ?_)
    refine zr_astore_n (lv' := [some (.ref ((ad 0))), some (.ref ((ad 46))), some (.ref q9)]) dL_cancel_11 (Nat.le_of_ble_eq_true rfl) (Nat.le_of_ble_eq_true rfl) rfl rfl ?_
    refine zr_iconst (v := nI 1) dL_cancel_12 (by decide) ?_
    refine zr_iret dL_cancel_13 rfl ?_
    exact Hst.x h rfl
  refine zr_aload_n dL_cancel_0 rfl ?_
  refine zr_iconst (v := nI 0) dL_cancel_1 (by decide) ?_
  refine zr_aload_n dL_cancel_2 rfl ?_
  refine zr_callV (md' := mX11_cancel) (As := []) dL_cancel_3 mlL_35 okX11_cancel rfl inX11_cancel slX11_cancel (by decide) (hL.K 0 12) rfl (by omega) (Nat.le_of_ble_eq_true rfl) hcb (a_cancel (d := d - 1) (by omega) hS hn) (fun k M9 h => hthr k M9 h) (fun v9 M1 hq => ?_)
  obtain ⟨x9, hv9⟩ := v_sCancel hq.1.symm
  subst hv9
  have hL1 := hq.2.1.1.1
  refine zr_i2l dL_cancel_6 ?_
  refine zr_last dL_cancel_7 (hL1.K 46 17) (vin0 hL1) ?_
  refine zr_goto 14 dL_cancel_8 (by decide) ?_
  refine zr_iconst (v := nI 0) dL_cancel_14 (by decide) ?_
  refine zr_iret dL_cancel_15 rfl ?_
  exact Hst.j hq (Or.inl ⟨x9, rfl, rfl⟩)
set_option maxRecDepth 100000 in
set_option maxHeartbeats 4000000 in
theorem x_sSnap {A : As} {k : Nat} (h : (sSnap A).2 = .inr k) : k = 0 := by
  unfold sSnap at h
  repeat' split at h
  all_goals try dsimp only at h
  all_goals try (repeat' split at h)
  all_goals first | (cases h; done) | (have e := Sum.inr.inj h; omega)
set_option maxRecDepth 100000 in
set_option maxHeartbeats 4000000 in
theorem v_sSnap {A : As} {v : Option Value} (h : (sSnap A).2 = .inl v) : ∃ x, v = some (.int x) := by
  unfold sSnap at h
  repeat' split at h
  all_goals try dsimp only at h
  all_goals try (repeat' split at h)
  all_goals first | (cases h; done) | (have e := Sum.inl.inj h; exact ⟨_, e.symm⟩)
set_option maxRecDepth 100000 in
set_option maxHeartbeats 4000000 in
theorem h_snapshot {G : zG} {ad : Nat → Nat} {d n : Nat} {A : As} {M : zM} (hd : 13 ≤ d) (hS : Sa ad M A n) (hn : n < 64) : zMet G mL_snapshot d [.ref ((ad 0)), .ref ((ad 46))] M (Hst ad M n A (sSnap A) cd1) := by
  obtain ⟨hcb, hcx⟩ := hS.cb (by omega)
  have hL := hS.1.1
  refine zMet_of (by decide +kernel) (Nat.le_of_ble_eq_true rfl) rfl hcb ?_
  show zw G mL_snapshot d _ _ _ 0 [some (.ref ((ad 0))), some (.ref ((ad 46))), none] [] M
  have hthr : ∀ k M9, Pst ad M n (sSnap A) (.inr k) M9 → zt G mL_snapshot d (zC M) (zS M) (Hst ad M n A (sSnap A) cd1) 3 [some (.ref ((ad 0))), some (.ref ((ad 46))), none] k M9 := by
    intro k M9 h
    obtain hk9 := x_sSnap h.1.symm
    subst hk9
    refine zt_catch (by decide) [] (0, 8, 11, 21) [] rfl (fun z hz => by cases hz) (by decide) (by decide) ck0 cs0 (fun q9 => ?_)
    refine zr_astore_n (lv' := [some (.ref ((ad 0))), some (.ref ((ad 46))), some (.ref q9)]) dL_snapshot_11 (Nat.le_of_ble_eq_true rfl) (Nat.le_of_ble_eq_true rfl) rfl rfl ?_
    refine zr_iconst (v := nI 1) dL_snapshot_12 (by decide) ?_
    refine zr_iret dL_snapshot_13 rfl ?_
    exact Hst.x h rfl
  refine zr_aload_n dL_snapshot_0 rfl ?_
  refine zr_iconst (v := nI 0) dL_snapshot_1 (by decide) ?_
  refine zr_aload_n dL_snapshot_2 rfl ?_
  refine zr_callV (md' := mX11_snapshot) (As := []) dL_snapshot_3 mlL_38 okX11_snapshot rfl inX11_snapshot slX11_snapshot (by decide) (hL.K 0 12) rfl (by omega) (Nat.le_of_ble_eq_true rfl) hcb (a_snapshot (d := d - 1) (by omega) hS hn) (fun k M9 h => hthr k M9 h) (fun v9 M1 hq => ?_)
  obtain ⟨x9, hv9⟩ := v_sSnap hq.1.symm
  subst hv9
  have hL1 := hq.2.1.1.1
  refine zr_i2l dL_snapshot_6 ?_
  refine zr_last dL_snapshot_7 (hL1.K 46 17) (vin0 hL1) ?_
  refine zr_goto 14 dL_snapshot_8 (by decide) ?_
  refine zr_iconst (v := nI 0) dL_snapshot_14 (by decide) ?_
  refine zr_iret dL_snapshot_15 rfl ?_
  exact Hst.j hq (Or.inl ⟨x9, rfl, rfl⟩)
set_option maxRecDepth 100000 in
set_option maxHeartbeats 4000000 in
theorem x_sRel {s0 : Int32} {A : As} {k : Nat} (h : (sRel s0 A).2 = .inr k) : k = 0 ∨ k = 3 := by
  unfold sRel at h
  repeat' split at h
  all_goals try dsimp only at h
  all_goals try (repeat' split at h)
  all_goals first | (cases h; done) | (have e := Sum.inr.inj h; omega)
set_option maxRecDepth 100000 in
set_option maxHeartbeats 4000000 in
theorem v_sRel {s0 : Int32} {A : As} {v : Option Value} (h : (sRel s0 A).2 = .inl v) : v = none := by
  unfold sRel at h
  repeat' split at h
  all_goals try dsimp only at h
  all_goals try (repeat' split at h)
  all_goals first | (cases h; done) | (have e := Sum.inl.inj h; exact e.symm)
set_option maxRecDepth 100000 in
set_option maxHeartbeats 4000000 in
theorem h_release {G : zG} {ad : Nat → Nat} {d n : Nat} {s0 : Int32} {A : As} {M : zM} (hd : 13 ≤ d) (hS : Sa ad M A n) (hn : n < 64) : zMet G mL_release d [.ref ((ad 0)), .int s0] M (Hst ad M n A (sRel s0 A) cdW) := by
  obtain ⟨hcb, hcx⟩ := hS.cb (by omega)
  have hL := hS.1.1
  refine zMet_of (by decide +kernel) (Nat.le_of_ble_eq_true rfl) rfl hcb ?_
  show zw G mL_release d _ _ _ 0 [some (.ref ((ad 0))), some (.int s0), none] [] M
  have hthr : ∀ k M9, Pst ad M n (sRel s0 A) (.inr k) M9 → zt G mL_release d (zC M) (zS M) (Hst ad M n A (sRel s0 A) cdW) 2 [some (.ref ((ad 0))), some (.int s0), none] k M9 := by
    intro k M9 h
    obtain hk9 := x_sRel h.1.symm
    rcases hk9 with rfl | rfl
    · refine zt_catch (by decide) [] (0, 5, 8, 21) [(0, 5, 11, 45)] rfl (fun z hz => by cases hz) (by decide) (by decide) ck0 cs0 (fun q9 => ?_)
      refine zr_astore_n (lv' := [some (.ref ((ad 0))), some (.int s0), some (.ref q9)]) dL_release_8 (Nat.le_of_ble_eq_true rfl) (Nat.le_of_ble_eq_true rfl) rfl rfl ?_
      refine zr_iconst (v := nI 1) dL_release_9 (by decide) ?_
      refine zr_iret dL_release_10 rfl ?_
      exact Hst.x h rfl
    · refine zt_catch (by decide) [(0, 5, 8, 21)] (0, 5, 11, 45) [] rfl (fun z hz => by
            rcases List.mem_cons.mp hz with rfl | hz
            · exact ⟨0, by decide, by decide, by decide, ck0⟩
            · cases hz) (by decide) (by decide) ck3 cs3 (fun q9 => ?_)
      refine zr_astore_n (lv' := [some (.ref ((ad 0))), some (.int s0), some (.ref q9)]) dL_release_11 (Nat.le_of_ble_eq_true rfl) (Nat.le_of_ble_eq_true rfl) rfl rfl ?_
      refine zr_iconst (v := nI 2) dL_release_12 (by decide) ?_
      refine zr_iret dL_release_13 rfl ?_
      exact Hst.x h rfl
  refine zr_aload_n dL_release_0 rfl ?_
  refine zr_iload_n dL_release_1 rfl ?_
  refine zr_callV (md' := mX11_release) (As := [.int s0]) dL_release_2 mlL_41 okX11_release rfl inX11_release slX11_release (by decide) (hL.K 0 12) rfl (by omega) (Nat.le_of_ble_eq_true rfl) hcb (a_release (d := d - 1) (by omega) hS hn) (fun k M9 h => hthr k M9 h) (fun v9 M1 hq => ?_)
  have hv9 := v_sRel hq.1.symm
  subst hv9
  have hL1 := hq.2.1.1.1
  refine zr_goto 14 dL_release_5 (by decide) ?_
  refine zr_iconst (v := nI 0) dL_release_14 (by decide) ?_
  refine zr_iret dL_release_15 rfl ?_
  exact Hst.v hq
set_option maxRecDepth 100000 in
set_option maxHeartbeats 4000000 in
theorem x_sGet {s0 : Int32} {A : As} {k : Nat} (h : (sGet s0 A).2 = .inr k) : k = 0 ∨ k = 3 := by
  unfold sGet sView at h
  repeat' split at h
  all_goals try dsimp only at h
  all_goals try (repeat' split at h)
  all_goals first | (cases h; done) | (have e := Sum.inr.inj h; omega)
set_option maxRecDepth 100000 in
set_option maxHeartbeats 4000000 in
theorem v_sGet {s0 : Int32} {A : As} {v : Option Value} (h : (sGet s0 A).2 = .inl v) : ∃ x, v = some (.int x) := by
  unfold sGet sView at h
  repeat' split at h
  all_goals try dsimp only at h
  all_goals try (repeat' split at h)
  all_goals first | (cases h; done) | (have e := Sum.inl.inj h; exact ⟨_, e.symm⟩)
set_option maxRecDepth 100000 in
set_option maxHeartbeats 4000000 in
theorem h_get {G : zG} {ad : Nat → Nat} {d n : Nat} {s0 : Int32} {A : As} {M : zM} (hd : 13 ≤ d) (hS : Sa ad M A n) (hn : n < 64) : zMet G mL_get d [.ref ((ad 0)), .int s0, .ref ((ad 46))] M (Hst ad M n A (sGet s0 A) cdW) := by
  obtain ⟨hcb, hcx⟩ := hS.cb (by omega)
  have hL := hS.1.1
  refine zMet_of (by decide +kernel) (Nat.le_of_ble_eq_true rfl) rfl hcb ?_
  show zw G mL_get d _ _ _ 0 [some (.ref ((ad 0))), some (.int s0), some (.ref ((ad 46))), none] [] M
  have hthr : ∀ k M9, Pst ad M n (sGet s0 A) (.inr k) M9 → zt G mL_get d (zC M) (zS M) (Hst ad M n A (sGet s0 A) cdW) 4 [some (.ref ((ad 0))), some (.int s0), some (.ref ((ad 46))), none] k M9 := by
    intro k M9 h
    obtain hk9 := x_sGet h.1.symm
    rcases hk9 with rfl | rfl
    · refine zt_catch (by decide) [] (0, 9, 12, 21) [(0, 9, 15, 45)] rfl (fun z hz => by cases hz) (by decide) (by decide) ck0 cs0 (fun q9 => ?_)
      refine zr_astore_n (lv' := [some (.ref ((ad 0))), some (.int s0), some (.ref ((ad 46))), some (.ref q9)]) dL_get_12 (Nat.le_of_ble_eq_true rfl) (Nat.le_of_ble_eq_true rfl) rfl rfl ?_
      refine zr_iconst (v := nI 1) dL_get_13 (by decide) ?_
      refine zr_iret dL_get_14 rfl ?_
      exact Hst.x h rfl
    · refine zt_catch (by decide) [(0, 9, 12, 21)] (0, 9, 15, 45) [] rfl (fun z hz => by
            rcases List.mem_cons.mp hz with rfl | hz
            · exact ⟨0, by decide, by decide, by decide, ck0⟩
            · cases hz) (by decide) (by decide) ck3 cs3 (fun q9 => ?_)
      refine zr_astore_n (lv' := [some (.ref ((ad 0))), some (.int s0), some (.ref ((ad 46))), some (.ref q9)]) dL_get_15 (Nat.le_of_ble_eq_true rfl) (Nat.le_of_ble_eq_true rfl) rfl rfl ?_
      refine zr_iconst (v := nI 2) dL_get_16 (by decide) ?_
      refine zr_iret dL_get_17 rfl ?_
      exact Hst.x h rfl
  refine zr_aload_n dL_get_0 rfl ?_
  refine zr_iconst (v := nI 0) dL_get_1 (by decide) ?_
  refine zr_aload_n dL_get_2 rfl ?_
  refine zr_iload_n dL_get_3 rfl ?_
  refine zr_callV (md' := mX11_get) (As := [.int s0]) dL_get_4 mlL_47 okX11_get rfl inX11_get slX11_get (by decide) (hL.K 0 12) rfl (by omega) (Nat.le_of_ble_eq_true rfl) hcb (a_get (d := d - 1) (by omega) hS hn) (fun k M9 h => hthr k M9 h) (fun v9 M1 hq => ?_)
  obtain ⟨x9, hv9⟩ := v_sGet hq.1.symm
  subst hv9
  have hL1 := hq.2.1.1.1
  refine zr_i2l dL_get_7 ?_
  refine zr_last dL_get_8 (hL1.K 46 17) (vin0 hL1) ?_
  refine zr_goto 18 dL_get_9 (by decide) ?_
  refine zr_iconst (v := nI 0) dL_get_18 (by decide) ?_
  refine zr_iret dL_get_19 rfl ?_
  exact Hst.j hq (Or.inl ⟨x9, rfl, rfl⟩)
set_option maxRecDepth 100000 in
set_option maxHeartbeats 4000000 in
theorem x_sSeek {s0 bh : Int32} {A : As} {k : Nat} (h : (sSeek s0 bh A).2 = .inr k) : k = 0 ∨ k = 3 := by
  unfold sSeek sView took at h
  repeat' split at h
  all_goals try dsimp only at h
  all_goals try (repeat' split at h)
  all_goals first | (cases h; done) | (have e := Sum.inr.inj h; omega)
set_option maxRecDepth 100000 in
set_option maxHeartbeats 4000000 in
theorem v_sSeek {s0 bh : Int32} {A : As} {v : Option Value} (h : (sSeek s0 bh A).2 = .inl v) : ∃ x, v = some (.int x) := by
  unfold sSeek sView took at h
  repeat' split at h
  all_goals try dsimp only at h
  all_goals try (repeat' split at h)
  all_goals first | (cases h; done) | (have e := Sum.inl.inj h; exact ⟨_, e.symm⟩)
set_option maxRecDepth 100000 in
set_option maxHeartbeats 4000000 in
theorem h_seek {G : zG} {ad : Nat → Nat} {d n : Nat} {s0 bh : Int32} {A : As} {M : zM} (hd : 13 ≤ d) (hS : Sa ad M A n) (hn : n < 64) : zMet G mL_seek d [.ref ((ad 0)), .int s0, .int bh, .ref ((ad 46))] M (Hst ad M n A (sSeek s0 bh A) cdW) := by
  obtain ⟨hcb, hcx⟩ := hS.cb (by omega)
  have hL := hS.1.1
  refine zMet_of (by decide +kernel) (Nat.le_of_ble_eq_true rfl) rfl hcb ?_
  show zw G mL_seek d _ _ _ 0 [some (.ref ((ad 0))), some (.int s0), some (.int bh), some (.ref ((ad 46))), none] [] M
  have hthr : ∀ k M9, Pst ad M n (sSeek s0 bh A) (.inr k) M9 → zt G mL_seek d (zC M) (zS M) (Hst ad M n A (sSeek s0 bh A) cdW) 5 [some (.ref ((ad 0))), some (.int s0), some (.int bh), some (.ref ((ad 46))), none] k M9 := by
    intro k M9 h
    obtain hk9 := x_sSeek h.1.symm
    rcases hk9 with rfl | rfl
    · refine zt_catch (by decide) [] (0, 10, 13, 21) [(0, 10, 17, 45)] rfl (fun z hz => by cases hz) (by decide) (by decide) ck0 cs0 (fun q9 => ?_)
      refine zr_astore (lv' := [some (.ref ((ad 0))), some (.int s0), some (.int bh), some (.ref ((ad 46))), some (.ref q9)]) dL_seek_13 (Nat.le_of_ble_eq_true rfl) (Nat.le_of_ble_eq_true rfl) rfl rfl ?_
      refine zr_iconst (v := nI 1) dL_seek_15 (by decide) ?_
      refine zr_iret dL_seek_16 rfl ?_
      exact Hst.x h rfl
    · refine zt_catch (by decide) [(0, 10, 13, 21)] (0, 10, 17, 45) [] rfl (fun z hz => by
            rcases List.mem_cons.mp hz with rfl | hz
            · exact ⟨0, by decide, by decide, by decide, ck0⟩
            · cases hz) (by decide) (by decide) ck3 cs3 (fun q9 => ?_)
      refine zr_astore (lv' := [some (.ref ((ad 0))), some (.int s0), some (.int bh), some (.ref ((ad 46))), some (.ref q9)]) dL_seek_17 (Nat.le_of_ble_eq_true rfl) (Nat.le_of_ble_eq_true rfl) rfl rfl ?_
      refine zr_iconst (v := nI 2) dL_seek_19 (by decide) ?_
      refine zr_iret dL_seek_20 rfl ?_
      exact Hst.x h rfl
  refine zr_aload_n dL_seek_0 rfl ?_
  refine zr_iconst (v := nI 0) dL_seek_1 (by decide) ?_
  refine zr_aload_n dL_seek_2 rfl ?_
  refine zr_iload_n dL_seek_3 rfl ?_
  refine zr_iload_n dL_seek_4 rfl ?_
  refine zr_callV (md' := mX11_seek) (As := [.int s0, .int bh]) dL_seek_5 mlL_51 okX11_seek rfl inX11_seek slX11_seek (by decide) (hL.K 0 12) rfl (by omega) (Nat.le_of_ble_eq_true rfl) hcb (a_seek (d := d - 1) (by omega) hS hn) (fun k M9 h => hthr k M9 h) (fun v9 M1 hq => ?_)
  obtain ⟨x9, hv9⟩ := v_sSeek hq.1.symm
  subst hv9
  have hL1 := hq.2.1.1.1
  refine zr_i2l dL_seek_8 ?_
  refine zr_last dL_seek_9 (hL1.K 46 17) (vin0 hL1) ?_
  refine zr_goto 21 dL_seek_10 (by decide) ?_
  refine zr_iconst (v := nI 0) dL_seek_21 (by decide) ?_
  refine zr_iret dL_seek_22 rfl ?_
  exact Hst.j hq (Or.inl ⟨x9, rfl, rfl⟩)
set_option maxRecDepth 100000 in
set_option maxHeartbeats 4000000 in
theorem x_sBef {s0 : Int32} {A : As} {k : Nat} (h : (sBef s0 A).2 = .inr k) : k = 0 ∨ k = 3 := by
  unfold sBef sView took at h
  repeat' split at h
  all_goals try dsimp only at h
  all_goals try (repeat' split at h)
  all_goals first | (cases h; done) | (have e := Sum.inr.inj h; omega)
set_option maxRecDepth 100000 in
set_option maxHeartbeats 4000000 in
theorem v_sBef {s0 : Int32} {A : As} {v : Option Value} (h : (sBef s0 A).2 = .inl v) : ∃ x, v = some (.int x) := by
  unfold sBef sView took at h
  repeat' split at h
  all_goals try dsimp only at h
  all_goals try (repeat' split at h)
  all_goals first | (cases h; done) | (have e := Sum.inl.inj h; exact ⟨_, e.symm⟩)
set_option maxRecDepth 100000 in
set_option maxHeartbeats 4000000 in
theorem h_before {G : zG} {ad : Nat → Nat} {d n : Nat} {s0 : Int32} {A : As} {M : zM} (hd : 13 ≤ d) (hS : Sa ad M A n) (hn : n < 64) : zMet G mL_before d [.ref ((ad 0)), .int s0, .ref ((ad 46))] M (Hst ad M n A (sBef s0 A) cdW) := by
  obtain ⟨hcb, hcx⟩ := hS.cb (by omega)
  have hL := hS.1.1
  refine zMet_of (by decide +kernel) (Nat.le_of_ble_eq_true rfl) rfl hcb ?_
  show zw G mL_before d _ _ _ 0 [some (.ref ((ad 0))), some (.int s0), some (.ref ((ad 46))), none] [] M
  have hthr : ∀ k M9, Pst ad M n (sBef s0 A) (.inr k) M9 → zt G mL_before d (zC M) (zS M) (Hst ad M n A (sBef s0 A) cdW) 4 [some (.ref ((ad 0))), some (.int s0), some (.ref ((ad 46))), none] k M9 := by
    intro k M9 h
    obtain hk9 := x_sBef h.1.symm
    rcases hk9 with rfl | rfl
    · refine zt_catch (by decide) [] (0, 9, 12, 21) [(0, 9, 15, 45)] rfl (fun z hz => by cases hz) (by decide) (by decide) ck0 cs0 (fun q9 => ?_)
      refine zr_astore_n (lv' := [some (.ref ((ad 0))), some (.int s0), some (.ref ((ad 46))), some (.ref q9)]) dL_before_12 (Nat.le_of_ble_eq_true rfl) (Nat.le_of_ble_eq_true rfl) rfl rfl ?_
      refine zr_iconst (v := nI 1) dL_before_13 (by decide) ?_
      refine zr_iret dL_before_14 rfl ?_
      exact Hst.x h rfl
    · refine zt_catch (by decide) [(0, 9, 12, 21)] (0, 9, 15, 45) [] rfl (fun z hz => by
            rcases List.mem_cons.mp hz with rfl | hz
            · exact ⟨0, by decide, by decide, by decide, ck0⟩
            · cases hz) (by decide) (by decide) ck3 cs3 (fun q9 => ?_)
      refine zr_astore_n (lv' := [some (.ref ((ad 0))), some (.int s0), some (.ref ((ad 46))), some (.ref q9)]) dL_before_15 (Nat.le_of_ble_eq_true rfl) (Nat.le_of_ble_eq_true rfl) rfl rfl ?_
      refine zr_iconst (v := nI 2) dL_before_16 (by decide) ?_
      refine zr_iret dL_before_17 rfl ?_
      exact Hst.x h rfl
  refine zr_aload_n dL_before_0 rfl ?_
  refine zr_iconst (v := nI 0) dL_before_1 (by decide) ?_
  refine zr_aload_n dL_before_2 rfl ?_
  refine zr_iload_n dL_before_3 rfl ?_
  refine zr_callV (md' := mX11_before) (As := [.int s0]) dL_before_4 mlL_55 okX11_before rfl inX11_before slX11_before (by decide) (hL.K 0 12) rfl (by omega) (Nat.le_of_ble_eq_true rfl) hcb (a_before (d := d - 1) (by omega) hS hn) (fun k M9 h => hthr k M9 h) (fun v9 M1 hq => ?_)
  obtain ⟨x9, hv9⟩ := v_sBef hq.1.symm
  subst hv9
  have hL1 := hq.2.1.1.1
  refine zr_i2l dL_before_7 ?_
  refine zr_last dL_before_8 (hL1.K 46 17) (vin0 hL1) ?_
  refine zr_goto 18 dL_before_9 (by decide) ?_
  refine zr_iconst (v := nI 0) dL_before_18 (by decide) ?_
  refine zr_iret dL_before_19 rfl ?_
  exact Hst.j hq (Or.inl ⟨x9, rfl, rfl⟩)
set_option maxRecDepth 100000 in
set_option maxHeartbeats 4000000 in
theorem x_sBytes {vl at0 : Int32} {A : As} {k : Nat} (h : (sBytes vl at0 A).2 = .inr k) : k = 1 := by
  unfold sBytes at h
  repeat' split at h
  all_goals try dsimp only at h
  all_goals try (repeat' split at h)
  all_goals first | (cases h; done) | (have e := Sum.inr.inj h; omega)
set_option maxRecDepth 100000 in
set_option maxHeartbeats 4000000 in
theorem v_sBytes {vl at0 : Int32} {A : As} {v : Option Value} (h : (sBytes vl at0 A).2 = .inl v) : ∃ x, v = some (.long x) := by
  unfold sBytes at h
  repeat' split at h
  all_goals try dsimp only at h
  all_goals try (repeat' split at h)
  all_goals first | (cases h; done) | (have e := Sum.inl.inj h; exact ⟨_, e.symm⟩)
set_option maxRecDepth 100000 in
set_option maxHeartbeats 4000000 in
theorem h_bytes {G : zG} {ad : Nat → Nat} {d n : Nat} {vl at0 : Int32} {A : As} {M : zM} (hd : 13 ≤ d) (hS : Sa ad M A n) (hn : n < 64) : zMet G mL_bytes d [.ref ((ad 0)), .int vl, .int at0, .ref ((ad 46))] M (Hst ad M n A (sBytes vl at0 A) cd1) := by
  obtain ⟨hcb, hcx⟩ := hS.cb (by omega)
  have hL := hS.1.1
  refine zMet_of (by decide +kernel) (Nat.le_of_ble_eq_true rfl) rfl hcb ?_
  show zw G mL_bytes d _ _ _ 0 [some (.ref ((ad 0))), some (.int vl), some (.int at0), some (.ref ((ad 46))), none] [] M
  have hthr : ∀ k M9, Pst ad M n (sBytes vl at0 A) (.inr k) M9 → zt G mL_bytes d (zC M) (zS M) (Hst ad M n A (sBytes vl at0 A) cd1) 5 [some (.ref ((ad 0))), some (.int vl), some (.int at0), some (.ref ((ad 46))), none] k M9 := by
    intro k M9 h
    obtain hk9 := x_sBytes h.1.symm
    subst hk9
    refine zt_catch (by decide) [] (0, 9, 12, 13) [] rfl (fun z hz => by cases hz) (by decide) (by decide) ck1 cs1 (fun q9 => ?_)
    refine zr_astore (lv' := [some (.ref ((ad 0))), some (.int vl), some (.int at0), some (.ref ((ad 46))), some (.ref q9)]) dL_bytes_12 (Nat.le_of_ble_eq_true rfl) (Nat.le_of_ble_eq_true rfl) rfl rfl ?_
    refine zr_iconst (v := nI 1) dL_bytes_14 (by decide) ?_
    refine zr_iret dL_bytes_15 rfl ?_
    exact Hst.x h rfl
  refine zr_aload_n dL_bytes_0 rfl ?_
  refine zr_iconst (v := nI 0) dL_bytes_1 (by decide) ?_
  refine zr_aload_n dL_bytes_2 rfl ?_
  refine zr_iload_n dL_bytes_3 rfl ?_
  refine zr_iload_n dL_bytes_4 rfl ?_
  refine zr_callV (md' := mX11_bytes) (As := [.int vl, .int at0]) dL_bytes_5 mlL_58 okX11_bytes rfl inX11_bytes slX11_bytes (by decide) (hL.K 0 12) rfl (by omega) (Nat.le_of_ble_eq_true rfl) hcb (a_bytes (d := d - 1) (by omega) hS hn) (fun k M9 h => hthr k M9 h) (fun v9 M1 hq => ?_)
  obtain ⟨x9, hv9⟩ := v_sBytes hq.1.symm
  subst hv9
  have hL1 := hq.2.1.1.1
  refine zr_last dL_bytes_8 (hL1.K 46 17) (vin0 hL1) ?_
  refine zr_goto 16 dL_bytes_9 (by decide) ?_
  refine zr_iconst (v := nI 0) dL_bytes_16 (by decide) ?_
  refine zr_iret dL_bytes_17 rfl ?_
  exact Hst.j hq (Or.inr rfl)
set_option maxRecDepth 100000 in
set_option maxHeartbeats 4000000 in
theorem x_sWork {A : As} {k : Nat} (h : (sWork A).2 = .inr k) : k = 0 ∨ k = 2 := by
  unfold sWork at h
  repeat' split at h
  all_goals try dsimp only at h
  all_goals try (repeat' split at h)
  all_goals first | (cases h; done) | (have e := Sum.inr.inj h; omega)
set_option maxRecDepth 100000 in
set_option maxHeartbeats 4000000 in
theorem v_sWork {A : As} {v : Option Value} (h : (sWork A).2 = .inl v) : v = none := by
  unfold sWork at h
  repeat' split at h
  all_goals try dsimp only at h
  all_goals try (repeat' split at h)
  all_goals first | (cases h; done) | (have e := Sum.inl.inj h; exact e.symm)
set_option maxRecDepth 100000 in
set_option maxHeartbeats 4000000 in
theorem h_flush {G : zG} {ad : Nat → Nat} {d n : Nat} {A : As} {M : zM} (hd : 13 ≤ d) (hS : Sa ad M A n) (hn : n < 64) : zMet G mL_flush d [.ref ((ad 0))] M (Hst ad M n A (sWork A) cdW) := by
  obtain ⟨hcb, hcx⟩ := hS.cb (by omega)
  have hL := hS.1.1
  refine zMet_of (by decide +kernel) (Nat.le_of_ble_eq_true rfl) rfl hcb ?_
  show zw G mL_flush d _ _ _ 0 [some (.ref ((ad 0))), none] [] M
  have hthr : ∀ k M9, Pst ad M n (sWork A) (.inr k) M9 → zt G mL_flush d (zC M) (zS M) (Hst ad M n A (sWork A) cdW) 1 [some (.ref ((ad 0))), none] k M9 := by
    intro k M9 h
    obtain hk9 := x_sWork h.1.symm
    rcases hk9 with rfl | rfl
    · refine zt_catch (by decide) [] (0, 4, 7, 21) [(0, 4, 10, 27)] rfl (fun z hz => by cases hz) (by decide) (by decide) ck0 cs0 (fun q9 => ?_)
      refine zr_astore_n (lv' := [some (.ref ((ad 0))), some (.ref q9)]) dL_flush_7 (Nat.le_of_ble_eq_true rfl) (Nat.le_of_ble_eq_true rfl) rfl rfl ?_
      refine zr_iconst (v := nI 1) dL_flush_8 (by decide) ?_
      refine zr_iret dL_flush_9 rfl ?_
      exact Hst.x h rfl
    · refine zt_catch (by decide) [(0, 4, 7, 21)] (0, 4, 10, 27) [] rfl (fun z hz => by
            rcases List.mem_cons.mp hz with rfl | hz
            · exact ⟨0, by decide, by decide, by decide, ck0⟩
            · cases hz) (by decide) (by decide) ck2 cs2 (fun q9 => ?_)
      refine zr_astore_n (lv' := [some (.ref ((ad 0))), some (.ref q9)]) dL_flush_10 (Nat.le_of_ble_eq_true rfl) (Nat.le_of_ble_eq_true rfl) rfl rfl ?_
      refine zr_iconst (v := nI 2) dL_flush_11 (by decide) ?_
      refine zr_iret dL_flush_12 rfl ?_
      exact Hst.x h rfl
  refine zr_aload_n dL_flush_0 rfl ?_
  refine zr_callV (md' := mX11_flush) (As := []) dL_flush_1 mlL_62 okX11_flush rfl inX11_flush slX11_flush (by decide) (hL.K 0 12) rfl (by omega) (Nat.le_of_ble_eq_true rfl) hcb (a_flush (d := d - 1) (by omega) hS hn) (fun k M9 h => hthr k M9 h) (fun v9 M1 hq => ?_)
  have hv9 := v_sWork hq.1.symm
  subst hv9
  have hL1 := hq.2.1.1.1
  refine zr_goto 13 dL_flush_4 (by decide) ?_
  refine zr_iconst (v := nI 0) dL_flush_13 (by decide) ?_
  refine zr_iret dL_flush_14 rfl ?_
  exact Hst.v hq
set_option maxRecDepth 100000 in
set_option maxHeartbeats 4000000 in
theorem h_compact {G : zG} {ad : Nat → Nat} {d n : Nat} {A : As} {M : zM} (hd : 13 ≤ d) (hS : Sa ad M A n) (hn : n < 64) : zMet G mL_compact d [.ref ((ad 0))] M (Hst ad M n A (sWork A) cdW) := by
  obtain ⟨hcb, hcx⟩ := hS.cb (by omega)
  have hL := hS.1.1
  refine zMet_of (by decide +kernel) (Nat.le_of_ble_eq_true rfl) rfl hcb ?_
  show zw G mL_compact d _ _ _ 0 [some (.ref ((ad 0))), none] [] M
  have hthr : ∀ k M9, Pst ad M n (sWork A) (.inr k) M9 → zt G mL_compact d (zC M) (zS M) (Hst ad M n A (sWork A) cdW) 1 [some (.ref ((ad 0))), none] k M9 := by
    intro k M9 h
    obtain hk9 := x_sWork h.1.symm
    rcases hk9 with rfl | rfl
    · refine zt_catch (by decide) [] (0, 4, 7, 21) [(0, 4, 10, 27)] rfl (fun z hz => by cases hz) (by decide) (by decide) ck0 cs0 (fun q9 => ?_)
      refine zr_astore_n (lv' := [some (.ref ((ad 0))), some (.ref q9)]) dL_compact_7 (Nat.le_of_ble_eq_true rfl) (Nat.le_of_ble_eq_true rfl) rfl rfl ?_
      refine zr_iconst (v := nI 1) dL_compact_8 (by decide) ?_
      refine zr_iret dL_compact_9 rfl ?_
      exact Hst.x h rfl
    · refine zt_catch (by decide) [(0, 4, 7, 21)] (0, 4, 10, 27) [] rfl (fun z hz => by
            rcases List.mem_cons.mp hz with rfl | hz
            · exact ⟨0, by decide, by decide, by decide, ck0⟩
            · cases hz) (by decide) (by decide) ck2 cs2 (fun q9 => ?_)
      refine zr_astore_n (lv' := [some (.ref ((ad 0))), some (.ref q9)]) dL_compact_10 (Nat.le_of_ble_eq_true rfl) (Nat.le_of_ble_eq_true rfl) rfl rfl ?_
      refine zr_iconst (v := nI 2) dL_compact_11 (by decide) ?_
      refine zr_iret dL_compact_12 rfl ?_
      exact Hst.x h rfl
  refine zr_aload_n dL_compact_0 rfl ?_
  refine zr_callV (md' := mX11_compact) (As := []) dL_compact_1 mlL_65 okX11_compact rfl inX11_compact slX11_compact (by decide) (hL.K 0 12) rfl (by omega) (Nat.le_of_ble_eq_true rfl) hcb (a_compact (d := d - 1) (by omega) hS hn) (fun k M9 h => hthr k M9 h) (fun v9 M1 hq => ?_)
  have hv9 := v_sWork hq.1.symm
  subst hv9
  have hL1 := hq.2.1.1.1
  refine zr_goto 13 dL_compact_4 (by decide) ?_
  refine zr_iconst (v := nI 0) dL_compact_13 (by decide) ?_
  refine zr_iret dL_compact_14 rfl ?_
  exact Hst.v hq
set_option maxRecDepth 100000 in
set_option maxHeartbeats 4000000 in
theorem x_sPow {w0 k9 b9 : Int32} {A : As} {k : Nat} (h : (sPow w0 k9 b9 A).2 = .inr k) : k = 1 := by
  unfold sPow at h
  repeat' split at h
  all_goals try dsimp only at h
  all_goals try (repeat' split at h)
  all_goals first | (cases h; done) | (have e := Sum.inr.inj h; omega)
set_option maxRecDepth 100000 in
set_option maxHeartbeats 4000000 in
theorem v_sPow {w0 k9 b9 : Int32} {A : As} {v : Option Value} (h : (sPow w0 k9 b9 A).2 = .inl v) : v = none := by
  unfold sPow at h
  repeat' split at h
  all_goals try dsimp only at h
  all_goals try (repeat' split at h)
  all_goals first | (cases h; done) | (have e := Sum.inl.inj h; exact e.symm)
set_option maxRecDepth 100000 in
set_option maxHeartbeats 4000000 in
theorem h_power {G : zG} {ad : Nat → Nat} {d n : Nat} {w0 k9 b9 : Int32} {A : As} {M : zM} (hd : 13 ≤ d) (hS : Sa ad M A n) (hn : n < 64) : zMet G mL_power d [.ref ((ad 0)), .int w0, .int k9, .int b9] M (Hst ad M n A (sPow w0 k9 b9 A) cd1) := by
  obtain ⟨hcb, hcx⟩ := hS.cb (by omega)
  have hL := hS.1.1
  refine zMet_of (by decide +kernel) (Nat.le_of_ble_eq_true rfl) rfl hcb ?_
  show zw G mL_power d _ _ _ 0 [some (.ref ((ad 0))), some (.int w0), some (.int k9), some (.int b9), none] [] M
  have hthr : ∀ k M9, Pst ad M n (sPow w0 k9 b9 A) (.inr k) M9 → zt G mL_power d (zC M) (zS M) (Hst ad M n A (sPow w0 k9 b9 A) cd1) 4 [some (.ref ((ad 0))), some (.int w0), some (.int k9), some (.int b9), none] k M9 := by
    intro k M9 h
    obtain hk9 := x_sPow h.1.symm
    subst hk9
    refine zt_catch (by decide) [] (0, 7, 10, 13) [] rfl (fun z hz => by cases hz) (by decide) (by decide) ck1 cs1 (fun q9 => ?_)
    refine zr_astore (lv' := [some (.ref ((ad 0))), some (.int w0), some (.int k9), some (.int b9), some (.ref q9)]) dL_power_10 (Nat.le_of_ble_eq_true rfl) (Nat.le_of_ble_eq_true rfl) rfl rfl ?_
    refine zr_iconst (v := nI 1) dL_power_12 (by decide) ?_
    refine zr_iret dL_power_13 rfl ?_
    exact Hst.x h rfl
  refine zr_aload_n dL_power_0 rfl ?_
  refine zr_iload_n dL_power_1 rfl ?_
  refine zr_iload_n dL_power_2 rfl ?_
  refine zr_iload_n dL_power_3 rfl ?_
  refine zr_callV (md' := mX11_power) (As := [.int w0, .int k9, .int b9]) dL_power_4 mlL_68 okX11_power rfl inX11_power slX11_power (by decide) (hL.K 0 12) rfl (by omega) (Nat.le_of_ble_eq_true rfl) hcb (a_power (d := d - 1) (by omega) hS hn) (fun k M9 h => hthr k M9 h) (fun v9 M1 hq => ?_)
  have hv9 := v_sPow hq.1.symm
  subst hv9
  have hL1 := hq.2.1.1.1
  refine zr_goto 14 dL_power_7 (by decide) ?_
  refine zr_iconst (v := nI 0) dL_power_14 (by decide) ?_
  refine zr_iret dL_power_15 rfl ?_
  exact Hst.v hq
set_option maxRecDepth 100000 in
set_option maxHeartbeats 4000000 in
theorem x_sReo {A : As} {k : Nat} (h : (sReo A).2 = .inr k) : k = 2 := by
  unfold sReo at h
  repeat' split at h
  all_goals try dsimp only at h
  all_goals try (repeat' split at h)
  all_goals first | (cases h; done) | (have e := Sum.inr.inj h; omega)
set_option maxRecDepth 100000 in
set_option maxHeartbeats 4000000 in
theorem v_sReo {A : As} {v : Option Value} (h : (sReo A).2 = .inl v) : ∃ x, v = some (.int x) := by
  unfold sReo at h
  repeat' split at h
  all_goals try dsimp only at h
  all_goals try (repeat' split at h)
  all_goals first | (cases h; done) | (have e := Sum.inl.inj h; exact ⟨_, e.symm⟩)
set_option maxRecDepth 100000 in
set_option maxHeartbeats 4000000 in
theorem h_reopen {G : zG} {ad : Nat → Nat} {d n : Nat} {A : As} {M : zM} (hd : 13 ≤ d) (hS : Sa ad M A n) (hn : n < 64) : zMet G mL_reopen d [.ref ((ad 0)), .ref ((ad 46))] M (Hst ad M n A (sReo A) cd1) := by
  obtain ⟨hcb, hcx⟩ := hS.cb (by omega)
  have hL := hS.1.1
  refine zMet_of (by decide +kernel) (Nat.le_of_ble_eq_true rfl) rfl hcb ?_
  show zw G mL_reopen d _ _ _ 0 [some (.ref ((ad 0))), some (.ref ((ad 46))), none] [] M
  have hthr : ∀ k M9, Pst ad M n (sReo A) (.inr k) M9 → zt G mL_reopen d (zC M) (zS M) (Hst ad M n A (sReo A) cd1) 3 [some (.ref ((ad 0))), some (.ref ((ad 46))), none] k M9 := by
    intro k M9 h
    obtain hk9 := x_sReo h.1.symm
    subst hk9
    refine zt_catch (by decide) [] (0, 8, 11, 27) [] rfl (fun z hz => by cases hz) (by decide) (by decide) ck2 cs2 (fun q9 => ?_)
    refine zr_astore_n (lv' := [some (.ref ((ad 0))), some (.ref ((ad 46))), some (.ref q9)]) dL_reopen_11 (Nat.le_of_ble_eq_true rfl) (Nat.le_of_ble_eq_true rfl) rfl rfl ?_
    refine zr_iconst (v := nI 1) dL_reopen_12 (by decide) ?_
    refine zr_iret dL_reopen_13 rfl ?_
    exact Hst.x h rfl
  refine zr_aload_n dL_reopen_0 rfl ?_
  refine zr_iconst (v := nI 0) dL_reopen_1 (by decide) ?_
  refine zr_aload_n dL_reopen_2 rfl ?_
  refine zr_callV (md' := mX11_reopen) (As := []) dL_reopen_3 mlL_72 okX11_reopen rfl inX11_reopen slX11_reopen (by decide) (hL.K 0 12) rfl (by omega) (Nat.le_of_ble_eq_true rfl) hcb (a_reopen (d := d - 1) (by omega) hS hn) (fun k M9 h => hthr k M9 h) (fun v9 M1 hq => ?_)
  obtain ⟨x9, hv9⟩ := v_sReo hq.1.symm
  subst hv9
  have hL1 := hq.2.1.1.1
  refine zr_i2l dL_reopen_6 ?_
  refine zr_last dL_reopen_7 (hL1.K 46 17) (vin0 hL1) ?_
  refine zr_goto 14 dL_reopen_8 (by decide) ?_
  refine zr_iconst (v := nI 0) dL_reopen_14 (by decide) ?_
  refine zr_iret dL_reopen_15 rfl ?_
  exact Hst.j hq (Or.inl ⟨x9, rfl, rfl⟩)
set_option maxRecDepth 100000 in
set_option maxHeartbeats 4000000 in
theorem x_sTold {x0 : Int32} {A : As} {k : Nat} (h : (sTold x0 A).2 = .inr k) : k = 1 := by
  unfold sTold at h
  repeat' split at h
  all_goals try dsimp only at h
  all_goals try (repeat' split at h)
  all_goals first | (cases h; done) | (have e := Sum.inr.inj h; omega)
set_option maxRecDepth 100000 in
set_option maxHeartbeats 4000000 in
theorem v_sTold {x0 : Int32} {A : As} {v : Option Value} (h : (sTold x0 A).2 = .inl v) : ∃ x, v = some (.int x) := by
  unfold sTold at h
  repeat' split at h
  all_goals try dsimp only at h
  all_goals try (repeat' split at h)
  all_goals first | (cases h; done) | (have e := Sum.inl.inj h; exact ⟨_, e.symm⟩)
set_option maxRecDepth 100000 in
set_option maxHeartbeats 4000000 in
theorem h_told {G : zG} {ad : Nat → Nat} {d n : Nat} {x0 : Int32} {A : As} {M : zM} (hd : 13 ≤ d) (hS : Sa ad M A n) (hn : n < 64) : zMet G mL_told d [.ref ((ad 0)), .int x0, .ref ((ad 46))] M (Hst ad M n A (sTold x0 A) cd1) := by
  obtain ⟨hcb, hcx⟩ := hS.cb (by omega)
  have hL := hS.1.1
  refine zMet_of (by decide +kernel) (Nat.le_of_ble_eq_true rfl) rfl hcb ?_
  show zw G mL_told d _ _ _ 0 [some (.ref ((ad 0))), some (.int x0), some (.ref ((ad 46))), none] [] M
  have hthr : ∀ k M9, Pst ad M n (sTold x0 A) (.inr k) M9 → zt G mL_told d (zC M) (zS M) (Hst ad M n A (sTold x0 A) cd1) 4 [some (.ref ((ad 0))), some (.int x0), some (.ref ((ad 46))), none] k M9 := by
    intro k M9 h
    obtain hk9 := x_sTold h.1.symm
    subst hk9
    refine zt_catch (by decide) [] (0, 9, 12, 13) [] rfl (fun z hz => by cases hz) (by decide) (by decide) ck1 cs1 (fun q9 => ?_)
    refine zr_astore_n (lv' := [some (.ref ((ad 0))), some (.int x0), some (.ref ((ad 46))), some (.ref q9)]) dL_told_12 (Nat.le_of_ble_eq_true rfl) (Nat.le_of_ble_eq_true rfl) rfl rfl ?_
    refine zr_iconst (v := nI 1) dL_told_13 (by decide) ?_
    refine zr_iret dL_told_14 rfl ?_
    exact Hst.x h rfl
  refine zr_aload_n dL_told_0 rfl ?_
  refine zr_iconst (v := nI 0) dL_told_1 (by decide) ?_
  refine zr_aload_n dL_told_2 rfl ?_
  refine zr_iload_n dL_told_3 rfl ?_
  refine zr_callV (md' := mX11_told) (As := [.int x0]) dL_told_4 mlL_75 okX11_told rfl inX11_told slX11_told (by decide) (hL.K 0 12) rfl (by omega) (Nat.le_of_ble_eq_true rfl) hcb (a_told (d := d - 1) (by omega) hS hn) (fun k M9 h => hthr k M9 h) (fun v9 M1 hq => ?_)
  obtain ⟨x9, hv9⟩ := v_sTold hq.1.symm
  subst hv9
  have hL1 := hq.2.1.1.1
  refine zr_i2l dL_told_7 ?_
  refine zr_last dL_told_8 (hL1.K 46 17) (vin0 hL1) ?_
  refine zr_goto 15 dL_told_9 (by decide) ?_
  refine zr_iconst (v := nI 0) dL_told_15 (by decide) ?_
  refine zr_iret dL_told_16 rfl ?_
  exact Hst.j hq (Or.inl ⟨x9, rfl, rfl⟩)
set_option maxRecDepth 100000 in
set_option maxHeartbeats 4000000 in
theorem x_sDig {s0 : Int32} {A : As} {k : Nat} (h : (sDig s0 A).2 = .inr k) : k = 0 ∨ k = 3 := by
  unfold sDig sView at h
  repeat' split at h
  all_goals try dsimp only at h
  all_goals try (repeat' split at h)
  all_goals first | (cases h; done) | (have e := Sum.inr.inj h; omega)
set_option maxRecDepth 100000 in
set_option maxHeartbeats 4000000 in
theorem v_sDig {s0 : Int32} {A : As} {v : Option Value} (h : (sDig s0 A).2 = .inl v) : ∃ x, v = some (.long x) := by
  unfold sDig sView at h
  repeat' split at h
  all_goals try dsimp only at h
  all_goals try (repeat' split at h)
  all_goals first | (cases h; done) | (have e := Sum.inl.inj h; exact ⟨_, e.symm⟩)
set_option maxRecDepth 100000 in
set_option maxHeartbeats 4000000 in
theorem h_digest {G : zG} {ad : Nat → Nat} {d n : Nat} {s0 : Int32} {A : As} {M : zM} (hd : 13 ≤ d) (hS : Sa ad M A n) (hn : n < 64) : zMet G mL_digest d [.ref ((ad 0)), .int s0, .ref ((ad 46))] M (Hst ad M n A (sDig s0 A) cdW) := by
  obtain ⟨hcb, hcx⟩ := hS.cb (by omega)
  have hL := hS.1.1
  refine zMet_of (by decide +kernel) (Nat.le_of_ble_eq_true rfl) rfl hcb ?_
  show zw G mL_digest d _ _ _ 0 [some (.ref ((ad 0))), some (.int s0), some (.ref ((ad 46))), none] [] M
  have hthr : ∀ k M9, Pst ad M n (sDig s0 A) (.inr k) M9 → zt G mL_digest d (zC M) (zS M) (Hst ad M n A (sDig s0 A) cdW) 4 [some (.ref ((ad 0))), some (.int s0), some (.ref ((ad 46))), none] k M9 := by
    intro k M9 h
    obtain hk9 := x_sDig h.1.symm
    rcases hk9 with rfl | rfl
    · refine zt_catch (by decide) [] (0, 8, 11, 21) [(0, 8, 14, 45)] rfl (fun z hz => by cases hz) (by decide) (by decide) ck0 cs0 (fun q9 => ?_)
      refine zr_astore_n (lv' := [some (.ref ((ad 0))), some (.int s0), some (.ref ((ad 46))), some (.ref q9)]) dL_digest_11 (Nat.le_of_ble_eq_true rfl) (Nat.le_of_ble_eq_true rfl) rfl rfl ?_
      refine zr_iconst (v := nI 1) dL_digest_12 (by decide) ?_
      refine zr_iret dL_digest_13 rfl ?_
      exact Hst.x h rfl
    · refine zt_catch (by decide) [(0, 8, 11, 21)] (0, 8, 14, 45) [] rfl (fun z hz => by
            rcases List.mem_cons.mp hz with rfl | hz
            · exact ⟨0, by decide, by decide, by decide, ck0⟩
            · cases hz) (by decide) (by decide) ck3 cs3 (fun q9 => ?_)
      refine zr_astore_n (lv' := [some (.ref ((ad 0))), some (.int s0), some (.ref ((ad 46))), some (.ref q9)]) dL_digest_14 (Nat.le_of_ble_eq_true rfl) (Nat.le_of_ble_eq_true rfl) rfl rfl ?_
      refine zr_iconst (v := nI 2) dL_digest_15 (by decide) ?_
      refine zr_iret dL_digest_16 rfl ?_
      exact Hst.x h rfl
  refine zr_aload_n dL_digest_0 rfl ?_
  refine zr_iconst (v := nI 0) dL_digest_1 (by decide) ?_
  refine zr_aload_n dL_digest_2 rfl ?_
  refine zr_iload_n dL_digest_3 rfl ?_
  refine zr_callV (md' := mX11_digest) (As := [.int s0]) dL_digest_4 mlL_78 okX11_digest rfl inX11_digest slX11_digest (by decide) (hL.K 0 12) rfl (by omega) (Nat.le_of_ble_eq_true rfl) hcb (a_digest (d := d - 1) (by omega) hS hn) (fun k M9 h => hthr k M9 h) (fun v9 M1 hq => ?_)
  obtain ⟨x9, hv9⟩ := v_sDig hq.1.symm
  subst hv9
  have hL1 := hq.2.1.1.1
  refine zr_last dL_digest_7 (hL1.K 46 17) (vin0 hL1) ?_
  refine zr_goto 17 dL_digest_8 (by decide) ?_
  refine zr_iconst (v := nI 0) dL_digest_17 (by decide) ?_
  refine zr_iret dL_digest_18 rfl ?_
  exact Hst.j hq (Or.inr rfl)
set_option maxRecDepth 100000 in
set_option maxHeartbeats 4000000 in
theorem x_sChk {A : As} {k : Nat} (h : (sChk A).2 = .inr k) : k = 0 := by
  unfold sChk at h
  repeat' split at h
  all_goals try dsimp only at h
  all_goals try (repeat' split at h)
  all_goals first | (cases h; done) | (have e := Sum.inr.inj h; omega)
set_option maxRecDepth 100000 in
set_option maxHeartbeats 4000000 in
theorem v_sChk {A : As} {v : Option Value} (h : (sChk A).2 = .inl v) : ∃ x, v = some (.int x) := by
  unfold sChk at h
  repeat' split at h
  all_goals try dsimp only at h
  all_goals try (repeat' split at h)
  all_goals first | (cases h; done) | (have e := Sum.inl.inj h; exact ⟨_, e.symm⟩)
set_option maxRecDepth 100000 in
set_option maxHeartbeats 4000000 in
theorem h_check {G : zG} {ad : Nat → Nat} {d n : Nat} {A : As} {M : zM} (hd : 13 ≤ d) (hS : Sa ad M A n) (hn : n < 64) : zMet G mL_check d [.ref ((ad 0)), .ref ((ad 46))] M (Hst ad M n A (sChk A) cd1) := by
  obtain ⟨hcb, hcx⟩ := hS.cb (by omega)
  have hL := hS.1.1
  refine zMet_of (by decide +kernel) (Nat.le_of_ble_eq_true rfl) rfl hcb ?_
  show zw G mL_check d _ _ _ 0 [some (.ref ((ad 0))), some (.ref ((ad 46))), none] [] M
  have hthr : ∀ k M9, Pst ad M n (sChk A) (.inr k) M9 → zt G mL_check d (zC M) (zS M) (Hst ad M n A (sChk A) cd1) 3 [some (.ref ((ad 0))), some (.ref ((ad 46))), none] k M9 := by
    intro k M9 h
    obtain hk9 := x_sChk h.1.symm
    subst hk9
    refine zt_catch (by decide) [] (0, 8, 11, 21) [] rfl (fun z hz => by cases hz) (by decide) (by decide) ck0 cs0 (fun q9 => ?_)
    refine zr_astore_n (lv' := [some (.ref ((ad 0))), some (.ref ((ad 46))), some (.ref q9)]) dL_check_11 (Nat.le_of_ble_eq_true rfl) (Nat.le_of_ble_eq_true rfl) rfl rfl ?_
    refine zr_iconst (v := nI 1) dL_check_12 (by decide) ?_
    refine zr_iret dL_check_13 rfl ?_
    exact Hst.x h rfl
  refine zr_aload_n dL_check_0 rfl ?_
  refine zr_iconst (v := nI 0) dL_check_1 (by decide) ?_
  refine zr_aload_n dL_check_2 rfl ?_
  refine zr_callV (md' := mX11_check) (As := []) dL_check_3 mlL_82 okX11_check rfl inX11_check slX11_check (by decide) (hL.K 0 12) rfl (by omega) (Nat.le_of_ble_eq_true rfl) hcb (a_check (d := d - 1) (by omega) hS hn) (fun k M9 h => hthr k M9 h) (fun v9 M1 hq => ?_)
  obtain ⟨x9, hv9⟩ := v_sChk hq.1.symm
  subst hv9
  have hL1 := hq.2.1.1.1
  refine zr_i2l dL_check_6 ?_
  refine zr_last dL_check_7 (hL1.K 46 17) (vin0 hL1) ?_
  refine zr_goto 14 dL_check_8 (by decide) ?_
  refine zr_iconst (v := nI 0) dL_check_14 (by decide) ?_
  refine zr_iret dL_check_15 rfl ?_
  exact Hst.j hq (Or.inl ⟨x9, rfl, rfl⟩)
