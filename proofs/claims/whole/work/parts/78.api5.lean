/-! ===== LsmStore: calls (5) ===== -/
set_option maxRecDepth 100000 in
set_option maxHeartbeats 4000000 in
theorem a_seek {G : zG} {ad : Nat → Nat} {d n : Nat} {s0 bh : Int32} {A : As} {M : zM} (hd : 9 ≤ d) (hS : Sa ad M A n) (hn : n < 64)  : zMet G mX11_seek d [.ref ((ad 0)), .int s0, .int bh] M (Pst ad M n (sSeek s0 bh A)) := by
  obtain ⟨hcb, hcx⟩ := hS.cb (by omega)
  obtain ⟨⟨hL, hrm, hK, hV, ⟨pl, hpl, hpr⟩, ⟨tr, htr, htr9⟩, ⟨lf, ct, du, cn, hP⟩, hMw, hcn⟩, hcase⟩ := id hS
  obtain ⟨E, Ls, n1, gm, v, hO9⟩ := hS.ond (by omega)
  have hthr : (aF A = 1 ∧ ∀ f, sView A s0 f = (A, .inr 0)) ∨ aF A = 0 := by
    rcases (show aF A = 1 ∨ aF A = 0 by have := hS.on; omega) with z | z
    · exact Or.inl ⟨z, fun f => if_pos z⟩
    · exact Or.inr z
  have hx0 : aF A = 1 → Pst ad M n (sSeek s0 bh A) (.inr 0) (zthr M) := fun z => by
    have e9 : (sSeek s0 bh A) = (A, .inr 0) := if_pos z
    rw [e9]
    exact ⟨rfl, hS.thr, 1, thr_fk ad M⟩
  have hx3 : aF A = 0 → vmp A s0 = none → Pst ad M n (sSeek s0 bh A) (.inr 3) (zthr M) := fun z1 z2 => by
    have e9 : (sSeek s0 bh A) = (A, .inr 3) := by
      unfold sSeek sView
      rw [if_neg (by omega), z2]
    rw [e9]
    exact ⟨rfl, hS.thr, 1, thr_fk ad M⟩
  refine zMet_of (by decide +kernel) (Nat.le_of_ble_eq_true rfl) rfl hcb ?_
  show zw G mX11_seek d _ _ _ 0 [some (.ref ((ad 0))), some (.int s0), some (.int bh), none] [] M
  refine zr_aload_n dX11_seek_0 rfl ?_
  refine zr_iload_n dX11_seek_1 rfl ?_
  refine zr_callV (md' := mX11_viewOf) (As := [.int s0]) dX11_seek_2 mlX11_158 okX11_viewOf rfl inX11_viewOf slX11_viewOf (by decide) (hL.K 0 12) rfl (by omega) (Nat.le_of_ble_eq_true rfl) hcb (c_viewOf (d := d - 1) (s0 := s0) (by omega) hS hn hO9) (fun k M9 h => zt_out rfl (by rcases h with ⟨h0, h, e9⟩ | ⟨h0, h1, h, e9⟩ | ⟨_, _, _, _, h, _⟩; cases h; rw [e9]; exact hx0 h0; cases h; rw [e9]; exact hx3 h0 h1; cases h)) (fun v M9 hq => ?_)
  rcases hq with ⟨_, e0, _⟩ | ⟨_, _, e0, _⟩ | ⟨hon, w9, ms9, hvm, e0, e9⟩
  · cases e0
  · cases e0
  cases e0
  rw [e9]
  obtain ⟨vm1, vm2, vm3, vm4⟩ := hvm
  obtain ⟨hOn, hvw, hVs, hn64⟩ := hO9 hon
  obtain ⟨ar, us, to, to2, g, cm, rs, hO, hU, hB⟩ := id hOn
  have hu := hU.2.2.2.1.2.1
  refine zr_istore_n (lv' := [some (.ref ((ad 0))), some (.int s0), some (.int bh), some (.int (nI w9))]) dX11_seek_5 (Nat.le_of_ble_eq_true rfl) (Nat.le_of_ble_eq_true rfl) rfl rfl ?_
  refine zr_aload_n dX11_seek_6 rfl ?_
  refine zr_aload_n dX11_seek_7 rfl ?_
  refine zr_iload_n dX11_seek_8 rfl ?_
  refine zr_iload_n dX11_seek_9 rfl ?_
  refine zr_if_eq 17 dX11_seek_10 (by decide) (fun h10 => ?_) (fun h10 => ?_)
  · refine zr_ldc dX11_seek_17 ctX11_175 ?_
    refine zr_as (y := nI 2147483647) (by decide) ?_
    refine zr_callV (md' := mX11_nearest) (As := [.int (nI w9), .int (nI 2147483647)]) dX11_seek_19 mlX11_176 okX11_nearest rfl inX11_nearest slX11_nearest (by decide) (hL.K 0 12) rfl (by omega) (Nat.le_of_ble_eq_true rfl) hcb (c_nearest (d := d - 1) (w := w9) (e := 2147483647) (kl := (aK A).length) (by omega) hcb hL hO.1 hU.2.2.2.1.1 hu (fun q hq => (hU.2.2.2.1.2.2.1 q hq).1) (by have := hU.2.2.2.1.2.2.2.1; omega) vm2 hK.1 hK.2.2 (Or.inr rfl)) (fun k M9 h => by obtain ⟨_, h, _⟩ := h; cases h) (fun v M1 hq => ?_)
    obtain ⟨y, e0, hFp, hy⟩ := hq
    cases e0
    have hF0 := hFp.fl
    have hL1 := hFp.lay hL
    have hcb1 := hFp.cb hcb
    rw [hK.2.1] at hy
    have hsp := seek_spec (bh := bh) hu (Or.inr rfl) ⟨fun z => (by cases z), fun z => absurd h10 z⟩ vm3 vm4 hy
    have h4a : zI M1 193 (ad 4) = nI (aK A).length := (hFp.1.1 193 4 (by decide) (fun z => absurd z.2 (by decide))).trans hK.1
    have h6a : zI M1 193 (ad 6) = nI (aV A).length := (hFp.1.1 193 6 (by decide) (fun z => absurd z.2 (by decide))).trans hV.1
    have eD1 : zA M1 (ad 2) = zA M (ad 2) := hF0.rA (by decide) (by decide)
    cases y with
    | none =>
      refine zr_as (y := -1) rfl ?_
      refine zr_callV (md' := mX11_take) (As := [.int ((-1))]) dX11_seek_22 mlX11_180 okX11_take rfl inX11_take slX11_take (by decide) (hL1.K 0 12) rfl (by omega) (Nat.le_of_ble_eq_true rfl) hcb1 (c_takeM (d := d - 1) hcb1) (fun k M1 h => by cases h.1) (fun v M9 hq => ?_)
      obtain ⟨e0, e9⟩ := hq
      cases e0
      rw [e9]
      refine zr_iret dX11_seek_25 rfl ?_
      have e9 : sSeek s0 bh A = (A, .inl (some (.int (-1)))) := by
        unfold sSeek sView
        rw [if_neg (by omega), vm1]
        dsimp only
        rw [hsp]
        rfl
      rw [e9]
      exact ⟨rfl, hS.kv hF0 (by decide) (hK := ⟨h4a, by rw [hF0.rA (i := 5) (by decide) (by decide)]; exact hK.2.1, hK.2.2⟩) (hV := ⟨h6a, by rw [hF0.rA (i := 7) (by decide) (by decide)]; exact hV.2.1, hV.2.2⟩) (hp := hFp.2 hS.1.2.2.2.2.1), 0, hF0.mono0⟩
    | some s9 =>
      refine zr_as (y := nI s9) rfl ?_
      have hmem := ((hy.1 s9 rfl).1.1 s9 rfl).1
      have hwf := (hU.2.2.2.1.2.2.1 s9 hmem).1
      have hs9 : s9 < 303104 := by have := (up_eb hO.1 (Nat.le_refl 3) hmem).1; omega
      refine zr_callV (md' := mX11_take) (As := [.int (nI s9)]) dX11_seek_22 mlX11_180 okX11_take rfl inX11_take slX11_take (by decide) (hL1.K 0 12) rfl (by omega) (Nat.le_of_ble_eq_true rfl) hcb1 (c_take (d := d - 1) (s9 := s9) (kl := (aK A).length) (vl := (aV A).length) (by omega) hcb1 hL1 hs9 (by rw [eD1]; exact hwf.2.2.1) (by rw [eD1]; exact hwf.2.2.2) h4a hK.2.2 h6a hV.2.2) (fun k M1 h => by cases h.1) (fun v M2 hq => ?_)
      obtain ⟨e0, hF2, r1, r2, r3⟩ := hq
      rw [eD1] at e0 r1 r2
      cases e0
      refine zr_iret dX11_seek_25 rfl ?_
      have e9 : sSeek s0 bh A = ((aM A, eky (zA M (ad 2)) s9, eva (zA M (ad 2)) s9, aS A, aO A, aF A, aW A, aC A, aN A), .inl (some (.int (nI (eky (zA M (ad 2)) s9).length)))) := by
        unfold sSeek sView
        rw [if_neg (by omega), vm1]
        dsimp only
        rw [hsp]
        rfl
      rw [e9]
      have hF9 : Fl ad 0 [193] [5, 7, 9] [] M M2 := hF0.mono.trans0 hF2.mono
      refine ⟨by rw [show (eky (zA M (ad 2)) s9).length = ekl (zA M (ad 2)) s9 from rwl_len _ _], ?_, 0, hF9.mono0⟩
      exact hS.kv hF9 (by decide) (hK := r1) (hV := r2) (hp := by rw [r3]; exact hFp.2 hS.1.2.2.2.2.1)
  · refine zr_iconst (v := nI 0) dX11_seek_13 (by decide) ?_
    refine zr_goto 19 dX11_seek_14 (by decide) ?_
    refine zr_callV (md' := mX11_nearest) (As := [.int (nI w9), .int (nI 0)]) dX11_seek_19 mlX11_176 okX11_nearest rfl inX11_nearest slX11_nearest (by decide) (hL.K 0 12) rfl (by omega) (Nat.le_of_ble_eq_true rfl) hcb (c_nearest (d := d - 1) (w := w9) (e := 0) (kl := (aK A).length) (by omega) hcb hL hO.1 hU.2.2.2.1.1 hu (fun q hq => (hU.2.2.2.1.2.2.1 q hq).1) (by have := hU.2.2.2.1.2.2.2.1; omega) vm2 hK.1 hK.2.2 (Or.inl rfl)) (fun k M9 h => by obtain ⟨_, h, _⟩ := h; cases h) (fun v M1 hq => ?_)
    obtain ⟨y, e0, hFp, hy⟩ := hq
    cases e0
    have hF0 := hFp.fl
    have hL1 := hFp.lay hL
    have hcb1 := hFp.cb hcb
    rw [hK.2.1] at hy
    have hsp := seek_spec (bh := bh) hu (Or.inl rfl) ⟨fun _ => h10, fun _ => rfl⟩ vm3 vm4 hy
    have h4a : zI M1 193 (ad 4) = nI (aK A).length := (hFp.1.1 193 4 (by decide) (fun z => absurd z.2 (by decide))).trans hK.1
    have h6a : zI M1 193 (ad 6) = nI (aV A).length := (hFp.1.1 193 6 (by decide) (fun z => absurd z.2 (by decide))).trans hV.1
    have eD1 : zA M1 (ad 2) = zA M (ad 2) := hF0.rA (by decide) (by decide)
    cases y with
    | none =>
      refine zr_as (y := -1) rfl ?_
      refine zr_callV (md' := mX11_take) (As := [.int ((-1))]) dX11_seek_22 mlX11_180 okX11_take rfl inX11_take slX11_take (by decide) (hL1.K 0 12) rfl (by omega) (Nat.le_of_ble_eq_true rfl) hcb1 (c_takeM (d := d - 1) hcb1) (fun k M1 h => by cases h.1) (fun v M9 hq => ?_)
      obtain ⟨e0, e9⟩ := hq
      cases e0
      rw [e9]
      refine zr_iret dX11_seek_25 rfl ?_
      have e9 : sSeek s0 bh A = (A, .inl (some (.int (-1)))) := by
        unfold sSeek sView
        rw [if_neg (by omega), vm1]
        dsimp only
        rw [hsp]
        rfl
      rw [e9]
      exact ⟨rfl, hS.kv hF0 (by decide) (hK := ⟨h4a, by rw [hF0.rA (i := 5) (by decide) (by decide)]; exact hK.2.1, hK.2.2⟩) (hV := ⟨h6a, by rw [hF0.rA (i := 7) (by decide) (by decide)]; exact hV.2.1, hV.2.2⟩) (hp := hFp.2 hS.1.2.2.2.2.1), 0, hF0.mono0⟩
    | some s9 =>
      refine zr_as (y := nI s9) rfl ?_
      have hmem := ((hy.1 s9 rfl).1.1 s9 rfl).1
      have hwf := (hU.2.2.2.1.2.2.1 s9 hmem).1
      have hs9 : s9 < 303104 := by have := (up_eb hO.1 (Nat.le_refl 3) hmem).1; omega
      refine zr_callV (md' := mX11_take) (As := [.int (nI s9)]) dX11_seek_22 mlX11_180 okX11_take rfl inX11_take slX11_take (by decide) (hL1.K 0 12) rfl (by omega) (Nat.le_of_ble_eq_true rfl) hcb1 (c_take (d := d - 1) (s9 := s9) (kl := (aK A).length) (vl := (aV A).length) (by omega) hcb1 hL1 hs9 (by rw [eD1]; exact hwf.2.2.1) (by rw [eD1]; exact hwf.2.2.2) h4a hK.2.2 h6a hV.2.2) (fun k M1 h => by cases h.1) (fun v M2 hq => ?_)
      obtain ⟨e0, hF2, r1, r2, r3⟩ := hq
      rw [eD1] at e0 r1 r2
      cases e0
      refine zr_iret dX11_seek_25 rfl ?_
      have e9 : sSeek s0 bh A = ((aM A, eky (zA M (ad 2)) s9, eva (zA M (ad 2)) s9, aS A, aO A, aF A, aW A, aC A, aN A), .inl (some (.int (nI (eky (zA M (ad 2)) s9).length)))) := by
        unfold sSeek sView
        rw [if_neg (by omega), vm1]
        dsimp only
        rw [hsp]
        rfl
      rw [e9]
      have hF9 : Fl ad 0 [193] [5, 7, 9] [] M M2 := hF0.mono.trans0 hF2.mono
      refine ⟨by rw [show (eky (zA M (ad 2)) s9).length = ekl (zA M (ad 2)) s9 from rwl_len _ _], ?_, 0, hF9.mono0⟩
      exact hS.kv hF9 (by decide) (hK := r1) (hV := r2) (hp := by rw [r3]; exact hFp.2 hS.1.2.2.2.2.1)
set_option maxRecDepth 100000 in
set_option maxHeartbeats 4000000 in
theorem a_before {G : zG} {ad : Nat → Nat} {d n : Nat} {s0 : Int32} {A : As} {M : zM} (hd : 9 ≤ d) (hS : Sa ad M A n) (hn : n < 64)  : zMet G mX11_before d [.ref ((ad 0)), .int s0] M (Pst ad M n (sBef s0 A)) := by
  obtain ⟨hcb, hcx⟩ := hS.cb (by omega)
  obtain ⟨⟨hL, hrm, hK, hV, ⟨pl, hpl, hpr⟩, ⟨tr, htr, htr9⟩, ⟨lf, ct, du, cn, hP⟩, hMw, hcn⟩, hcase⟩ := id hS
  obtain ⟨E, Ls, n1, gm, v, hO9⟩ := hS.ond (by omega)
  have hthr : (aF A = 1 ∧ ∀ f, sView A s0 f = (A, .inr 0)) ∨ aF A = 0 := by
    rcases (show aF A = 1 ∨ aF A = 0 by have := hS.on; omega) with z | z
    · exact Or.inl ⟨z, fun f => if_pos z⟩
    · exact Or.inr z
  have hx0 : aF A = 1 → Pst ad M n (sBef s0 A) (.inr 0) (zthr M) := fun z => by
    have e9 : (sBef s0 A) = (A, .inr 0) := if_pos z
    rw [e9]
    exact ⟨rfl, hS.thr, 1, thr_fk ad M⟩
  have hx3 : aF A = 0 → vmp A s0 = none → Pst ad M n (sBef s0 A) (.inr 3) (zthr M) := fun z1 z2 => by
    have e9 : (sBef s0 A) = (A, .inr 3) := by
      unfold sBef sView
      rw [if_neg (by omega), z2]
    rw [e9]
    exact ⟨rfl, hS.thr, 1, thr_fk ad M⟩
  refine zMet_of (by decide +kernel) (Nat.le_of_ble_eq_true rfl) rfl hcb ?_
  show zw G mX11_before d _ _ _ 0 [some (.ref ((ad 0))), some (.int s0), none] [] M
  refine zr_aload_n dX11_before_0 rfl ?_
  refine zr_iload_n dX11_before_1 rfl ?_
  refine zr_callV (md' := mX11_viewOf) (As := [.int s0]) dX11_before_2 mlX11_158 okX11_viewOf rfl inX11_viewOf slX11_viewOf (by decide) (hL.K 0 12) rfl (by omega) (Nat.le_of_ble_eq_true rfl) hcb (c_viewOf (d := d - 1) (s0 := s0) (by omega) hS hn hO9) (fun k M9 h => zt_out rfl (by rcases h with ⟨h0, h, e9⟩ | ⟨h0, h1, h, e9⟩ | ⟨_, _, _, _, h, _⟩; cases h; rw [e9]; exact hx0 h0; cases h; rw [e9]; exact hx3 h0 h1; cases h)) (fun v M9 hq => ?_)
  rcases hq with ⟨_, e0, _⟩ | ⟨_, _, e0, _⟩ | ⟨hon, w9, ms9, hvm, e0, e9⟩
  · cases e0
  · cases e0
  cases e0
  rw [e9]
  obtain ⟨vm1, vm2, vm3, vm4⟩ := hvm
  obtain ⟨hOn, hvw, hVs, hn64⟩ := hO9 hon
  obtain ⟨ar, us, to, to2, g, cm, rs, hO, hU, hB⟩ := id hOn
  have hu := hU.2.2.2.1.2.1
  refine zr_istore_n (lv' := [some (.ref ((ad 0))), some (.int s0), some (.int (nI w9))]) dX11_before_5 (Nat.le_of_ble_eq_true rfl) (Nat.le_of_ble_eq_true rfl) rfl rfl ?_
  refine zr_aload_n dX11_before_6 rfl ?_
  refine zr_aload_n dX11_before_7 rfl ?_
  refine zr_iload_n dX11_before_8 rfl ?_
  refine zr_callV (md' := mX11_nearestBefore) (As := [.int (nI w9)]) dX11_before_9 mlX11_181 okX11_nearestBefore rfl inX11_nearestBefore slX11_nearestBefore (by decide) (hL.K 0 12) rfl (by omega) (Nat.le_of_ble_eq_true rfl) hcb (c_nearestBefore (d := d - 1) (w := w9) (kl := (aK A).length) (by omega) hcb hL hO.1 hU.2.2.2.1.1 hu (fun q hq => (hU.2.2.2.1.2.2.1 q hq).1) (by have := hU.2.2.2.1.2.2.2.1; omega) vm2 hK.1 hK.2.2) (fun k M9 h => by obtain ⟨_, h, _⟩ := h; cases h) (fun v M1 hq => ?_)
  obtain ⟨y, e0, hFp, hy⟩ := hq
  cases e0
  have hF0 := hFp.fl
  have hL1 := hFp.lay hL
  have hcb1 := hFp.cb hcb
  rw [hK.2.1] at hy
  have hsp := bef_spec hu vm3 vm4 hy
  have h4a : zI M1 193 (ad 4) = nI (aK A).length := (hFp.1.1 193 4 (by decide) (fun z => absurd z.2 (by decide))).trans hK.1
  have h6a : zI M1 193 (ad 6) = nI (aV A).length := (hFp.1.1 193 6 (by decide) (fun z => absurd z.2 (by decide))).trans hV.1
  have eD1 : zA M1 (ad 2) = zA M (ad 2) := hF0.rA (by decide) (by decide)
  cases y with
  | none =>
    refine zr_as (y := -1) rfl ?_
    refine zr_callV (md' := mX11_take) (As := [.int ((-1))]) dX11_before_12 mlX11_180 okX11_take rfl inX11_take slX11_take (by decide) (hL1.K 0 12) rfl (by omega) (Nat.le_of_ble_eq_true rfl) hcb1 (c_takeM (d := d - 1) hcb1) (fun k M1 h => by cases h.1) (fun v M9 hq => ?_)
    obtain ⟨e0, e9⟩ := hq
    cases e0
    rw [e9]
    refine zr_iret dX11_before_15 rfl ?_
    have e9 : sBef s0 A = (A, .inl (some (.int (-1)))) := by
      unfold sBef sView
      rw [if_neg (by omega), vm1]
      dsimp only
      rw [hsp]
      rfl
    rw [e9]
    exact ⟨rfl, hS.kv hF0 (by decide) (hK := ⟨h4a, by rw [hF0.rA (i := 5) (by decide) (by decide)]; exact hK.2.1, hK.2.2⟩) (hV := ⟨h6a, by rw [hF0.rA (i := 7) (by decide) (by decide)]; exact hV.2.1, hV.2.2⟩) (hp := hFp.2 hS.1.2.2.2.2.1), 0, hF0.mono0⟩
  | some s9 =>
    refine zr_as (y := nI s9) rfl ?_
    have hmem := ((hy.1 s9 rfl).1.1 s9 rfl).1
    have hwf := (hU.2.2.2.1.2.2.1 s9 hmem).1
    have hs9 : s9 < 303104 := by have := (up_eb hO.1 (Nat.le_refl 3) hmem).1; omega
    refine zr_callV (md' := mX11_take) (As := [.int (nI s9)]) dX11_before_12 mlX11_180 okX11_take rfl inX11_take slX11_take (by decide) (hL1.K 0 12) rfl (by omega) (Nat.le_of_ble_eq_true rfl) hcb1 (c_take (d := d - 1) (s9 := s9) (kl := (aK A).length) (vl := (aV A).length) (by omega) hcb1 hL1 hs9 (by rw [eD1]; exact hwf.2.2.1) (by rw [eD1]; exact hwf.2.2.2) h4a hK.2.2 h6a hV.2.2) (fun k M1 h => by cases h.1) (fun v M2 hq => ?_)
    obtain ⟨e0, hF2, r1, r2, r3⟩ := hq
    rw [eD1] at e0 r1 r2
    cases e0
    refine zr_iret dX11_before_15 rfl ?_
    have e9 : sBef s0 A = ((aM A, eky (zA M (ad 2)) s9, eva (zA M (ad 2)) s9, aS A, aO A, aF A, aW A, aC A, aN A), .inl (some (.int (nI (eky (zA M (ad 2)) s9).length)))) := by
      unfold sBef sView
      rw [if_neg (by omega), vm1]
      dsimp only
      rw [hsp]
      rfl
    rw [e9]
    have hF9 : Fl ad 0 [193] [5, 7, 9] [] M M2 := hF0.mono.trans0 hF2.mono
    refine ⟨by rw [show (eky (zA M (ad 2)) s9).length = ekl (zA M (ad 2)) s9 from rwl_len _ _], ?_, 0, hF9.mono0⟩
    exact hS.kv hF9 (by decide) (hK := r1) (hV := r2) (hp := by rw [r3]; exact hFp.2 hS.1.2.2.2.2.1)
set_option maxRecDepth 100000 in
set_option maxHeartbeats 4000000 in
theorem a_digest {G : zG} {ad : Nat → Nat} {d n : Nat} {s0 : Int32} {A : As} {M : zM} (hd : 9 ≤ d) (hS : Sa ad M A n) (hn : n < 64)  : zMet G mX11_digest d [.ref ((ad 0)), .int s0] M (Pst ad M n (sDig s0 A)) := by
  obtain ⟨hcb, hcx⟩ := hS.cb (by omega)
  obtain ⟨⟨hL, hrm, hK, hV, ⟨pl, hpl, hpr⟩, ⟨tr, htr, htr9⟩, ⟨lf, ct, du, cn, hP⟩, hMw, hcn⟩, hcase⟩ := id hS
  obtain ⟨E, Ls, n1, gm, v, hO9⟩ := hS.ond (by omega)
  have hthr : (aF A = 1 ∧ ∀ f, sView A s0 f = (A, .inr 0)) ∨ aF A = 0 := by
    rcases (show aF A = 1 ∨ aF A = 0 by have := hS.on; omega) with z | z
    · exact Or.inl ⟨z, fun f => if_pos z⟩
    · exact Or.inr z
  have hx0 : aF A = 1 → Pst ad M n (sDig s0 A) (.inr 0) (zthr M) := fun z => by
    have e9 : (sDig s0 A) = (A, .inr 0) := if_pos z
    rw [e9]
    exact ⟨rfl, hS.thr, 1, thr_fk ad M⟩
  have hx3 : aF A = 0 → vmp A s0 = none → Pst ad M n (sDig s0 A) (.inr 3) (zthr M) := fun z1 z2 => by
    have e9 : (sDig s0 A) = (A, .inr 3) := by
      unfold sDig sView
      rw [if_neg (by omega), z2]
    rw [e9]
    exact ⟨rfl, hS.thr, 1, thr_fk ad M⟩
  refine zMet_of (by decide +kernel) (Nat.le_of_ble_eq_true rfl) rfl hcb ?_
  show zw G mX11_digest d _ _ _ 0 [some (.ref ((ad 0))), some (.int s0), none, none, none, none, none] [] M
  refine zr_aload_n dX11_digest_0 rfl ?_
  refine zr_iload_n dX11_digest_1 rfl ?_
  refine zr_callV (md' := mX11_viewOf) (As := [.int s0]) dX11_digest_2 mlX11_158 okX11_viewOf rfl inX11_viewOf slX11_viewOf (by decide) (hL.K 0 12) rfl (by omega) (Nat.le_of_ble_eq_true rfl) hcb (c_viewOf (d := d - 1) (s0 := s0) (by omega) hS hn hO9) (fun k M9 h => zt_out rfl (by rcases h with ⟨h0, h, e9⟩ | ⟨h0, h1, h, e9⟩ | ⟨_, _, _, _, h, _⟩; cases h; rw [e9]; exact hx0 h0; cases h; rw [e9]; exact hx3 h0 h1; cases h)) (fun v M9 hq => ?_)
  rcases hq with ⟨_, e0, _⟩ | ⟨_, _, e0, _⟩ | ⟨hon, w9, ms9, hvm, e0, e9⟩
  · cases e0
  · cases e0
  cases e0
  rw [e9]
  obtain ⟨vm1, vm2, vm3, vm4⟩ := hvm
  obtain ⟨hOn, hvw, hVs, hn64⟩ := hO9 hon
  obtain ⟨ar, us, to, to2, g, cm, rs, hO, hU, hB⟩ := id hOn
  have hu := hU.2.2.2.1.2.1
  refine zr_istore_n (lv' := [some (.ref ((ad 0))), some (.int s0), some (.int (nI w9)), none, none, none, none]) dX11_digest_5 (Nat.le_of_ble_eq_true rfl) (Nat.le_of_ble_eq_true rfl) rfl rfl ?_
  refine t_digest6 (by omega) hcb hL hOn hn64 vm2 vm3 vm4 (fun M1 hF1 => ?_)
  have e9 : sDig s0 A = (A, .inl (some (.long (dgs ms9)))) := by
    unfold sDig sView
    rw [if_neg (by omega), vm1]
  rw [e9]
  exact ⟨rfl, hS.same hF1 (by decide), 0, hF1.mono0⟩
set_option maxRecDepth 100000 in
set_option maxHeartbeats 4000000 in
theorem l_check {G : zG} {ad : Nat → Nat} {d k0 n0 : Nat} {Ls : Nat → List zF} {M1 : zM} {Q : zOut → zM → Prop} (hd : 6 ≤ d) (hcb1 : zC M1 ≤ 600128 ∧ zS M1 ≤ 7301098) (hL1 : Lay ad M1) (hV1 : ∀ l, l < 3 → Lv ad M1 l (Ls l) ∧ LC (zA M1 (ad 2)) (Ls l)) (hq0 : Q (.inl (some (.int (nI 0)))) M1) : ∀ (m i : Nat), 3 - i = m → i ≤ 3 → zw G mX11_check d k0 n0 Q 18 [some (.ref ((ad 0))), some (.int (nI 0)), some (.int (nI i))] [] M1 := by
  intro m
  induction m using Nat.strongRecOn with
  | _ m ih =>
    intro i hm hi
    refine zr_iload_n dX11_check_18 rfl ?_
    refine zr_iconst (v := nI 3) dX11_check_19 (by decide) ?_
    refine zr_icmp_geN 51 dX11_check_20 (by decide) (by omega) (by omega) (fun h20 => ?_) (fun h20 => ?_)
    · refine zr_iload_n dX11_check_51 rfl ?_
      refine zr_iret dX11_check_52 rfl ?_
      exact hq0
    · refine zr_iload_n dX11_check_23 rfl ?_
      refine zr_aload_n dX11_check_24 rfl ?_
      refine zr_getR dX11_check_25 lkX11_63 (by decide) (by decide) rfl (hL1.K 0 12) (hL1.R 360 0 22) ?_
      refine zr_iload_n dX11_check_28 rfl ?_
      refine zr_aaldK dX11_check_29 (Or.inl (hL1.K 22 18)) (hL1.N 22 3) (by omega) (by omega) (hL1.lv (by omega)) ?_
      refine zr_callV (md' := mX4_overlaps) (As := []) dX11_check_30 mlX11_258 okX4_overlaps rfl inX4_overlaps slX4_overlaps (by decide) (hL1.Kl (by omega)) rfl (by omega) (Nat.le_of_ble_eq_true rfl) hcb1 (c_Level_overlaps (d := d - 1) (l := i) (by omega) hcb1 hL1 (by omega) (hV1 i (by omega)).1 (hV1 i (by omega)).2) (fun k M1 h => by cases h.1) (fun v M9 hq => ?_)
      obtain ⟨e0, e9⟩ := hq
      cases e0
      rw [e9]
      refine zr_aload_n dX11_check_33 rfl ?_
      refine zr_getR dX11_check_34 lkX11_63 (by decide) (by decide) rfl (hL1.K 0 12) (hL1.R 360 0 22) ?_
      refine zr_iload_n dX11_check_37 rfl ?_
      refine zr_aaldK dX11_check_38 (Or.inl (hL1.K 22 18)) (hL1.N 22 3) (by omega) (by omega) (hL1.lv (by omega)) ?_
      refine zr_callV (md' := mX4_faults) (As := []) dX11_check_39 mlX11_261 okX4_faults rfl inX4_faults slX4_faults (by decide) (hL1.Kl (by omega)) rfl (by omega) (Nat.le_of_ble_eq_true rfl) hcb1 (c_Level_faults (d := d - 1) (l := i) (by omega) hcb1 hL1 (by omega) (hV1 i (by omega)).1 (hV1 i (by omega)).2) (fun k M1 h => by cases h.1) (fun v M9 hq => ?_)
      obtain ⟨e0, e9⟩ := hq
      cases e0
      rw [e9]
      refine zr_iaddN dX11_check_42 ?_
      refine zr_iaddN dX11_check_43 ?_
      refine zr_istore_n (lv' := [some (.ref ((ad 0))), some (.int (nI (0 + (0 + 0)))), some (.int (nI i))]) dX11_check_44 (Nat.le_of_ble_eq_true rfl) (Nat.le_of_ble_eq_true rfl) rfl rfl ?_
      refine zr_iincN (n := 1) (lv' := [some (.ref ((ad 0))), some (.int (nI (0 + (0 + 0)))), some (.int (nI (i + 1)))]) dX11_check_45 (Nat.le_of_ble_eq_true rfl) (Nat.le_of_ble_eq_true rfl) rfl rfl rfl ?_
      refine zr_goto 18 dX11_check_48 (by decide) ?_
      refine ih (3 - (i + 1)) (by omega) (i + 1) rfl (by omega)
set_option maxRecDepth 100000 in
set_option maxHeartbeats 4000000 in
theorem a_check {G : zG} {ad : Nat → Nat} {d n : Nat} {A : As} {M : zM} (hd : 9 ≤ d) (hS : Sa ad M A n) (hn : n < 64)  : zMet G mX11_check d [.ref ((ad 0))] M (Pst ad M n (sChk A)) := by
  obtain ⟨hcb, hcx⟩ := hS.cb (by omega)
  obtain ⟨⟨hL, hrm, hK, hV, ⟨pl, hpl, hpr⟩, ⟨tr, htr, htr9⟩, ⟨lf, ct, du, cn, hP⟩, hMw, hcn⟩, hcase⟩ := id hS
  have hoff : aF A = 1 → Pst ad M n (sChk A) (.inr 0) (zthr M) := fun z => by
    have e9 : (sChk A) = (A, .inr 0) := by
      unfold sChk; exact if_pos z
    rw [e9]
    exact ⟨rfl, hS.thr, 1, thr_fk ad M⟩
  refine zMet_of (by decide +kernel) (Nat.le_of_ble_eq_true rfl) rfl hcb ?_
  show zw G mX11_check d _ _ _ 0 [some (.ref ((ad 0))), none, none] [] M
  refine zr_aload_n dX11_check_0 rfl ?_
  refine zr_callV (md' := mX11_requireOn) (As := []) dX11_check_1 mlX11_108 okX11_requireOn rfl inX11_requireOn slX11_requireOn (by decide) (hL.K 0 12) rfl (by omega) (Nat.le_of_ble_eq_true rfl) hcb (c_requireOn (d := d - 1) (on9 := 1 - aF A) (by omega) hcb hcx hL hP.1 (by omega)) (fun k M9 h => zt_out rfl (by rcases h with ⟨_, h, _⟩ | ⟨h0, h, e9⟩; exact absurd h (by simp); cases h; rw [e9]; exact hoff (by omega))) (fun v M9 hq => ?_)
  rcases hq with ⟨h0, e0, e9⟩ | ⟨_, e0, _⟩
  rotate_left
  · cases e0
  cases e0
  rw [e9]
  have hon : aF A = 0 := by have := hS.on; omega
  have hc9 := hcase.resolve_right (fun z => by have := z.1; omega)
  obtain ⟨E, Ls, n1, v, a1, a2, hvw, hVs⟩ := id hc9.2.1
  obtain ⟨ar, us, to, to2, g, cm, rs, hO, hU, hB⟩ := id a1
  obtain ⟨tk, hT, hTp⟩ := hO.2.1
  refine zr_aload_n dX11_check_4 rfl ?_
  refine zr_getR dX11_check_5 lkX11_57 (by decide) (by decide) rfl (hL.K 0 12) (hL.R 359 0 17) ?_
  refine zr_aload_n dX11_check_8 rfl ?_
  refine zr_getR dX11_check_9 lkX11_63 (by decide) (by decide) rfl (hL.K 0 12) (hL.R 360 0 22) ?_
  refine zr_callV (md' := mX2_strayBlocks) (As := [.ref ((ad 22))]) dX11_check_12 mlX11_254 okX2_strayBlocks rfl inX2_strayBlocks slX2_strayBlocks (by decide) (hL.K 17 3) rfl (by omega) (Nat.le_of_ble_eq_true rfl) hcb (c_Files_strayBlocks (d := d - 1) (tk := tk) (Ls := Ls) (by omega) hcb hL (fun l hl => (hO.1.2.2.2 l hl).1) hT hTp hU.2.1.2) (fun k M1 h => by cases h.1) (fun v M1 hq => ?_)
  obtain ⟨e0, gg, e1⟩ := hq
  cases e0
  have hF1 : Fl ad 0 [] [19] [] M M1 := by rw [e1]; exact (Fl.refl ad _ _ _ M).setA hL (i := 19)
  have hL1 := hF1.lay hL
  have hcb1 := hF1.cb hcb
  have eD1 : zA M1 (ad 2) = zA M (ad 2) := hF1.rA (by decide) (by decide)
  have hV1 : ∀ l, l < 3 → Lv ad M1 l (Ls l) ∧ LC (zA M1 (ad 2)) (Ls l) := fun l hl => ⟨(hO.1.2.2.2 l hl).1.fl hF1 hl, by rw [eD1]; exact (hO.1.2.2.2 l hl).2⟩
  refine zr_istore_n (lv' := [some (.ref ((ad 0))), some (.int (nI 0)), none]) dX11_check_15 (Nat.le_of_ble_eq_true rfl) (Nat.le_of_ble_eq_true rfl) rfl rfl ?_
  refine zr_iconst (v := nI 0) dX11_check_16 (by decide) ?_
  refine zr_istore_n (lv' := [some (.ref ((ad 0))), some (.int (nI 0)), some (.int (nI 0))]) dX11_check_17 (Nat.le_of_ble_eq_true rfl) (Nat.le_of_ble_eq_true rfl) rfl rfl ?_
  have e9 : sChk A = (A, .inl (some (.int 0))) := if_neg (by omega)
  refine l_check (by omega) hcb1 hL1 hV1 ?_ 3 0 rfl (by decide)
  rw [e9]
  exact ⟨rfl, hS.same hF1 (by decide), 0, hF1.mono0⟩
set_option maxRecDepth 100000 in
set_option maxHeartbeats 4000000 in
theorem a_told {G : zG} {ad : Nat → Nat} {d n : Nat} {x0 : Int32} {A : As} {M : zM} (hd : 9 ≤ d) (hS : Sa ad M A n) (hn : n < 64)  : zMet G mX11_told d [.ref ((ad 0)), .int x0] M (Pst ad M n (sTold x0 A)) := by
  obtain ⟨hcb, hcx⟩ := hS.cb (by omega)
  obtain ⟨⟨hL, hrm, hK, hV, ⟨pl, hpl, hpr⟩, ⟨tr, htr, htr9⟩, ⟨lf, ct, du, cn, hP⟩, hMw, hcn⟩, hcase⟩ := id hS
  refine zMet_of (by decide +kernel) (Nat.le_of_ble_eq_true rfl) rfl hcb ?_
  show zw G mX11_told d _ _ _ 0 [some (.ref ((ad 0))), some (.int x0), none] [] M
  refine zr_aload_n dX11_told_0 rfl ?_
  refine zr_getR dX11_told_1 lkX11_12 (by decide) (by decide) rfl (hL.K 0 12) (hL.R 352 0 1) ?_
  refine zr_getI dX11_told_4 lkX11_224 (by decide) (by decide) rfl (hL.K 1 2) ?_
  refine zr_as (y := (nI (1 - aF A))) hP.1 ?_
  refine zr_istore_n (lv' := [some (.ref ((ad 0))), some (.int x0), some (.int (nI (1 - aF A)))]) dX11_told_7 (Nat.le_of_ble_eq_true rfl) (Nat.le_of_ble_eq_true rfl) rfl rfl ?_
  refine zr_iload_n dX11_told_8 rfl ?_
  by_cases hout : x0.toInt < 0 ∨ 7 < x0.toInt
  · refine zr_switchOut 155 dX11_told_9 hout (by decide) ?_
    refine zr_throw (k := 1) (sk := 8) dX11_told_155 dX11_told_158 dX11_told_159 dX11_told_161 dX11_told_164 thX11_1 rfl rfl (by omega) (Nat.le_of_ble_eq_true rfl) hcx ?_
    have e9 : sTold x0 A = (A, .inr 1) := if_pos hout
    rw [e9]
    exact ⟨rfl, hS.thr, 1, thr_fk ad M⟩
  have h0 : 0 ≤ x0.toInt := by omega
  have hx1 := toInt_nat h0
  have hcl : x0.toInt = (x0.toNatClampNeg : Int) := by show x0.toInt = ((x0.toInt.toNat : Nat) : Int); omega
  have hs9 : sTold x0 A = (A, .inl (some (.int (tld A x0.toNatClampNeg)))) := if_neg hout
  rw [hs9]
  have hend : ∀ r : Int32, r = tld A x0.toNatClampNeg → Pst ad M n (A, .inl (some (.int (tld A x0.toNatClampNeg)))) (.inl (some (.int r))) M := fun r hr => ⟨by rw [hr], hS.same (Fl.refl ad [] [] [] M) (by decide), 0, (Fl.refl ad [] [] [] M).mono0⟩
  obtain ⟨x9, hx9⟩ : ∃ z, z = x0.toNatClampNeg := ⟨_, rfl⟩
  rw [← hx9] at hx1 hcl hend ⊢
  subst hx1
  have hx8 : x9 ≤ 7 := by omega
  clear hx9 hout hs9
  rcases (show x9 = 0 ∨ x9 = 1 ∨ x9 = 2 ∨ x9 = 3 ∨ x9 = 4 ∨ x9 = 5 ∨ x9 = 6 ∨ x9 = 7 by omega) with rfl | rfl | rfl | rfl | rfl | rfl | rfl | rfl
  · refine zr_switchIn 56 dX11_told_9 (by decide) (by decide) (off := 47) (by decide) (by decide) ?_
    refine zr_iload_n dX11_told_56 rfl ?_
    refine zr_if_eqN 64 dX11_told_57 (by decide) (by omega) (fun h57 => ?_) (fun h57 => ?_)
    · refine zr_iconst (v := nI 0) dX11_told_64 (by decide) ?_
      refine zr_iret dX11_told_65 rfl ?_
      refine hend _ ?_
      show _ = if aF A = 1 then (0 : Int32) else 1
      by_cases hf : aF A = 1
      · rw [if_pos hf]; try (first | rfl | (exfalso; omega))
      · rw [if_neg hf]; try (first | rfl | (exfalso; omega))
    · refine zr_iconst (v := nI 1) dX11_told_60 (by decide) ?_
      refine zr_goto 65 dX11_told_61 (by decide) ?_
      refine zr_iret dX11_told_65 rfl ?_
      refine hend _ ?_
      show _ = if aF A = 1 then (0 : Int32) else 1
      by_cases hf : aF A = 1
      · rw [if_pos hf]; try (first | rfl | (exfalso; omega))
      · rw [if_neg hf]; try (first | rfl | (exfalso; omega))
  · refine zr_switchIn 66 dX11_told_9 (by decide) (by decide) (off := 57) (by decide) (by decide) ?_
    refine zr_iload_n dX11_told_66 rfl ?_
    refine zr_if_eqN 77 dX11_told_67 (by decide) (by omega) (fun h67 => ?_) (fun h67 => ?_)
    · refine zr_iconst (v := nI 0) dX11_told_77 (by decide) ?_
      refine zr_iret dX11_told_78 rfl ?_
      refine hend _ ?_
      show _ = if aF A = 1 then (0 : Int32) else nI (msz (aM A))
      by_cases hf : aF A = 1
      · rw [if_pos hf]; try (first | rfl | (exfalso; omega))
      · rw [if_neg hf]; try (first | rfl | (exfalso; omega))
    · have hc9 := hcase.resolve_right (fun z => by have := z.1; omega)
      refine zr_aload_n dX11_told_70 rfl ?_
      refine zr_getI dX11_told_71 lkX11_227 (by decide) (by decide) rfl (hL.K 0 12) ?_
      refine zr_as (y := (nI (msz (aM A)))) hc9.2.2.1 ?_
      refine zr_goto 78 dX11_told_74 (by decide) ?_
      refine zr_iret dX11_told_78 rfl ?_
      refine hend _ ?_
      show _ = if aF A = 1 then (0 : Int32) else nI (msz (aM A))
      by_cases hf : aF A = 1
      · rw [if_pos hf]; try (first | rfl | (exfalso; omega))
      · rw [if_neg hf]; try (first | rfl | (exfalso; omega))
  · refine zr_switchIn 79 dX11_told_9 (by decide) (by decide) (off := 70) (by decide) (by decide) ?_
    refine zr_iload_n dX11_told_79 rfl ?_
    refine zr_if_eqN 90 dX11_told_80 (by decide) (by omega) (fun h80 => ?_) (fun h80 => ?_)
    · refine zr_iconst (v := nI 0) dX11_told_90 (by decide) ?_
      refine zr_iret dX11_told_91 rfl ?_
      refine hend _ ?_
      show _ = if aF A = 1 then (0 : Int32) else nI (aM A).length
      by_cases hf : aF A = 1
      · rw [if_pos hf]; try (first | rfl | (exfalso; omega))
      · rw [if_neg hf]; try (first | rfl | (exfalso; omega))
    · have hc9 := hcase.resolve_right (fun z => by have := z.1; omega)
      refine zr_aload_n dX11_told_83 rfl ?_
      refine zr_getI dX11_told_84 lkX11_230 (by decide) (by decide) rfl (hL.K 0 12) ?_
      refine zr_as (y := (nI ((aM A).length))) hc9.2.2.2.1 ?_
      refine zr_goto 91 dX11_told_87 (by decide) ?_
      refine zr_iret dX11_told_91 rfl ?_
      refine hend _ ?_
      show _ = if aF A = 1 then (0 : Int32) else nI (aM A).length
      by_cases hf : aF A = 1
      · rw [if_pos hf]; try (first | rfl | (exfalso; omega))
      · rw [if_neg hf]; try (first | rfl | (exfalso; omega))
  · refine zr_switchIn 92 dX11_told_9 (by decide) (by decide) (off := 83) (by decide) (by decide) ?_
    refine zr_iload_n dX11_told_92 rfl ?_
    refine zr_if_eqN 116 dX11_told_93 (by decide) (by omega) (fun h93 => ?_) (fun h93 => ?_)
    · refine zr_iconst (v := -1) dX11_told_116 (by decide) ?_
      refine zr_iret dX11_told_117 rfl ?_
      refine hend _ ?_
      show _ = if aO A = 1 then nI (aS A).length else -1
      rw [if_neg (fun z => by
        rcases hcase with ⟨z0, _⟩ | ⟨_, _, _, z0, _⟩
        · have := hS.op; omega
        · omega)]
    · have hc9 := hcase.resolve_right (fun z => by have := z.1; omega)
      refine zr_aload_n dX11_told_96 rfl ?_
      refine zr_getR dX11_told_97 lkX11_34 (by decide) (by decide) rfl (hL.K 0 12) (hL.R 356 0 10) ?_
      refine zr_getI dX11_told_100 lkX11_111 (by decide) (by decide) rfl (hL.K 10 1) ?_
      refine zr_as (y := (nI (aO A))) hc9.2.2.2.2.1 ?_
      refine zr_if_eqN 116 dX11_told_103 (by decide) (by have := hS.op; omega) (fun h103 => ?_) (fun h103 => ?_)
      · refine zr_iconst (v := -1) dX11_told_116 (by decide) ?_
        refine zr_iret dX11_told_117 rfl ?_
        refine hend _ ?_
        show _ = if aO A = 1 then nI (aS A).length else -1
        rw [if_neg (fun z => by
          rcases hcase with ⟨z0, _⟩ | ⟨_, _, _, z0, _⟩
          · have := hS.op; omega
          · omega)]
      · have ho1 : aO A = 1 := by have := hS.op; omega
        obtain ⟨offs, len, hB, hss⟩ := hc9.2.2.2.2.2.2.1 ho1
        refine zr_aload_n dX11_told_106 rfl ?_
        refine zr_getR dX11_told_107 lkX11_34 (by decide) (by decide) rfl (hL.K 0 12) (hL.R 356 0 10) ?_
        refine zr_getI dX11_told_110 lkX11_126 (by decide) (by decide) rfl (hL.K 10 1) ?_
        refine zr_as (y := (nI offs.length)) hB.1 ?_
        refine zr_goto 117 dX11_told_113 (by decide) ?_
        refine zr_iret dX11_told_117 rfl ?_
        refine hend _ ?_
        show _ = if aO A = 1 then nI (aS A).length else -1
        rw [if_pos ho1, ← hss, List.length_map]
  · refine zr_switchIn 118 dX11_told_9 (by decide) (by decide) (off := 109) (by decide) (by decide) ?_
    refine zr_iload_n dX11_told_118 rfl ?_
    refine zr_if_eqN 132 dX11_told_119 (by decide) (by omega) (fun h119 => ?_) (fun h119 => ?_)
    · refine zr_iconst (v := nI 0) dX11_told_132 (by decide) ?_
      refine zr_iret dX11_told_133 rfl ?_
      refine hend _ ?_
      show _ = nI (svb (aN A) 8)
      rcases hcase with ⟨z0, _⟩ | ⟨_, _, _, _, _, z0⟩
      · exfalso; omega
      · rw [← svb_vb (v := fun _ => none) (fun i _ => ⟨fun _ => z0 i, fun _ => rfl⟩)]
        rfl
    · have hc9 := hcase.resolve_right (fun z => by have := z.1; omega)
      obtain ⟨E, Ls, n1, v, a1, a2, hvw, hVs⟩ := id hc9.2.1
      refine zr_aload_n dX11_told_122 rfl ?_
      refine zr_getR dX11_told_123 lkX11_41 (by decide) (by decide) rfl (hL.K 0 12) (hL.R 357 0 13) ?_
      refine zr_callV (md' := mX9_bits) (As := []) dX11_told_126 mlX11_233 okX9_bits rfl inX9_bits slX9_bits (by decide) (hL.K 13 10) rfl (by omega) (Nat.le_of_ble_eq_true rfl) hcb (c_Views_bits (d := d - 1) hcb hvw) (fun k M1 h => by cases h.1) (fun v M9 hq => ?_)
      obtain ⟨e0, e9⟩ := hq
      cases e0
      rw [e9]
      refine zr_goto 133 dX11_told_129 (by decide) ?_
      refine zr_iret dX11_told_133 rfl ?_
      refine hend _ ?_
      show _ = nI (svb (aN A) 8)
      rw [svb_vb (fun i hi => hVs.none hi)]
  · refine zr_switchIn 134 dX11_told_9 (by decide) (by decide) (off := 125) (by decide) (by decide) ?_
    have h366 : zI M 366 (ad 0) = nI (aC A) := by
      rcases hcase with ⟨_, ⟨E, Ls, n1, v, ⟨ar, us, to, to2, g, cm, rs, hO, _⟩, _⟩, _⟩ | ⟨_, hf, _⟩
      · exact hO.2.2.2.2.2.2.2.2.2.2.2.1
      · exact hf.2.2
    refine zr_aload_n dX11_told_134 rfl ?_
    refine zr_getI dX11_told_135 lkX11_137 (by decide) (by decide) rfl (hL.K 0 12) ?_
    refine zr_as (y := (nI (aC A))) h366 ?_
    refine zr_iret dX11_told_138 rfl ?_
    refine hend _ ?_
    rfl
  · refine zr_switchIn 139 dX11_told_9 (by decide) (by decide) (off := 130) (by decide) (by decide) ?_
    refine zr_aload_n dX11_told_139 rfl ?_
    refine zr_getR dX11_told_140 lkX11_21 (by decide) (by decide) rfl (hL.K 0 12) (hL.R 353 0 4) ?_
    refine zr_getI dX11_told_143 lkX11_172 (by decide) (by decide) rfl (hL.K 4 7) ?_
    refine zr_as (y := (nI ((aK A).length))) hK.1 ?_
    refine zr_iret dX11_told_146 rfl ?_
    refine hend _ ?_
    rfl
  · refine zr_switchIn 147 dX11_told_9 (by decide) (by decide) (off := 138) (by decide) (by decide) ?_
    refine zr_aload_n dX11_told_147 rfl ?_
    refine zr_getR dX11_told_148 lkX11_25 (by decide) (by decide) rfl (hL.K 0 12) (hL.R 354 0 6) ?_
    refine zr_getI dX11_told_151 lkX11_172 (by decide) (by decide) rfl (hL.K 6 7) ?_
    refine zr_as (y := (nI ((aV A).length))) hV.1 ?_
    refine zr_iret dX11_told_154 rfl ?_
    refine hend _ ?_
    rfl
