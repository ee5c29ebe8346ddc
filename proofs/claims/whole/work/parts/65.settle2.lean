/-! ===== LsmStore.settle: from the start ===== -/
/-- power failed in settle -/
def SSx (ad : Nat → Nat) (M M' : zM) (ct du c n gm tr0 : Nat) (m : Mp) : Prop := Fl ad 1 [34, 35, 36, 39, 68, 69, 70, 71, 98, 100, 101, 102, 131, 132, 133, 162, 163, 164, 165, 166, 227, 228, 258, 259, 260, 325, 326, 327, 369] [2, 18, 24, 25, 27, 28, 31, 64] [21, 29, 35, 36, 37] M M' ∧ Ofn ad M' c n (gm + 600) m ∧ (∃ lf cn, Pw ad M' 0 3 lf ct du cn) ∧ ∃ tr, tr ≤ tr0 + 600 ∧ zI M' 369 (ad 0) = nI tr
set_option maxRecDepth 100000 in
set_option maxHeartbeats 4000000 in
theorem t_settle11c0 {G : zG} {ad : Nat → Nat} {d k0 n0 on wh lf0 ct du cn0 c n gm fl tr0 : Nat} {E : List Nat} {Ls : Nat → List zF} {m : Mp} {v : Nat → Option Nat} {M : zM} {Q : zOut → zM → Prop} {lim : Int32} {p0 q0 : Nat} (hd : 10 ≤ d) (hcb : zC M ≤ 600128 ∧ zS M ≤ 7301098) (hcx : zC M + 1 ≤ 600128 ∧ zS M + 6 ≤ 7301098) (hL : Lay ad M) (hvw : zVw M (ad 13) (ad 14) v) (hn : n ≤ 64) (hgm : gm + 600 ≤ 2 ^ 28) (htr0 : tr0 + 600 ≤ 2 ^ 28) (hOn : Onn ad M E Ls c n gm fl m) (hP : Pw ad M on wh lf0 ct du cn0) (htr : zI M 369 (ad 0) = nI tr0) (hqX : ∀ M' : zM, cn0 = 1 → Fl ad 1 [34, 35, 36, 39, 68, 69, 70, 71, 98, 100, 101, 102, 131, 132, 133, 162, 163, 164, 165, 166, 227, 228, 258, 259, 260, 325, 326, 327, 369] [2, 18, 24, 25, 27, 28, 31, 64] [21, 29, 35, 36, 37] M M' → Ofn ad M' c n (gm + 600) m → (∃ lf cn, Pw ad M' 0 3 lf ct du cn) → (∃ tr, tr ≤ tr0 + 600 ∧ zI M' 369 (ad 0) = nI tr) → Q (.inr 2) M') (hq0 : ∀ M' : zM, SSt ad M M' E Ls v on wh ct du cn0 c n gm fl tr0 600 m → Q (.inl none) M') (hp0 : E[0]? = some p0) (hq9 : E[E.length - 1]? = some q0) : zw G mX11_settle d k0 n0 Q 11 [some (.ref ((ad 0))), some (.int lim), none, none, none, none] [] M := by
  obtain ⟨ar, us, to, to2, g, cm, rs, hO, hU, hB⟩ := id hOn
  have hp0b := (hO.1.2.1 p0 (List.mem_of_getElem? hp0)).1
  have hq0b := (hO.1.2.1 q0 (List.mem_of_getElem? hq9)).1
  refine zr_aload_n dX11_settle_11 rfl ?_
  refine zr_callV (md' := mX11_pickNone) (As := []) dX11_settle_12 mlX11_354 okX11_pickNone rfl inX11_pickNone slX11_pickNone (by decide) (hL.K 0 12) rfl (by omega) (Nat.le_of_ble_eq_true rfl) hcb (c_pickNone (d := d - 1) (by omega) hcb hL) (fun k M9 h => by cases h.1) (fun v M2 hq => ?_)
  obtain ⟨e0, hp2⟩ := hq
  cases e0
  have hL2 := hp2.1.lay hL
  have hcb2 := hp2.1.cb hcb
  have hS2 := hO.1.fl hp2.1
  have eD2 : zA M2 (ad 2) = zA M (ad 2) := hp2.1.rA (by decide) (by decide)
  refine zr_aload_n dX11_settle_15 rfl ?_
  refine zr_getR dX11_settle_16 lkX11_63 (by decide) (by decide) rfl (hL2.K 0 12) (hL2.R 360 0 22) ?_
  refine zr_iconst (v := nI 0) dX11_settle_19 (by decide) ?_
  refine zr_aaldK dX11_settle_20 (Or.inl (hL2.K 22 18)) (hL2.N 22 3) (by omega) (by omega) (hL2.lv (by omega)) ?_
  refine zr_aload_n dX11_settle_21 rfl ?_
  refine zr_getR dX11_settle_22 lkX11_50 (by decide) (by decide) rfl (hL2.K 0 12) (hL2.R 358 0 15) ?_
  refine zr_callV (md' := mX5_first) (As := []) dX11_settle_25 mlX11_357 okX5_first rfl inX5_first slX5_first (by decide) (hL2.K 15 6) rfl (by omega) (Nat.le_of_ble_eq_true rfl) hcb2 (c_Log_first (d := d - 1) hcb2 hL2 hS2.1) (fun k M1 h => by cases h.1) (fun v M9 hq => ?_)
  obtain ⟨e0, e9⟩ := hq
  cases e0
  rw [e9, hp0]
  refine zr_as (y := nI p0) rfl ?_
  refine zr_aload_n dX11_settle_28 rfl ?_
  refine zr_getR dX11_settle_29 lkX11_50 (by decide) (by decide) rfl (hL2.K 0 12) (hL2.R 358 0 15) ?_
  refine zr_callV (md' := mX5_last) (As := []) dX11_settle_32 mlX11_360 okX5_last rfl inX5_last slX5_last (by decide) (hL2.K 15 6) rfl (by omega) (Nat.le_of_ble_eq_true rfl) hcb2 (c_Log_last (d := d - 1) hcb2 hL2 hS2.1) (fun k M1 h => by cases h.1) (fun v M9 hq => ?_)
  obtain ⟨e0, e9⟩ := hq
  cases e0
  rw [e9, hq9]
  refine zr_as (y := nI q0) rfl ?_
  refine zr_callV (md' := mX4_pickOver) (As := [.int (nI p0), .int (nI q0)]) dX11_settle_35 mlX11_363 okX4_pickOver rfl inX4_pickOver slX4_pickOver (by decide) (hL2.Kl (by omega)) rfl (by omega) (Nat.le_of_ble_eq_true rfl) hcb2 (c_Level_pickOver (d := d - 1) (l := 0) (p := p0) (q := q0) (by omega) hcb2 hL2 (by decide) (hS2.2.2.2 0 (by decide)).1 (hS2.2.2.2 0 (by decide)).2 hp0b hq0b) (fun k M9 h => by cases h.1) (fun v M5 hq => ?_)
  obtain ⟨e0, la5, ha5, e5, hl5, hh5, hov⟩ := hq
  cases e0
  rw [eD2] at hov
  have hF25 : Fl ad 0 [132, 133] [] [] M2 M5 := by rw [e5]; exact pkM_fl hL2 (by decide) _ _
  have hF5 : Fl ad 0 [132, 133] [] [] M M5 := hp2.1.trans0 hF25
  obtain ⟨lo, hlo⟩ : ∃ lo : Nat → Nat, ∀ l, lo l = if l = 0 then la5 else 0 := ⟨fun l => if l = 0 then la5 else 0, fun _ => rfl⟩
  obtain ⟨hi, hhi⟩ : ∃ hi : Nat → Nat, ∀ l, hi l = if l = 0 then ha5 else 0 := ⟨fun l => if l = 0 then ha5 else 0, fun _ => rfl⟩
  have hpk5 : ∀ l, l < 3 → Pk ad M5 l (lo l) (hi l) := fun l hl => by
    rw [hlo, hhi]
    by_cases e : l = 0
    · rw [if_pos e, if_pos e, e, e5]; exact pkM_pk _ _ _ _ _
    · rw [if_neg e, if_neg e, e5]
      exact pkM_ne hL2 (hp2.2 l hl) hl (by decide) e
  have hlh5 : ∀ l, l < 3 → lo l ≤ hi l := fun l hl => by
    rw [hlo, hhi]
    by_cases e : l = 0
    · rw [if_pos e, if_pos e]; exact hl5
    · rw [if_neg e, if_neg e]; exact Nat.le_refl _
  have hhl5 : ∀ l, l < 3 → hi l ≤ (Ls l).length := fun l hl => by
    rw [hhi]
    by_cases e : l = 0
    · rw [if_pos e, e]; exact hh5
    · rw [if_neg e]; exact Nat.zero_le _
  have hcb5 := hF5.cb hcb
  have hL5 := hF5.lay hL
  have hcx5 : zC M5 + 1 ≤ 600128 ∧ zS M5 + 6 ≤ 7301098 := by have := hF5.cs; omega
  have eD5 : zA M5 (ad 2) = zA M (ad 2) := hF5.rA (by decide) (by decide)
  have hO5 := hO.fl hF5 (hm := hO.msc.fl hF5)
  have hU5 : Dur (zA M5 (ad 2)) g ar us cm c n gm Ls rs E m := by rw [eD5]; exact hU
  have hB5 : Blk (zA M5 (ad 2)) ar us to to2 fl := by rw [eD5]; exact hB
  have hxj : ∀ M9 : zM, cn0 = 1 → Fl ad 1 [34, 35, 36, 39, 68, 69, 70, 71, 98, 100, 101, 102, 131, 133, 162, 163, 164, 165, 166, 227, 228, 258, 259, 260, 325, 326, 327] [2, 18, 24, 25, 27, 28, 31, 64] [21, 29, 35, 36, 37] M5 M9 → Ofn ad M9 c n (gm + 1) m → (∃ lf cn, Pw ad M9 0 3 lf ct du cn) → Q (.inr 2) M9 := fun M9 z0 z1 z2 z3 => hqX M9 z0 (hF5.mono.trans0 z1.mono) (z2.mono (Nat.le_refl _) (by omega)) z3 ⟨tr0, by omega, (z1.rI (by decide) (by decide)).trans ((hF5.rI (by decide) (by decide)).trans htr)⟩
  have hok5 : ∀ P, P.Perm (pks 1 E Ls lo hi 3) → Pok (zA M5 (ad 2)) Ls lo hi 0 P := by rw [eD5]; exact pok_log hlo hhi (hO.1.2.2.2 0 (by decide)).2 hO.1.2.2.1 hl5 hov hp0 hq9
  refine zr_aload_n dX11_settle_38 rfl ?_
  refine zr_iconst (v := nI 0) dX11_settle_39 (by decide) ?_
  refine zr_iconst (v := nI 1) dX11_settle_40 (by decide) ?_
  refine zr_callV (md' := mX11_join) (As := [.int (nI 0), .int (nI 1)]) dX11_settle_41 mlX11_206 okX11_join rfl inX11_join slX11_join (by decide) (hL5.K 0 12) rfl (by omega) (Nat.le_of_ble_eq_true rfl) hcb5 (c_join0 (d := d - 1) (t := 0) (wl := 1) (by omega) hcb5 hcx5 hL5 hO5 hU5 hB5 (hP.fl hF5) hn (by omega) (by decide) (by decide) hlh5 hhl5 hpk5 hok5 (hvw.fl hF5)) (fun k M9 h => zt_out rfl (by rcases h with ⟨_, _, _, _, h, _⟩ | ⟨h, z0, z1, z2, z3⟩; exact absurd h (by simp); cases h; exact hxj _ z0 z1 z2 z3)) (fun v M6 hq => ?_)
  rcases hq with ⟨r, E6, Ls6, fl6, e0, hr1, y1, ⟨lf6, cn6, y2, y2b⟩, y3, y4, y5, y6, y7⟩ | ⟨e0, -⟩
  rotate_left
  · cases e0
  cases e0
  rw [eD5] at y4 y7
  refine zr_pop dX11_settle_44 rfl ?_
  refine zr_iconst (v := nI 0) dX11_settle_45 (by decide) ?_
  refine zr_istore_n (lv' := [some (.ref ((ad 0))), some (.int lim), some (.int (nI 0)), none, none, none]) dX11_settle_46 (Nat.le_of_ble_eq_true rfl) (Nat.le_of_ble_eq_true rfl) rfl rfl ?_
  have hS6 : SSt ad M M6 E Ls v on wh ct du cn0 c n gm fl tr0 1 m := ⟨E6, Ls6, fl6, tr0, hF5.mono.trans0 y1.mono, ⟨lf6, cn6, y2, y2b⟩, y3, y4, y5, (y1.rI (by decide) (by decide)).trans ((hF5.rI (by decide) (by decide)).trans htr), by omega⟩
  exact t_settle47_0 hd hcb hcx hL hvw hn hgm htr0 hqX hq0 hS6
set_option maxRecDepth 100000 in
set_option maxHeartbeats 4000000 in
theorem t_settle11n0 {G : zG} {ad : Nat → Nat} {d k0 n0 on wh lf0 ct du cn0 c n gm fl tr0 : Nat} {E : List Nat} {Ls : Nat → List zF} {m : Mp} {v : Nat → Option Nat} {M : zM} {Q : zOut → zM → Prop} {lim : Int32} (hd : 10 ≤ d) (hcb : zC M ≤ 600128 ∧ zS M ≤ 7301098) (hcx : zC M + 1 ≤ 600128 ∧ zS M + 6 ≤ 7301098) (hL : Lay ad M) (hvw : zVw M (ad 13) (ad 14) v) (hn : n ≤ 64) (hgm : gm + 600 ≤ 2 ^ 28) (htr0 : tr0 + 600 ≤ 2 ^ 28) (hOn : Onn ad M E Ls c n gm fl m) (hP : Pw ad M on wh lf0 ct du cn0) (htr : zI M 369 (ad 0) = nI tr0) (hqX : ∀ M' : zM, cn0 = 1 → Fl ad 1 [34, 35, 36, 39, 68, 69, 70, 71, 98, 100, 101, 102, 131, 132, 133, 162, 163, 164, 165, 166, 227, 228, 258, 259, 260, 325, 326, 327, 369] [2, 18, 24, 25, 27, 28, 31, 64] [21, 29, 35, 36, 37] M M' → Ofn ad M' c n (gm + 600) m → (∃ lf cn, Pw ad M' 0 3 lf ct du cn) → (∃ tr, tr ≤ tr0 + 600 ∧ zI M' 369 (ad 0) = nI tr) → Q (.inr 2) M') (hq0 : ∀ M' : zM, SSt ad M M' E Ls v on wh ct du cn0 c n gm fl tr0 600 m → Q (.inl none) M') (hE : E = []) : zw G mX11_settle d k0 n0 Q 11 [some (.ref ((ad 0))), some (.int lim), none, none, none, none] [] M := by
  obtain ⟨ar, us, to, to2, g, cm, rs, hO, hU, hB⟩ := id hOn
  refine zr_aload_n dX11_settle_11 rfl ?_
  refine zr_callV (md' := mX11_pickNone) (As := []) dX11_settle_12 mlX11_354 okX11_pickNone rfl inX11_pickNone slX11_pickNone (by decide) (hL.K 0 12) rfl (by omega) (Nat.le_of_ble_eq_true rfl) hcb (c_pickNone (d := d - 1) (by omega) hcb hL) (fun k M9 h => by cases h.1) (fun v M2 hq => ?_)
  obtain ⟨e0, hp2⟩ := hq
  cases e0
  have hL2 := hp2.1.lay hL
  have hcb2 := hp2.1.cb hcb
  have hS2 := hO.1.fl hp2.1
  have eD2 : zA M2 (ad 2) = zA M (ad 2) := hp2.1.rA (by decide) (by decide)
  refine zr_aload_n dX11_settle_15 rfl ?_
  refine zr_getR dX11_settle_16 lkX11_63 (by decide) (by decide) rfl (hL2.K 0 12) (hL2.R 360 0 22) ?_
  refine zr_iconst (v := nI 0) dX11_settle_19 (by decide) ?_
  refine zr_aaldK dX11_settle_20 (Or.inl (hL2.K 22 18)) (hL2.N 22 3) (by omega) (by omega) (hL2.lv (by omega)) ?_
  refine zr_aload_n dX11_settle_21 rfl ?_
  refine zr_getR dX11_settle_22 lkX11_50 (by decide) (by decide) rfl (hL2.K 0 12) (hL2.R 358 0 15) ?_
  refine zr_callV (md' := mX5_first) (As := []) dX11_settle_25 mlX11_357 okX5_first rfl inX5_first slX5_first (by decide) (hL2.K 15 6) rfl (by omega) (Nat.le_of_ble_eq_true rfl) hcb2 (c_Log_first (d := d - 1) hcb2 hL2 hS2.1) (fun k M1 h => by cases h.1) (fun v M9 hq => ?_)
  obtain ⟨e0, e9⟩ := hq
  cases e0
  rw [e9, hE]
  refine zr_as (y := -1) rfl ?_
  refine zr_aload_n dX11_settle_28 rfl ?_
  refine zr_getR dX11_settle_29 lkX11_50 (by decide) (by decide) rfl (hL2.K 0 12) (hL2.R 358 0 15) ?_
  refine zr_callV (md' := mX5_last) (As := []) dX11_settle_32 mlX11_360 okX5_last rfl inX5_last slX5_last (by decide) (hL2.K 15 6) rfl (by omega) (Nat.le_of_ble_eq_true rfl) hcb2 (c_Log_last (d := d - 1) hcb2 hL2 hS2.1) (fun k M1 h => by cases h.1) (fun v M9 hq => ?_)
  obtain ⟨e0, e9⟩ := hq
  cases e0
  rw [e9, hE]
  refine zr_as (y := -1) rfl ?_
  refine zr_callV (md' := mX4_pickOver) (As := [.int ((-1)), .int ((-1))]) dX11_settle_35 mlX11_363 okX4_pickOver rfl inX4_pickOver slX4_pickOver (by decide) (hL2.Kl (by omega)) rfl (by omega) (Nat.le_of_ble_eq_true rfl) hcb2 (c_Level_pickOverM (d := d - 1) (l := 0) (by omega) hcb2 hL2 (by decide)) (fun k M1 h => by cases h.1) (fun v M5 hq => ?_)
  obtain ⟨e0, e5⟩ := hq
  cases e0
  have hF25 : Fl ad 0 [132, 133] [] [] M2 M5 := by rw [e5]; exact pkM_fl hL2 (by decide) _ _
  have hF5 : Fl ad 0 [132, 133] [] [] M M5 := hp2.1.trans0 hF25
  obtain ⟨lo, hlo⟩ : ∃ lo : Nat → Nat, ∀ l, lo l = 0 := ⟨fun _ => 0, fun _ => rfl⟩
  obtain ⟨hi, hhi⟩ : ∃ hi : Nat → Nat, ∀ l, hi l = 0 := ⟨fun _ => 0, fun _ => rfl⟩
  have hpk5 : ∀ l, l < 3 → Pk ad M5 l (lo l) (hi l) := fun l hl => by
    rw [hlo, hhi]
    by_cases e : l = 0
    · rw [e, e5]; exact pkM_pk _ _ _ _ _
    · rw [e5]; exact pkM_ne hL2 (hp2.2 l hl) hl (by decide) e
  have hlh5 : ∀ l, l < 3 → lo l ≤ hi l := fun l hl => by rw [hlo, hhi]; exact Nat.le_refl _
  have hhl5 : ∀ l, l < 3 → hi l ≤ (Ls l).length := fun l hl => by rw [hhi]; exact Nat.zero_le _
  have hcb5 := hF5.cb hcb
  have hL5 := hF5.lay hL
  have hcx5 : zC M5 + 1 ≤ 600128 ∧ zS M5 + 6 ≤ 7301098 := by have := hF5.cs; omega
  have eD5 : zA M5 (ad 2) = zA M (ad 2) := hF5.rA (by decide) (by decide)
  have hO5 := hO.fl hF5 (hm := hO.msc.fl hF5)
  have hU5 : Dur (zA M5 (ad 2)) g ar us cm c n gm Ls rs E m := by rw [eD5]; exact hU
  have hB5 : Blk (zA M5 (ad 2)) ar us to to2 fl := by rw [eD5]; exact hB
  have hxj : ∀ M9 : zM, cn0 = 1 → Fl ad 1 [34, 35, 36, 39, 68, 69, 70, 71, 98, 100, 101, 102, 131, 133, 162, 163, 164, 165, 166, 227, 228, 258, 259, 260, 325, 326, 327] [2, 18, 24, 25, 27, 28, 31, 64] [21, 29, 35, 36, 37] M5 M9 → Ofn ad M9 c n (gm + 1) m → (∃ lf cn, Pw ad M9 0 3 lf ct du cn) → Q (.inr 2) M9 := fun M9 z0 z1 z2 z3 => hqX M9 z0 (hF5.mono.trans0 z1.mono) (z2.mono (Nat.le_refl _) (by omega)) z3 ⟨tr0, by omega, (z1.rI (by decide) (by decide)).trans ((hF5.rI (by decide) (by decide)).trans htr)⟩
  have hok5 : ∀ P, P.Perm (pks 1 E Ls lo hi 3) → Pok (zA M5 (ad 2)) Ls lo hi 0 P := by rw [eD5, hE]; exact pok_nil hlo hhi
  refine zr_aload_n dX11_settle_38 rfl ?_
  refine zr_iconst (v := nI 0) dX11_settle_39 (by decide) ?_
  refine zr_iconst (v := nI 1) dX11_settle_40 (by decide) ?_
  refine zr_callV (md' := mX11_join) (As := [.int (nI 0), .int (nI 1)]) dX11_settle_41 mlX11_206 okX11_join rfl inX11_join slX11_join (by decide) (hL5.K 0 12) rfl (by omega) (Nat.le_of_ble_eq_true rfl) hcb5 (c_join0 (d := d - 1) (t := 0) (wl := 1) (by omega) hcb5 hcx5 hL5 hO5 hU5 hB5 (hP.fl hF5) hn (by omega) (by decide) (by decide) hlh5 hhl5 hpk5 hok5 (hvw.fl hF5)) (fun k M9 h => zt_out rfl (by rcases h with ⟨_, _, _, _, h, _⟩ | ⟨h, z0, z1, z2, z3⟩; exact absurd h (by simp); cases h; exact hxj _ z0 z1 z2 z3)) (fun v M6 hq => ?_)
  rcases hq with ⟨r, E6, Ls6, fl6, e0, hr1, y1, ⟨lf6, cn6, y2, y2b⟩, y3, y4, y5, y6, y7⟩ | ⟨e0, -⟩
  rotate_left
  · cases e0
  cases e0
  rw [eD5] at y4 y7
  refine zr_pop dX11_settle_44 rfl ?_
  refine zr_iconst (v := nI 0) dX11_settle_45 (by decide) ?_
  refine zr_istore_n (lv' := [some (.ref ((ad 0))), some (.int lim), some (.int (nI 0)), none, none, none]) dX11_settle_46 (Nat.le_of_ble_eq_true rfl) (Nat.le_of_ble_eq_true rfl) rfl rfl ?_
  have hS6 : SSt ad M M6 E Ls v on wh ct du cn0 c n gm fl tr0 1 m := ⟨E6, Ls6, fl6, tr0, hF5.mono.trans0 y1.mono, ⟨lf6, cn6, y2, y2b⟩, y3, y4, y5, (y1.rI (by decide) (by decide)).trans ((hF5.rI (by decide) (by decide)).trans htr), by omega⟩
  exact t_settle47_0 hd hcb hcx hL hvw hn hgm htr0 hqX hq0 hS6
set_option maxRecDepth 100000 in
set_option maxHeartbeats 4000000 in
theorem t_settle11c1 {G : zG} {ad : Nat → Nat} {d k0 n0 on wh lf0 ct du cn0 c n gm fl tr0 : Nat} {E : List Nat} {Ls : Nat → List zF} {m : Mp} {v : Nat → Option Nat} {M : zM} {Q : zOut → zM → Prop} {lim : Int32} {p0 q0 : Nat} (hd : 10 ≤ d) (hcb : zC M ≤ 600128 ∧ zS M ≤ 7301098) (hcx : zC M + 1 ≤ 600128 ∧ zS M + 6 ≤ 7301098) (hL : Lay ad M) (hvw : zVw M (ad 13) (ad 14) v) (hn : n ≤ 64) (hgm : gm + 600 ≤ 2 ^ 28) (htr0 : tr0 + 600 ≤ 2 ^ 28) (hOn : Onn ad M E Ls c n gm fl m) (hP : Pw ad M on wh lf0 ct du cn0) (htr : zI M 369 (ad 0) = nI tr0) (hv0 : ∀ i, i < 8 → v i = none) (hqX : ∀ M' : zM, cn0 = 1 → Fl ad 1 [34, 35, 36, 39, 68, 69, 70, 71, 98, 100, 101, 102, 131, 132, 133, 162, 163, 164, 165, 166, 227, 228, 258, 259, 260, 325, 326, 327, 369] [2, 18, 24, 25, 27, 28, 31, 64] [21, 29, 35, 36, 37] M M' → Ofn ad M' c n (gm + 600) m → (∃ lf cn, Pw ad M' 0 3 lf ct du cn) → (∃ tr, tr ≤ tr0 + 600 ∧ zI M' 369 (ad 0) = nI tr) → Q (.inr 2) M') (hq0 : ∀ M' : zM, SSt ad M M' E Ls v on wh ct du cn0 c n gm 1 tr0 600 m → Q (.inl none) M') (hp0 : E[0]? = some p0) (hq9 : E[E.length - 1]? = some q0) : zw G mX11_settle d k0 n0 Q 11 [some (.ref ((ad 0))), some (.int lim), none, none, none, none] [] M := by
  obtain ⟨ar, us, to, to2, g, cm, rs, hO, hU, hB⟩ := id hOn
  have hp0b := (hO.1.2.1 p0 (List.mem_of_getElem? hp0)).1
  have hq0b := (hO.1.2.1 q0 (List.mem_of_getElem? hq9)).1
  refine zr_aload_n dX11_settle_11 rfl ?_
  refine zr_callV (md' := mX11_pickNone) (As := []) dX11_settle_12 mlX11_354 okX11_pickNone rfl inX11_pickNone slX11_pickNone (by decide) (hL.K 0 12) rfl (by omega) (Nat.le_of_ble_eq_true rfl) hcb (c_pickNone (d := d - 1) (by omega) hcb hL) (fun k M9 h => by cases h.1) (fun v M2 hq => ?_)
  obtain ⟨e0, hp2⟩ := hq
  cases e0
  have hL2 := hp2.1.lay hL
  have hcb2 := hp2.1.cb hcb
  have hS2 := hO.1.fl hp2.1
  have eD2 : zA M2 (ad 2) = zA M (ad 2) := hp2.1.rA (by decide) (by decide)
  refine zr_aload_n dX11_settle_15 rfl ?_
  refine zr_getR dX11_settle_16 lkX11_63 (by decide) (by decide) rfl (hL2.K 0 12) (hL2.R 360 0 22) ?_
  refine zr_iconst (v := nI 0) dX11_settle_19 (by decide) ?_
  refine zr_aaldK dX11_settle_20 (Or.inl (hL2.K 22 18)) (hL2.N 22 3) (by omega) (by omega) (hL2.lv (by omega)) ?_
  refine zr_aload_n dX11_settle_21 rfl ?_
  refine zr_getR dX11_settle_22 lkX11_50 (by decide) (by decide) rfl (hL2.K 0 12) (hL2.R 358 0 15) ?_
  refine zr_callV (md' := mX5_first) (As := []) dX11_settle_25 mlX11_357 okX5_first rfl inX5_first slX5_first (by decide) (hL2.K 15 6) rfl (by omega) (Nat.le_of_ble_eq_true rfl) hcb2 (c_Log_first (d := d - 1) hcb2 hL2 hS2.1) (fun k M1 h => by cases h.1) (fun v M9 hq => ?_)
  obtain ⟨e0, e9⟩ := hq
  cases e0
  rw [e9, hp0]
  refine zr_as (y := nI p0) rfl ?_
  refine zr_aload_n dX11_settle_28 rfl ?_
  refine zr_getR dX11_settle_29 lkX11_50 (by decide) (by decide) rfl (hL2.K 0 12) (hL2.R 358 0 15) ?_
  refine zr_callV (md' := mX5_last) (As := []) dX11_settle_32 mlX11_360 okX5_last rfl inX5_last slX5_last (by decide) (hL2.K 15 6) rfl (by omega) (Nat.le_of_ble_eq_true rfl) hcb2 (c_Log_last (d := d - 1) hcb2 hL2 hS2.1) (fun k M1 h => by cases h.1) (fun v M9 hq => ?_)
  obtain ⟨e0, e9⟩ := hq
  cases e0
  rw [e9, hq9]
  refine zr_as (y := nI q0) rfl ?_
  refine zr_callV (md' := mX4_pickOver) (As := [.int (nI p0), .int (nI q0)]) dX11_settle_35 mlX11_363 okX4_pickOver rfl inX4_pickOver slX4_pickOver (by decide) (hL2.Kl (by omega)) rfl (by omega) (Nat.le_of_ble_eq_true rfl) hcb2 (c_Level_pickOver (d := d - 1) (l := 0) (p := p0) (q := q0) (by omega) hcb2 hL2 (by decide) (hS2.2.2.2 0 (by decide)).1 (hS2.2.2.2 0 (by decide)).2 hp0b hq0b) (fun k M9 h => by cases h.1) (fun v M5 hq => ?_)
  obtain ⟨e0, la5, ha5, e5, hl5, hh5, hov⟩ := hq
  cases e0
  rw [eD2] at hov
  have hF25 : Fl ad 0 [132, 133] [] [] M2 M5 := by rw [e5]; exact pkM_fl hL2 (by decide) _ _
  have hF5 : Fl ad 0 [132, 133] [] [] M M5 := hp2.1.trans0 hF25
  obtain ⟨lo, hlo⟩ : ∃ lo : Nat → Nat, ∀ l, lo l = if l = 0 then la5 else 0 := ⟨fun l => if l = 0 then la5 else 0, fun _ => rfl⟩
  obtain ⟨hi, hhi⟩ : ∃ hi : Nat → Nat, ∀ l, hi l = if l = 0 then ha5 else 0 := ⟨fun l => if l = 0 then ha5 else 0, fun _ => rfl⟩
  have hpk5 : ∀ l, l < 3 → Pk ad M5 l (lo l) (hi l) := fun l hl => by
    rw [hlo, hhi]
    by_cases e : l = 0
    · rw [if_pos e, if_pos e, e, e5]; exact pkM_pk _ _ _ _ _
    · rw [if_neg e, if_neg e, e5]
      exact pkM_ne hL2 (hp2.2 l hl) hl (by decide) e
  have hlh5 : ∀ l, l < 3 → lo l ≤ hi l := fun l hl => by
    rw [hlo, hhi]
    by_cases e : l = 0
    · rw [if_pos e, if_pos e]; exact hl5
    · rw [if_neg e, if_neg e]; exact Nat.le_refl _
  have hhl5 : ∀ l, l < 3 → hi l ≤ (Ls l).length := fun l hl => by
    rw [hhi]
    by_cases e : l = 0
    · rw [if_pos e, e]; exact hh5
    · rw [if_neg e]; exact Nat.zero_le _
  have hcb5 := hF5.cb hcb
  have hL5 := hF5.lay hL
  have hcx5 : zC M5 + 1 ≤ 600128 ∧ zS M5 + 6 ≤ 7301098 := by have := hF5.cs; omega
  have eD5 : zA M5 (ad 2) = zA M (ad 2) := hF5.rA (by decide) (by decide)
  have hO5 := hO.fl hF5 (hm := hO.msc.fl hF5)
  have hU5 : Dur (zA M5 (ad 2)) g ar us cm c n gm Ls rs E m := by rw [eD5]; exact hU
  have hB5 : Blk (zA M5 (ad 2)) ar us to to2 fl := by rw [eD5]; exact hB
  have hxj : ∀ M9 : zM, cn0 = 1 → Fl ad 1 [34, 35, 36, 39, 68, 69, 70, 71, 98, 100, 101, 102, 131, 133, 162, 163, 164, 165, 166, 227, 228, 258, 259, 260, 325, 326, 327] [2, 18, 24, 25, 27, 28, 31, 64] [21, 29, 35, 36, 37] M5 M9 → Ofn ad M9 c n (gm + 1) m → (∃ lf cn, Pw ad M9 0 3 lf ct du cn) → Q (.inr 2) M9 := fun M9 z0 z1 z2 z3 => hqX M9 z0 (hF5.mono.trans0 z1.mono) (z2.mono (Nat.le_refl _) (by omega)) z3 ⟨tr0, by omega, (z1.rI (by decide) (by decide)).trans ((hF5.rI (by decide) (by decide)).trans htr)⟩
  have hok5 : ∀ P, P.Perm (pks 1 E Ls lo hi 3) → Pok (zA M5 (ad 2)) Ls lo hi 0 P := by rw [eD5]; exact pok_log hlo hhi (hO.1.2.2.2 0 (by decide)).2 hO.1.2.2.1 hl5 hov hp0 hq9
  refine zr_aload_n dX11_settle_38 rfl ?_
  refine zr_iconst (v := nI 0) dX11_settle_39 (by decide) ?_
  refine zr_iconst (v := nI 1) dX11_settle_40 (by decide) ?_
  refine zr_callV (md' := mX11_join) (As := [.int (nI 0), .int (nI 1)]) dX11_settle_41 mlX11_206 okX11_join rfl inX11_join slX11_join (by decide) (hL5.K 0 12) rfl (by omega) (Nat.le_of_ble_eq_true rfl) hcb5 (c_join0 (d := d - 1) (t := 0) (wl := 1) (by omega) hcb5 hcx5 hL5 hO5 hU5 hB5 (hP.fl hF5) hn (by omega) (by decide) (by decide) hlh5 hhl5 hpk5 hok5 (hvw.fl hF5)) (fun k M9 h => zt_out rfl (by rcases h with ⟨_, _, _, _, h, _⟩ | ⟨h, z0, z1, z2, z3⟩; exact absurd h (by simp); cases h; exact hxj _ z0 z1 z2 z3)) (fun v M6 hq => ?_)
  rcases hq with ⟨r, E6, Ls6, fl6, e0, hr1, y1, ⟨lf6, cn6, y2, y2b⟩, y3, y4, y5, y6, y7⟩ | ⟨e0, -⟩
  rotate_left
  · cases e0
  cases e0
  rw [eD5] at y4 y7
  refine zr_pop dX11_settle_44 rfl ?_
  refine zr_iconst (v := nI 0) dX11_settle_45 (by decide) ?_
  refine zr_istore_n (lv' := [some (.ref ((ad 0))), some (.int lim), some (.int (nI 0)), none, none, none]) dX11_settle_46 (Nat.le_of_ble_eq_true rfl) (Nat.le_of_ble_eq_true rfl) rfl rfl ?_
  have hr9 : r = 1 := by
    rcases (show r = 1 ∨ r = 0 by omega) with z | z
    · exact z
    · exfalso
      obtain ⟨P, T, low, z1, z2, z3, z4⟩ := y7 z
      have hPu : ∀ q ∈ P, q ∈ up E Ls 3 := fun q hq => (pks_sub 3).subset (z2.mem_iff.mp hq)
      have hl1 := z3.1.length_le
      have hl2 := z2.length_eq
      have hl3 := (pks_sub (wl := 1) (E := E) (Ls := Ls) (lo := lo) (hi := hi) 3).length_le
      have hl4 := hU.2.2.2.1.2.2.2.1
      have hl5 := hU.sz hn
      exact z4 (z3.room z1 hv0 (fun q hq => (hU.2.2.2.1.2.2.1 q (hPu q hq)).1) (by omega) (by rw [idn_len]; omega))
  have hS6 : SSt ad M M6 E Ls v on wh ct du cn0 c n gm 1 tr0 1 m := ⟨E6, Ls6, fl6, tr0, hF5.mono.trans0 y1.mono, ⟨lf6, cn6, y2, y2b⟩, y3, y4, fun _ => y6 hr9 rfl, (y1.rI (by decide) (by decide)).trans ((hF5.rI (by decide) (by decide)).trans htr), by omega⟩
  exact t_settle47_0 hd hcb hcx hL hvw hn hgm htr0 hqX hq0 hS6
set_option maxRecDepth 100000 in
set_option maxHeartbeats 4000000 in
theorem t_settle11n1 {G : zG} {ad : Nat → Nat} {d k0 n0 on wh lf0 ct du cn0 c n gm fl tr0 : Nat} {E : List Nat} {Ls : Nat → List zF} {m : Mp} {v : Nat → Option Nat} {M : zM} {Q : zOut → zM → Prop} {lim : Int32} (hd : 10 ≤ d) (hcb : zC M ≤ 600128 ∧ zS M ≤ 7301098) (hcx : zC M + 1 ≤ 600128 ∧ zS M + 6 ≤ 7301098) (hL : Lay ad M) (hvw : zVw M (ad 13) (ad 14) v) (hn : n ≤ 64) (hgm : gm + 600 ≤ 2 ^ 28) (htr0 : tr0 + 600 ≤ 2 ^ 28) (hOn : Onn ad M E Ls c n gm fl m) (hP : Pw ad M on wh lf0 ct du cn0) (htr : zI M 369 (ad 0) = nI tr0) (hv0 : ∀ i, i < 8 → v i = none) (hqX : ∀ M' : zM, cn0 = 1 → Fl ad 1 [34, 35, 36, 39, 68, 69, 70, 71, 98, 100, 101, 102, 131, 132, 133, 162, 163, 164, 165, 166, 227, 228, 258, 259, 260, 325, 326, 327, 369] [2, 18, 24, 25, 27, 28, 31, 64] [21, 29, 35, 36, 37] M M' → Ofn ad M' c n (gm + 600) m → (∃ lf cn, Pw ad M' 0 3 lf ct du cn) → (∃ tr, tr ≤ tr0 + 600 ∧ zI M' 369 (ad 0) = nI tr) → Q (.inr 2) M') (hq0 : ∀ M' : zM, SSt ad M M' E Ls v on wh ct du cn0 c n gm 1 tr0 600 m → Q (.inl none) M') (hE : E = []) : zw G mX11_settle d k0 n0 Q 11 [some (.ref ((ad 0))), some (.int lim), none, none, none, none] [] M := by
  obtain ⟨ar, us, to, to2, g, cm, rs, hO, hU, hB⟩ := id hOn
  refine zr_aload_n dX11_settle_11 rfl ?_
  refine zr_callV (md' := mX11_pickNone) (As := []) dX11_settle_12 mlX11_354 okX11_pickNone rfl inX11_pickNone slX11_pickNone (by decide) (hL.K 0 12) rfl (by omega) (Nat.le_of_ble_eq_true rfl) hcb (c_pickNone (d := d - 1) (by omega) hcb hL) (fun k M9 h => by cases h.1) (fun v M2 hq => ?_)
  obtain ⟨e0, hp2⟩ := hq
  cases e0
  have hL2 := hp2.1.lay hL
  have hcb2 := hp2.1.cb hcb
  have hS2 := hO.1.fl hp2.1
  have eD2 : zA M2 (ad 2) = zA M (ad 2) := hp2.1.rA (by decide) (by decide)
  refine zr_aload_n dX11_settle_15 rfl ?_
  refine zr_getR dX11_settle_16 lkX11_63 (by decide) (by decide) rfl (hL2.K 0 12) (hL2.R 360 0 22) ?_
  refine zr_iconst (v := nI 0) dX11_settle_19 (by decide) ?_
  refine zr_aaldK dX11_settle_20 (Or.inl (hL2.K 22 18)) (hL2.N 22 3) (by omega) (by omega) (hL2.lv (by omega)) ?_
  refine zr_aload_n dX11_settle_21 rfl ?_
  refine zr_getR dX11_settle_22 lkX11_50 (by decide) (by decide) rfl (hL2.K 0 12) (hL2.R 358 0 15) ?_
  refine zr_callV (md' := mX5_first) (As := []) dX11_settle_25 mlX11_357 okX5_first rfl inX5_first slX5_first (by decide) (hL2.K 15 6) rfl (by omega) (Nat.le_of_ble_eq_true rfl) hcb2 (c_Log_first (d := d - 1) hcb2 hL2 hS2.1) (fun k M1 h => by cases h.1) (fun v M9 hq => ?_)
  obtain ⟨e0, e9⟩ := hq
  cases e0
  rw [e9, hE]
  refine zr_as (y := -1) rfl ?_
  refine zr_aload_n dX11_settle_28 rfl ?_
  refine zr_getR dX11_settle_29 lkX11_50 (by decide) (by decide) rfl (hL2.K 0 12) (hL2.R 358 0 15) ?_
  refine zr_callV (md' := mX5_last) (As := []) dX11_settle_32 mlX11_360 okX5_last rfl inX5_last slX5_last (by decide) (hL2.K 15 6) rfl (by omega) (Nat.le_of_ble_eq_true rfl) hcb2 (c_Log_last (d := d - 1) hcb2 hL2 hS2.1) (fun k M1 h => by cases h.1) (fun v M9 hq => ?_)
  obtain ⟨e0, e9⟩ := hq
  cases e0
  rw [e9, hE]
  refine zr_as (y := -1) rfl ?_
  refine zr_callV (md' := mX4_pickOver) (As := [.int ((-1)), .int ((-1))]) dX11_settle_35 mlX11_363 okX4_pickOver rfl inX4_pickOver slX4_pickOver (by decide) (hL2.Kl (by omega)) rfl (by omega) (Nat.le_of_ble_eq_true rfl) hcb2 (c_Level_pickOverM (d := d - 1) (l := 0) (by omega) hcb2 hL2 (by decide)) (fun k M1 h => by cases h.1) (fun v M5 hq => ?_)
  obtain ⟨e0, e5⟩ := hq
  cases e0
  have hF25 : Fl ad 0 [132, 133] [] [] M2 M5 := by rw [e5]; exact pkM_fl hL2 (by decide) _ _
  have hF5 : Fl ad 0 [132, 133] [] [] M M5 := hp2.1.trans0 hF25
  obtain ⟨lo, hlo⟩ : ∃ lo : Nat → Nat, ∀ l, lo l = 0 := ⟨fun _ => 0, fun _ => rfl⟩
  obtain ⟨hi, hhi⟩ : ∃ hi : Nat → Nat, ∀ l, hi l = 0 := ⟨fun _ => 0, fun _ => rfl⟩
  have hpk5 : ∀ l, l < 3 → Pk ad M5 l (lo l) (hi l) := fun l hl => by
    rw [hlo, hhi]
    by_cases e : l = 0
    · rw [e, e5]; exact pkM_pk _ _ _ _ _
    · rw [e5]; exact pkM_ne hL2 (hp2.2 l hl) hl (by decide) e
  have hlh5 : ∀ l, l < 3 → lo l ≤ hi l := fun l hl => by rw [hlo, hhi]; exact Nat.le_refl _
  have hhl5 : ∀ l, l < 3 → hi l ≤ (Ls l).length := fun l hl => by rw [hhi]; exact Nat.zero_le _
  have hcb5 := hF5.cb hcb
  have hL5 := hF5.lay hL
  have hcx5 : zC M5 + 1 ≤ 600128 ∧ zS M5 + 6 ≤ 7301098 := by have := hF5.cs; omega
  have eD5 : zA M5 (ad 2) = zA M (ad 2) := hF5.rA (by decide) (by decide)
  have hO5 := hO.fl hF5 (hm := hO.msc.fl hF5)
  have hU5 : Dur (zA M5 (ad 2)) g ar us cm c n gm Ls rs E m := by rw [eD5]; exact hU
  have hB5 : Blk (zA M5 (ad 2)) ar us to to2 fl := by rw [eD5]; exact hB
  have hxj : ∀ M9 : zM, cn0 = 1 → Fl ad 1 [34, 35, 36, 39, 68, 69, 70, 71, 98, 100, 101, 102, 131, 133, 162, 163, 164, 165, 166, 227, 228, 258, 259, 260, 325, 326, 327] [2, 18, 24, 25, 27, 28, 31, 64] [21, 29, 35, 36, 37] M5 M9 → Ofn ad M9 c n (gm + 1) m → (∃ lf cn, Pw ad M9 0 3 lf ct du cn) → Q (.inr 2) M9 := fun M9 z0 z1 z2 z3 => hqX M9 z0 (hF5.mono.trans0 z1.mono) (z2.mono (Nat.le_refl _) (by omega)) z3 ⟨tr0, by omega, (z1.rI (by decide) (by decide)).trans ((hF5.rI (by decide) (by decide)).trans htr)⟩
  have hok5 : ∀ P, P.Perm (pks 1 E Ls lo hi 3) → Pok (zA M5 (ad 2)) Ls lo hi 0 P := by rw [eD5, hE]; exact pok_nil hlo hhi
  refine zr_aload_n dX11_settle_38 rfl ?_
  refine zr_iconst (v := nI 0) dX11_settle_39 (by decide) ?_
  refine zr_iconst (v := nI 1) dX11_settle_40 (by decide) ?_
  refine zr_callV (md' := mX11_join) (As := [.int (nI 0), .int (nI 1)]) dX11_settle_41 mlX11_206 okX11_join rfl inX11_join slX11_join (by decide) (hL5.K 0 12) rfl (by omega) (Nat.le_of_ble_eq_true rfl) hcb5 (c_join0 (d := d - 1) (t := 0) (wl := 1) (by omega) hcb5 hcx5 hL5 hO5 hU5 hB5 (hP.fl hF5) hn (by omega) (by decide) (by decide) hlh5 hhl5 hpk5 hok5 (hvw.fl hF5)) (fun k M9 h => zt_out rfl (by rcases h with ⟨_, _, _, _, h, _⟩ | ⟨h, z0, z1, z2, z3⟩; exact absurd h (by simp); cases h; exact hxj _ z0 z1 z2 z3)) (fun v M6 hq => ?_)
  rcases hq with ⟨r, E6, Ls6, fl6, e0, hr1, y1, ⟨lf6, cn6, y2, y2b⟩, y3, y4, y5, y6, y7⟩ | ⟨e0, -⟩
  rotate_left
  · cases e0
  cases e0
  rw [eD5] at y4 y7
  refine zr_pop dX11_settle_44 rfl ?_
  refine zr_iconst (v := nI 0) dX11_settle_45 (by decide) ?_
  refine zr_istore_n (lv' := [some (.ref ((ad 0))), some (.int lim), some (.int (nI 0)), none, none, none]) dX11_settle_46 (Nat.le_of_ble_eq_true rfl) (Nat.le_of_ble_eq_true rfl) rfl rfl ?_
  have hr9 : r = 1 := by
    rcases (show r = 1 ∨ r = 0 by omega) with z | z
    · exact z
    · exfalso
      obtain ⟨P, T, low, z1, z2, z3, z4⟩ := y7 z
      have hPu : ∀ q ∈ P, q ∈ up E Ls 3 := fun q hq => (pks_sub 3).subset (z2.mem_iff.mp hq)
      have hl1 := z3.1.length_le
      have hl2 := z2.length_eq
      have hl3 := (pks_sub (wl := 1) (E := E) (Ls := Ls) (lo := lo) (hi := hi) 3).length_le
      have hl4 := hU.2.2.2.1.2.2.2.1
      have hl5 := hU.sz hn
      exact z4 (z3.room z1 hv0 (fun q hq => (hU.2.2.2.1.2.2.1 q (hPu q hq)).1) (by omega) (by rw [idn_len]; omega))
  have hS6 : SSt ad M M6 E Ls v on wh ct du cn0 c n gm 1 tr0 1 m := ⟨E6, Ls6, fl6, tr0, hF5.mono.trans0 y1.mono, ⟨lf6, cn6, y2, y2b⟩, y3, y4, fun _ => y6 hr9 rfl, (y1.rI (by decide) (by decide)).trans ((hF5.rI (by decide) (by decide)).trans htr), by omega⟩
  exact t_settle47_0 hd hcb hcx hL hvw hn hgm htr0 hqX hq0 hS6
set_option maxRecDepth 100000 in
set_option maxHeartbeats 4000000 in
theorem c_settle {G : zG} {ad : Nat → Nat} {d on wh lf0 ct du cn0 c n gm fl tr0 lm : Nat} {E : List Nat} {Ls : Nat → List zF} {m : Mp} {v : Nat → Option Nat} {M : zM} (hd : 10 ≤ d) (hcb : zC M ≤ 600128 ∧ zS M ≤ 7301098) (hcx : zC M + 1 ≤ 600128 ∧ zS M + 6 ≤ 7301098) (hL : Lay ad M) (hvw : zVw M (ad 13) (ad 14) v) (hn : n ≤ 64) (hgm : gm + 600 ≤ 2 ^ 28) (htr0 : tr0 + 600 ≤ 2 ^ 28) (hOn : Onn ad M E Ls c n gm fl m) (hP : Pw ad M on wh lf0 ct du cn0) (htr : zI M 369 (ad 0) = nI tr0) (hlm : lm < 2 ^ 31)  : zMet G mX11_settle d [.ref ((ad 0)), .int (nI lm)] M (fun o M' => (o = .inl none ∧ SSt ad M M' E Ls v on wh ct du cn0 c n gm fl tr0 600 m) ∨ (o = .inr 2 ∧ cn0 = 1 ∧ SSx ad M M' ct du c n gm tr0 m)) := by
  refine zMet_of (by decide +kernel) (Nat.le_of_ble_eq_true rfl) rfl hcb ?_
  show zw G mX11_settle d _ _ _ 0 [some (.ref ((ad 0))), some (.int (nI lm)), none, none, none, none] [] M
  obtain ⟨ar, us, to, to2, g, cm, rs, hO, hU, hB⟩ := id hOn
  have h163 : zI M 163 (ad 15) = nI us := hO.2.2.2.2.2.1
  have hus : us ≤ 15552 := by have := hU.2.2.1.2.2.2.2.1; omega
  refine zr_aload_n dX11_settle_0 rfl ?_
  refine zr_getR dX11_settle_1 lkX11_50 (by decide) (by decide) rfl (hL.K 0 12) (hL.R 358 0 15) ?_
  refine zr_getI dX11_settle_4 lkX11_203 (by decide) (by decide) rfl (hL.K 15 6) ?_
  refine zr_as (y := (nI us)) h163 ?_
  refine zr_iload_n dX11_settle_7 rfl ?_
  refine zr_icmp_leN 45 dX11_settle_8 (by decide) (by omega) (by omega) (fun h8 => ?_) (fun h8 => ?_)
  · refine zr_iconst (v := nI 0) dX11_settle_45 (by decide) ?_
    refine zr_istore_n (lv' := [some (.ref ((ad 0))), some (.int (nI lm)), some (.int (nI 0)), none, none, none]) dX11_settle_46 (Nat.le_of_ble_eq_true rfl) (Nat.le_of_ble_eq_true rfl) rfl rfl ?_
    exact t_settle47_0 hd hcb hcx hL hvw hn hgm htr0 (fun M' z a b c e => Or.inr ⟨rfl, z, a, b, c, e⟩) (fun M' h => Or.inl ⟨rfl, h⟩) ⟨E, Ls, fl, tr0, Fl.refl _ _ _ _ _, ⟨lf0, cn0, hP, Iff.rfl⟩, hOn.mono (Nat.le_refl _) (by omega), Vsm.refl _ _ _ _, id, htr, by omega⟩
  · rcases Nat.eq_zero_or_pos E.length with e9 | e9
    · exact t_settle11n0 hd hcb hcx hL hvw hn hgm htr0 hOn hP htr (fun M' z a b c e => Or.inr ⟨rfl, z, a, b, c, e⟩) (fun M' h => Or.inl ⟨rfl, h⟩) (List.length_eq_zero_iff.mp e9)
    · obtain ⟨p0, hp0⟩ : ∃ p0, E[0]? = some p0 := ⟨_, List.getElem?_eq_getElem e9⟩
      obtain ⟨q0, hq0⟩ : ∃ q0, E[E.length - 1]? = some q0 := ⟨_, List.getElem?_eq_getElem (by omega)⟩
      exact t_settle11c0 hd hcb hcx hL hvw hn hgm htr0 hOn hP htr (fun M' z a b c e => Or.inr ⟨rfl, z, a, b, c, e⟩) (fun M' h => Or.inl ⟨rfl, h⟩) hp0 hq0
set_option maxRecDepth 100000 in
set_option maxHeartbeats 4000000 in
theorem c_settleM {G : zG} {ad : Nat → Nat} {d on wh lf0 ct du cn0 c n gm fl tr0 : Nat} {E : List Nat} {Ls : Nat → List zF} {m : Mp} {v : Nat → Option Nat} {M : zM} (hd : 10 ≤ d) (hcb : zC M ≤ 600128 ∧ zS M ≤ 7301098) (hcx : zC M + 1 ≤ 600128 ∧ zS M + 6 ≤ 7301098) (hL : Lay ad M) (hvw : zVw M (ad 13) (ad 14) v) (hn : n ≤ 64) (hgm : gm + 600 ≤ 2 ^ 28) (htr0 : tr0 + 600 ≤ 2 ^ 28) (hOn : Onn ad M E Ls c n gm fl m) (hP : Pw ad M on wh lf0 ct du cn0) (htr : zI M 369 (ad 0) = nI tr0) (hv0 : ∀ i, i < 8 → v i = none)  : zMet G mX11_settle d [.ref ((ad 0)), .int ((-1))] M (fun o M' => (o = .inl none ∧ SSt ad M M' E Ls v on wh ct du cn0 c n gm 1 tr0 600 m) ∨ (o = .inr 2 ∧ cn0 = 1 ∧ SSx ad M M' ct du c n gm tr0 m)) := by
  refine zMet_of (by decide +kernel) (Nat.le_of_ble_eq_true rfl) rfl hcb ?_
  show zw G mX11_settle d _ _ _ 0 [some (.ref ((ad 0))), some (.int ((-1))), none, none, none, none] [] M
  obtain ⟨ar, us, to, to2, g, cm, rs, hO, hU, hB⟩ := id hOn
  have h163 : zI M 163 (ad 15) = nI us := hO.2.2.2.2.2.1
  have hus : us ≤ 15552 := by have := hU.2.2.1.2.2.2.2.1; omega
  refine zr_aload_n dX11_settle_0 rfl ?_
  refine zr_getR dX11_settle_1 lkX11_50 (by decide) (by decide) rfl (hL.K 0 12) (hL.R 358 0 15) ?_
  refine zr_getI dX11_settle_4 lkX11_203 (by decide) (by decide) rfl (hL.K 15 6) ?_
  refine zr_as (y := (nI us)) h163 ?_
  refine zr_iload_n dX11_settle_7 rfl ?_
  refine zr_icmp_le 45 dX11_settle_8 (by decide) (fun h8 => ?_) (fun h8 => ?_)
  · exact absurd h8 (Int32.not_le.mpr (m1_lt (by omega)))
  · rcases Nat.eq_zero_or_pos E.length with e9 | e9
    · exact t_settle11n1 hd hcb hcx hL hvw hn hgm htr0 hOn hP htr hv0 (fun M' z a b c e => Or.inr ⟨rfl, z, a, b, c, e⟩) (fun M' h => Or.inl ⟨rfl, h⟩) (List.length_eq_zero_iff.mp e9)
    · obtain ⟨p0, hp0⟩ : ∃ p0, E[0]? = some p0 := ⟨_, List.getElem?_eq_getElem e9⟩
      obtain ⟨q0, hq0⟩ : ∃ q0, E[E.length - 1]? = some q0 := ⟨_, List.getElem?_eq_getElem (by omega)⟩
      exact t_settle11c1 hd hcb hcx hL hvw hn hgm htr0 hOn hP htr hv0 (fun M' z a b c e => Or.inr ⟨rfl, z, a, b, c, e⟩) (fun M' h => Or.inl ⟨rfl, h⟩) hp0 hq0
