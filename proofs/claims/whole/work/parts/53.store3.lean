/-! ===== LsmStore: gather, pickNone, gatherAll ===== -/
/-- what is picked: of the log all or nothing, of the levels from lo to below hi -/
def pks (wl : Nat) (E : List Nat) (Ls : Nat → List zF) (lo hi : Nat → Nat) : Nat → List Nat
  | 0 => if wl = 1 then E else []
  | l + 1 => pks wl E Ls lo hi l ++ seg (Ls l) (lo l) (hi l)
theorem seg_sub (fs : List zF) (lo hi : Nat) : (seg fs lo hi).Sublist (lvE fs) := by
  have h1 : ∀ (a b : List zF), a.Sublist b → (lvE a).Sublist (lvE b) := by
    intro a b h
    induction h with
    | slnil => exact List.Sublist.refl _
    | cons x h ih =>
      show (lvE _).Sublist (fE x ++ lvE _)
      exact ih.trans (List.sublist_append_right _ _)
    | cons_cons x h ih =>
      show (fE x ++ lvE _).Sublist (fE x ++ lvE _)
      exact List.Sublist.append (List.Sublist.refl _) ih
  exact h1 _ _ ((List.drop_sublist _ _).trans (List.take_sublist _ _))
theorem pks_sub {wl : Nat} {E : List Nat} {Ls : Nat → List zF} {lo hi : Nat → Nat} : ∀ (n : Nat), (pks wl E Ls lo hi n).Sublist (up E Ls n)
  | 0 => by
    show (if wl = 1 then E else []).Sublist E
    split
    · exact List.Sublist.refl _
    · exact List.nil_sublist _
  | n + 1 => List.Sublist.append (pks_sub n) (seg_sub _ _ _)
theorem pks_apart {D : Nat → Int32} {wl n : Nat} {E P : List Nat} {Ls : Nat → List zF} {lo hi : Nat → Nat} (hN : Nwr D E Ls) (hn : n < 3) (hP : P.Perm (pks wl E Ls lo hi n)) : Apart D P (seg (Ls n) (lo n) (hi n)) := fun x hx y hy h => by
  have := hN n hn x ((pks_sub n).subset (hP.mem_iff.mp hx)) y ((seg_sub _ _ _).subset hy) h.1
  omega
theorem pks_le {wl : Nat} {E : List Nat} {Ls : Nat → List zF} {lo hi : Nat → Nat} {l k : Nat} (h : l ≤ k) : (pks wl E Ls lo hi l).length ≤ (pks wl E Ls lo hi k).length := by
  induction k with
  | zero => rw [show l = 0 by omega]; exact Nat.le_refl _
  | succ k ih =>
    rcases Nat.lt_or_ge l (k + 1) with e | e
    · have := ih (by omega)
      show _ ≤ (pks wl E Ls lo hi k ++ seg (Ls k) (lo k) (hi k)).length
      rw [List.length_append]
      omega
    · rw [show l = k + 1 by omega]; exact Nat.le_refl _
theorem rsM_fl {ad : Nat → Nat} {M : zM} (hL : Lay ad M) (g : Nat → Int32) (c : Nat) : Fl ad 0 [227] [24] [] M (rsM ad M g c) := ((Fl.refl ad _ _ _ M).setA hL (i := 24)).put hL (f := 227) (i := 23)
theorem blM_fl {ad : Nat → Nat} {M : zM} (hL : Lay ad M) (g s : Nat → Int32) : Fl ad 0 [] [24, 25] [] M (blM ad M g s) := ((Fl.refl ad _ _ _ M).setA hL (i := 25)).setA hL (i := 24)
/-- rows under way: sorted, those of the picked sources below l -/
def GA (ad : Nat → Nat) (M M1 : zM) (wl : Nat) (E : List Nat) (Ls : Nat → List zF) (lo hi : Nat → Nat) (l : Nat) (P : List Nat) : Prop := Fl ad 0 [227, 228] [24, 25] [] M M1 ∧ Rs ad M1 P ∧ P.Pairwise (pre (zA M (ad 2))) ∧ P.Perm (pks wl E Ls lo hi l) ∧ zI M1 228 (ad 23) = nI 1
theorem Pk.fl {ad : Nat → Nat} {c l lo hi : Nat} {LF LA LB : List Nat} {M M1 : zM} (h : Pk ad M l lo hi) (hF : Fl ad c LF LA LB M M1) (hl : l < 3) (h1 : 132 ∉ LF := by decide) (h2 : 133 ∉ LF := by decide) : Pk ad M1 l lo hi := ⟨(hF.rI h1 (by omega)).trans h.1, (hF.rI h2 (by omega)).trans h.2⟩
set_option maxRecDepth 100000 in
set_option maxHeartbeats 4000000 in
theorem l_gather {G : zG} {ad : Nat → Nat} {d k0 n0 wl : Nat} {E : List Nat} {Ls : Nat → List zF} {lo hi : Nat → Nat} {M : zM} {Q : zOut → zM → Prop} (hd : 4 ≤ d) (hcb : zC M ≤ 600128 ∧ zS M ≤ 7301098) (hL : Lay ad M) (hS : Sto ad M E Ls) (hN : Nwr (zA M (ad 2)) E Ls) (hpk : ∀ l, l < 3 → Pk ad M l (lo l) (hi l) ∧ lo l ≤ hi l ∧ hi l ≤ (Ls l).length) (hwl : wl ≤ 1) (hsz : (pks wl E Ls lo hi 3).length ≤ 2048) (hq0 : ∀ (M' : zM) (P : List Nat), GA ad M M' wl E Ls lo hi 3 P → Q (.inl none) M') : ∀ (m l : Nat) (P : List Nat) (M1 : zM), 3 - l = m → l ≤ 3 → GA ad M M1 wl E Ls lo hi l P → zw G mX11_gather d k0 n0 Q 24 [some (.ref ((ad 0))), some (.int (nI wl)), some (.int (nI l)), none] [] M1 := by
  intro m
  induction m using Nat.strongRecOn with
  | _ m ih =>
    intro l P M1 hm hl3 hG
    have hF1 := hG.1
    have hL1 := hF1.lay hL
    have hcb1 := hF1.cb hcb
    have hS1 := hS.fl hF1
    have eD1 : zA M1 (ad 2) = zA M (ad 2) := hF1.rA (by decide) (by decide)
    have hPl := hG.2.2.2.1.length_eq
    refine zr_iload_n dX11_gather_24 rfl ?_
    refine zr_iconst (v := nI 3) dX11_gather_25 (by decide) ?_
    refine zr_icmp_geN 64 dX11_gather_26 (by decide) (by omega) (by omega) (fun h26 => ?_) (fun h26 => ?_)
    · refine zr_vret dX11_gather_64 rfl ?_
      have e9 : l = 3 := by omega
      subst e9
      exact hq0 M1 P hG
    · have hl : l < 3 := by omega
      obtain ⟨hp1, hp2, hp3⟩ := hpk l hl
      have hle := pks_le (wl := wl) (E := E) (Ls := Ls) (lo := lo) (hi := hi) (show l + 1 ≤ 3 by omega)
      have hle2 : (pks wl E Ls lo hi (l + 1)).length = (pks wl E Ls lo hi l).length + (seg (Ls l) (lo l) (hi l)).length := List.length_append
      refine zr_aload_n dX11_gather_29 rfl ?_
      refine zr_getR dX11_gather_30 lkX11_70 (by decide) (by decide) rfl (hL1.K 0 12) (hL1.R 361 0 23) ?_
      refine zr_getI dX11_gather_33 lkX11_448 (by decide) (by decide) rfl (hL1.K 23 8) ?_
      refine zr_as (y := (nI P.length)) hG.2.1.1 ?_
      refine zr_istore_n (lv' := [some (.ref ((ad 0))), some (.int (nI wl)), some (.int (nI l)), some (.int (nI P.length))]) dX11_gather_36 (Nat.le_of_ble_eq_true rfl) (Nat.le_of_ble_eq_true rfl) rfl rfl ?_
      refine zr_aload_n dX11_gather_37 rfl ?_
      refine zr_getR dX11_gather_38 lkX11_63 (by decide) (by decide) rfl (hL1.K 0 12) (hL1.R 360 0 22) ?_
      refine zr_iload_n dX11_gather_41 rfl ?_
      refine zr_aaldK dX11_gather_42 (Or.inl (hL1.K 22 18)) (hL1.N 22 3) (by omega) (by omega) (hL1.lv (by omega)) ?_
      refine zr_aload_n dX11_gather_43 rfl ?_
      refine zr_getR dX11_gather_44 lkX11_70 (by decide) (by decide) rfl (hL1.K 0 12) (hL1.R 361 0 23) ?_
      refine zr_callV (md' := mX4_collect) (As := [.ref ((ad 23))]) dX11_gather_47 mlX11_449 okX4_collect rfl inX4_collect slX4_collect (by decide) (hL1.Kl hl) rfl (by omega) (Nat.le_of_ble_eq_true rfl) hcb1 (c_Level_collect (d := d - 1) (by omega) hcb1 hL1 hl (hS1.2.2.2 l hl).1 (hS1.2.2.2 l hl).2 hG.2.1 (hp1.fl hF1 hl) hp2 hp3 (by omega)) (fun k M9 h => by cases h.1) (fun v M2 hq => ?_)
      obtain ⟨e0, g, e2, hg⟩ := hq
      cases e0
      have hF2 : Fl ad 0 [227] [24] [] M1 M2 := by rw [e2]; exact rsM_fl hL1 _ _
      have hL2 := hF2.lay hL1
      have hcb2 := hF2.cb hcb1
      have hRs2 : Rs ad M2 (P ++ seg (Ls l) (lo l) (hi l)) := by rw [e2]; exact rsM_rs hg (by rw [List.length_append]; omega)
      have eD2 : zA M2 (ad 2) = zA M (ad 2) := (hF2.rA (by decide) (by decide)).trans eD1
      have hsub := seg_sub (Ls l) (lo l) (hi l)
      refine zr_aload_n dX11_gather_50 rfl ?_
      refine zr_getR dX11_gather_51 lkX11_70 (by decide) (by decide) rfl (hL2.K 0 12) (hL2.R 361 0 23) ?_
      refine zr_iload_n dX11_gather_54 rfl ?_
      refine zr_callV (md' := mX7_blend) (As := [.int (nI P.length)]) dX11_gather_55 mlX11_450 okX7_blend rfl inX7_blend slX7_blend (by decide) (hL2.K 23 8) rfl (by omega) (Nat.le_of_ble_eq_true rfl) hcb2 (c_Rows_blend (d := d - 1) (X := P) (Y := seg (Ls l) (lo l) (hi l)) (by omega) hcb2 hL2 (by rw [hRs2.1, List.length_append]) (by omega) (by rw [eD2]; exact fun q hq => up_eb hS (show l ≤ 3 by omega) ((pks_sub l).subset (hG.2.2.2.1.mem_iff.mp hq))) (by rw [eD2]; exact fun q hq => (hS.2.2.2 l hl).2.eb q (hsub.subset hq)) (by rw [eD2]; exact hG.2.2.1) (by rw [eD2]; exact (hS.2.2.2 l hl).2.srt.sublist hsub) (by rw [eD2]; exact pks_apart hN hl hG.2.2.2.1) hRs2.2.2) (fun k M9 h => by cases h.1) (fun v M3 hq => ?_)
      obtain ⟨e0, g3, s3, Z, e3, hz1, hz2, hz3⟩ := hq
      cases e0
      rw [eD2] at hz2
      have hF3 : Fl ad 0 [] [24, 25] [] M2 M3 := by rw [e3]; exact blM_fl hL2 _ _
      have hZl := hz3.length_eq
      rw [List.length_append] at hZl
      have hG3 : GA ad M M3 wl E Ls lo hi (l + 1) Z := by
        refine ⟨(hF1.trans0 hF2.mono).trans0 hF3.mono, ⟨(hF3.rI (by decide) (by decide)).trans (by rw [hRs2.1, List.length_append, hZl]), by omega, ?_⟩, hz2, hz3.trans (hG.2.2.2.1.append_right _), (hF3.rI (by decide) (by decide)).trans ((hF2.rI (by decide) (by decide)).trans hG.2.2.2.2)⟩
        rw [e3, blM_24]; exact hz1
      refine zr_iincN (n := 1) (lv' := [some (.ref ((ad 0))), some (.int (nI wl)), some (.int (nI (l + 1))), some (.int (nI P.length))]) dX11_gather_58 (Nat.le_of_ble_eq_true rfl) (Nat.le_of_ble_eq_true rfl) rfl rfl rfl ?_
      refine zr_goto 24 dX11_gather_61 (by decide) ?_
      refine zr_drop 3 rfl ?_
      exact ih _ (by omega) (l + 1) Z M3 rfl (by omega) hG3
set_option maxRecDepth 100000 in
set_option maxHeartbeats 4000000 in
theorem c_gather {G : zG} {ad : Nat → Nat} {d wl : Nat} {E : List Nat} {Ls : Nat → List zF} {lo hi : Nat → Nat} {M : zM} (hd : 4 ≤ d) (hcb : zC M ≤ 600128 ∧ zS M ≤ 7301098) (hL : Lay ad M) (hS : Sto ad M E Ls) (hN : Nwr (zA M (ad 2)) E Ls) (hpk : ∀ l, l < 3 → Pk ad M l (lo l) (hi l) ∧ lo l ≤ hi l ∧ hi l ≤ (Ls l).length) (hwl : wl ≤ 1) (hsz : (pks wl E Ls lo hi 3).length ≤ 2048)  : zMet G mX11_gather d [.ref ((ad 0)), .int (nI wl)] M (fun o M' => o = .inl none ∧ ∃ P : List Nat, GA ad M M' wl E Ls lo hi 3 P) := by
  refine zMet_of (by decide +kernel) (Nat.le_of_ble_eq_true rfl) rfl hcb ?_
  show zw G mX11_gather d _ _ _ 0 [some (.ref ((ad 0))), some (.int (nI wl)), none, none] [] M
  refine zr_aload_n dX11_gather_0 rfl ?_
  refine zr_getR dX11_gather_1 lkX11_70 (by decide) (by decide) rfl (hL.K 0 12) (hL.R 361 0 23) ?_
  refine zr_callV (md' := mX7_clear) (As := []) dX11_gather_4 mlX11_444 okX7_clear rfl inX7_clear slX7_clear (by decide) (hL.K 23 8) rfl (by omega) (Nat.le_of_ble_eq_true rfl) hcb (c_Rows_clear (d := d - 1) hcb hL) (fun k M1 h => by cases h.1) (fun v M1 hq => ?_)
  obtain ⟨e0, e1⟩ := hq
  cases e0
  have hF1 : Fl ad 0 [227, 228] [24, 25] [] M M1 := by rw [e1]; exact ((Fl.refl ad _ _ _ M).put hL (f := 227) (i := 23)).put hL (f := 228) (i := 23)
  have hL1 := hF1.lay hL
  have hcb1 := hF1.cb hcb
  have hS1 := hS.fl hF1
  have hR1 : Rs ad M1 [] := ⟨by rw [e1]; exact zput_ms (f := 228) (by decide) (zput_hit _ _ _ _), by decide, fun i q hi => by simp at hi⟩
  have h228 : zI M1 228 (ad 23) = nI 1 := by rw [e1]; exact zput_hit _ _ _ _
  refine zr_iload_n dX11_gather_7 rfl ?_
  refine zr_if_eqN 22 dX11_gather_8 (by decide) (by omega) (fun h8 => ?_) (fun h8 => ?_)
  · refine zr_iconst (v := nI 0) dX11_gather_22 (by decide) ?_
    refine zr_istore_n (lv' := [some (.ref ((ad 0))), some (.int (nI wl)), some (.int (nI 0)), none]) dX11_gather_23 (Nat.le_of_ble_eq_true rfl) (Nat.le_of_ble_eq_true rfl) rfl rfl ?_
    exact l_gather hd hcb hL hS hN hpk hwl hsz (fun M' P h => ⟨rfl, P, h⟩) _ 0 [] M1 rfl (by omega) ⟨hF1, hR1, List.Pairwise.nil, by show List.Perm [] (if wl = 1 then E else []); rw [if_neg (by omega)], h228⟩
  · have hEl : E.length ≤ 2048 := hS.1.2.1
    refine zr_aload_n dX11_gather_11 rfl ?_
    refine zr_getR dX11_gather_12 lkX11_50 (by decide) (by decide) rfl (hL1.K 0 12) (hL1.R 358 0 15) ?_
    refine zr_aload_n dX11_gather_15 rfl ?_
    refine zr_getR dX11_gather_16 lkX11_70 (by decide) (by decide) rfl (hL1.K 0 12) (hL1.R 361 0 23) ?_
    refine zr_callV (md' := mX5_collect) (As := [.ref ((ad 23))]) dX11_gather_19 mlX11_445 okX5_collect rfl inX5_collect slX5_collect (by decide) (hL1.K 15 6) rfl (by omega) (Nat.le_of_ble_eq_true rfl) hcb1 (c_Log_collect (d := d - 1) (R := []) (by omega) hcb1 hL1 hS1.1 hR1 (by simp; exact hEl)) (fun k M9 h => by cases h.1) (fun v M2 hq => ?_)
    obtain ⟨e0, g, e2, hg⟩ := hq
    cases e0
    rw [List.nil_append] at e2 hg
    have hF2 : Fl ad 0 [227] [24] [] M1 M2 := by rw [e2]; exact rsM_fl hL1 _ _
    have hRs2 : Rs ad M2 E := by rw [e2]; exact rsM_rs hg hEl
    refine zr_iconst (v := nI 0) dX11_gather_22 (by decide) ?_
    refine zr_istore_n (lv' := [some (.ref ((ad 0))), some (.int (nI wl)), some (.int (nI 0)), none]) dX11_gather_23 (Nat.le_of_ble_eq_true rfl) (Nat.le_of_ble_eq_true rfl) rfl rfl ?_
    exact l_gather hd hcb hL hS hN hpk hwl hsz (fun M' P h => ⟨rfl, P, h⟩) _ 0 E M2 rfl (by omega) ⟨hF1.trans0 hF2.mono, hRs2, hS.2.2.1, by show List.Perm E (if wl = 1 then E else []); rw [if_pos (by omega)], (hF2.rI (by decide) (by decide)).trans h228⟩
def Pks (ad : Nat → Nat) (M M1 : zM) (n : Nat) (lo hi : Nat → Nat) : Prop := Fl ad 0 [132, 133] [] [] M M1 ∧ ∀ l, l < n → Pk ad M1 l (lo l) (hi l)
theorem Pks.add {ad : Nat → Nat} {M M1 M2 : zM} {n : Nat} {lo hi : Nat → Nat} (hL : Lay ad M1) (h : Pks ad M M1 n lo hi) (hn : n < 3) (hM : M2 = pkM ad M1 n (lo n) (hi n)) : Pks ad M M2 (n + 1) lo hi := by
  have hF : Fl ad 0 [132, 133] [] [] M1 M2 := by rw [hM]; exact ((Fl.refl ad _ _ _ M1).put hL (f := 132) (i := 32 + n) (by decide) (by omega)).put hL (f := 133) (i := 32 + n) (by decide) (by omega)
  refine ⟨h.1.trans0 hF, fun l hl => ?_⟩
  rcases Nat.lt_or_ge l n with e | e
  · obtain ⟨a, b⟩ := h.2 l e
    rw [hM]
    exact ⟨zput_ms (f := 133) (by decide) (zput_ma (f := 132) (hL.ne (by omega)) a), zput_ma (f := 133) (hL.ne (by omega)) (zput_ms (f := 132) (by decide) b)⟩
  · rw [show l = n by omega, hM]; exact pkM_pk _ _ _ _ _
set_option maxRecDepth 100000 in
set_option maxHeartbeats 4000000 in
theorem l_pickNone {G : zG} {ad : Nat → Nat} {d k0 n0 : Nat} {M : zM} {Q : zOut → zM → Prop} (hd : 1 ≤ d) (hcb : zC M ≤ 600128 ∧ zS M ≤ 7301098) (hL : Lay ad M) (hq0 : ∀ M' : zM, Pks ad M M' 3 (fun _ => 0) (fun _ => 0) → Q (.inl none) M') : ∀ (m n : Nat) (M1 : zM), 3 - n = m → n ≤ 3 → Pks ad M M1 n (fun _ => 0) (fun _ => 0) → zw G mX11_pickNone d k0 n0 Q 2 [some (.ref ((ad 0))), some (.int (nI n))] [] M1 := by
  intro m
  induction m using Nat.strongRecOn with
  | _ m ih =>
    intro n M1 hm hn hp
    have hL1 := hp.1.lay hL
    have hcb1 := hp.1.cb hcb
    refine zr_iload_n dX11_pickNone_2 rfl ?_
    refine zr_iconst (v := nI 3) dX11_pickNone_3 (by decide) ?_
    refine zr_icmp_geN 22 dX11_pickNone_4 (by decide) (by omega) (by omega) (fun h4 => ?_) (fun h4 => ?_)
    · refine zr_vret dX11_pickNone_22 rfl ?_
      have e9 : n = 3 := by omega
      subst e9
      exact hq0 M1 hp
    · refine zr_aload_n dX11_pickNone_7 rfl ?_
      refine zr_getR dX11_pickNone_8 lkX11_63 (by decide) (by decide) rfl (hL1.K 0 12) (hL1.R 360 0 22) ?_
      refine zr_iload_n dX11_pickNone_11 rfl ?_
      refine zr_aaldK dX11_pickNone_12 (Or.inl (hL1.K 22 18)) (hL1.N 22 3) (by omega) (by omega) (hL1.lv (by omega)) ?_
      refine zr_callV (md' := mX4_pickNone) (As := []) dX11_pickNone_13 mlX11_396 okX4_pickNone rfl inX4_pickNone slX4_pickNone (by decide) (hL1.Kl (by omega)) rfl (by omega) (Nat.le_of_ble_eq_true rfl) hcb1 (c_Level_pickNone (d := d - 1) (l := n) hcb1 hL1 (by omega)) (fun k M1 h => by cases h.1) (fun v M2 hq => ?_)
      obtain ⟨e0, e2⟩ := hq
      cases e0
      refine zr_iincN (n := 1) (lv' := [some (.ref ((ad 0))), some (.int (nI (n + 1)))]) dX11_pickNone_16 (Nat.le_of_ble_eq_true rfl) (Nat.le_of_ble_eq_true rfl) rfl rfl rfl ?_
      refine zr_goto 2 dX11_pickNone_19 (by decide) ?_
      exact ih _ (by omega) (n + 1) M2 rfl (by omega) (hp.add hL1 (by omega) e2)
set_option maxRecDepth 100000 in
set_option maxHeartbeats 4000000 in
theorem c_pickNone {G : zG} {ad : Nat → Nat} {d : Nat} {M : zM} (hd : 1 ≤ d) (hcb : zC M ≤ 600128 ∧ zS M ≤ 7301098) (hL : Lay ad M)  : zMet G mX11_pickNone d [.ref ((ad 0))] M (fun o M' => o = .inl none ∧ Pks ad M M' 3 (fun _ => 0) (fun _ => 0)) := by
  refine zMet_of (by decide +kernel) (Nat.le_of_ble_eq_true rfl) rfl hcb ?_
  show zw G mX11_pickNone d _ _ _ 0 [some (.ref ((ad 0))), none] [] M
  refine zr_iconst (v := nI 0) dX11_pickNone_0 (by decide) ?_
  refine zr_istore_n (lv' := [some (.ref ((ad 0))), some (.int (nI 0))]) dX11_pickNone_1 (Nat.le_of_ble_eq_true rfl) (Nat.le_of_ble_eq_true rfl) rfl rfl ?_
  exact l_pickNone hd hcb hL (fun M' h => ⟨rfl, h⟩) _ 0 M rfl (by omega) ⟨Fl.refl _ _ _ _ _, fun l hl => by omega⟩
set_option maxRecDepth 100000 in
set_option maxHeartbeats 4000000 in
theorem l_gatherAll {G : zG} {ad : Nat → Nat} {d k0 n0 : Nat} {E : List Nat} {Ls : Nat → List zF} {M : zM} {Q : zOut → zM → Prop} (hd : 1 ≤ d) (hcb : zC M ≤ 600128 ∧ zS M ≤ 7301098) (hL : Lay ad M) (hS : Sto ad M E Ls) (hk : ∀ M' : zM, Pks ad M M' 3 (fun _ => 0) (fun l => (Ls l).length) → zw G mX11_gatherAll d k0 n0 Q 22 [some (.ref ((ad 0))), some (.int (nI 3))] [] M') : ∀ (m n : Nat) (M1 : zM), 3 - n = m → n ≤ 3 → Pks ad M M1 n (fun _ => 0) (fun l => (Ls l).length) → zw G mX11_gatherAll d k0 n0 Q 2 [some (.ref ((ad 0))), some (.int (nI n))] [] M1 := by
  intro m
  induction m using Nat.strongRecOn with
  | _ m ih =>
    intro n M1 hm hn hp
    have hL1 := hp.1.lay hL
    have hcb1 := hp.1.cb hcb
    refine zr_iload_n dX11_gatherAll_2 rfl ?_
    refine zr_iconst (v := nI 3) dX11_gatherAll_3 (by decide) ?_
    refine zr_icmp_geN 22 dX11_gatherAll_4 (by decide) (by omega) (by omega) (fun h4 => ?_) (fun h4 => ?_)
    · have e9 : n = 3 := by omega
      subst e9
      exact hk M1 hp
    · refine zr_aload_n dX11_gatherAll_7 rfl ?_
      refine zr_getR dX11_gatherAll_8 lkX11_63 (by decide) (by decide) rfl (hL1.K 0 12) (hL1.R 360 0 22) ?_
      refine zr_iload_n dX11_gatherAll_11 rfl ?_
      refine zr_aaldK dX11_gatherAll_12 (Or.inl (hL1.K 22 18)) (hL1.N 22 3) (by omega) (by omega) (hL1.lv (by omega)) ?_
      refine zr_callV (md' := mX4_pickAll) (As := []) dX11_gatherAll_13 mlX11_200 okX4_pickAll rfl inX4_pickAll slX4_pickAll (by decide) (hL1.Kl (by omega)) rfl (by omega) (Nat.le_of_ble_eq_true rfl) hcb1 (c_Level_pickAll (d := d - 1) (l := n) hcb1 hL1 (by omega) ((hS.2.2.2 n (by omega)).1.fl hp.1 (by omega))) (fun k M1 h => by cases h.1) (fun v M2 hq => ?_)
      obtain ⟨e0, e2⟩ := hq
      cases e0
      refine zr_iincN (n := 1) (lv' := [some (.ref ((ad 0))), some (.int (nI (n + 1)))]) dX11_gatherAll_16 (Nat.le_of_ble_eq_true rfl) (Nat.le_of_ble_eq_true rfl) rfl rfl rfl ?_
      refine zr_goto 2 dX11_gatherAll_19 (by decide) ?_
      exact ih _ (by omega) (n + 1) M2 rfl (by omega) (hp.add hL1 (by omega) e2)
set_option maxRecDepth 100000 in
set_option maxHeartbeats 4000000 in
theorem c_gatherAll {G : zG} {ad : Nat → Nat} {d : Nat} {E : List Nat} {Ls : Nat → List zF} {M : zM} (hd : 5 ≤ d) (hcb : zC M ≤ 600128 ∧ zS M ≤ 7301098) (hL : Lay ad M) (hS : Sto ad M E Ls) (hN : Nwr (zA M (ad 2)) E Ls) (hsz : (pks 1 E Ls (fun _ => 0) (fun l => (Ls l).length) 3).length ≤ 2048)  : zMet G mX11_gatherAll d [.ref ((ad 0))] M (fun o M' => o = .inl none ∧ ∃ (M1 : zM) (P : List Nat), Pks ad M M1 3 (fun _ => 0) (fun l => (Ls l).length) ∧ GA ad M1 M' 1 E Ls (fun _ => 0) (fun l => (Ls l).length) 3 P) := by
  refine zMet_of (by decide +kernel) (Nat.le_of_ble_eq_true rfl) rfl hcb ?_
  show zw G mX11_gatherAll d _ _ _ 0 [some (.ref ((ad 0))), none] [] M
  refine zr_iconst (v := nI 0) dX11_gatherAll_0 (by decide) ?_
  refine zr_istore_n (lv' := [some (.ref ((ad 0))), some (.int (nI 0))]) dX11_gatherAll_1 (Nat.le_of_ble_eq_true rfl) (Nat.le_of_ble_eq_true rfl) rfl rfl ?_
  refine l_gatherAll (by omega) hcb hL hS (fun M1 hp => ?_) _ 0 M rfl (by omega) ⟨Fl.refl _ _ _ _ _, fun l hl => by omega⟩
  have hL1 := hp.1.lay hL
  have hcb1 := hp.1.cb hcb
  have eD1 : zA M1 (ad 2) = zA M (ad 2) := hp.1.rA (by decide) (by decide)
  refine zr_aload_n dX11_gatherAll_22 rfl ?_
  refine zr_iconst (v := nI 1) dX11_gatherAll_23 (by decide) ?_
  refine zr_callV (md' := mX11_gather) (As := [.int (nI 1)]) dX11_gatherAll_24 mlX11_397 okX11_gather rfl inX11_gather slX11_gather (by decide) (hL1.K 0 12) rfl (by omega) (Nat.le_of_ble_eq_true rfl) hcb1 (c_gather (d := d - 1) (E := E) (Ls := Ls) (lo := fun _ => 0) (hi := fun l => (Ls l).length) (by omega) hcb1 hL1 (hS.fl hp.1) (by rw [eD1]; exact hN) (fun l hl => ⟨hp.2 l hl, Nat.zero_le _, Nat.le_refl _⟩) (by decide) hsz) (fun k M9 h => by cases h.1) (fun v M2 hq => ?_)
  obtain ⟨e0, P, hG⟩ := hq
  cases e0
  refine zr_vret dX11_gatherAll_27 rfl ?_
  exact ⟨rfl, M1, P, hp, hG⟩
