/-! ===== LsmStore$Writer.store ===== -/
theorem Rs.fl {ad : Nat → Nat} {c : Nat} {LF LA LB : List Nat} {M M1 : zM} {R : List Nat} (h : Rs ad M R) (hF : Fl ad c LF LA LB M M1) (h1 : 227 ∉ LF := by decide) (h2 : 24 ∉ LA := by decide) : Rs ad M1 R := ⟨(hF.rI h1 (by decide)).trans h.1, h.2.1, fun i q hi => (congrFun (hF.rA (i := 24) h2 (by decide)) i).trans (h.2.2 i q hi)⟩
/-- what is left where power failed while files were written -/
def Wcr (ad : Nat → Nat) (tk : List Nat) (D0 : Nat → Int32) (M0 M' : zM) : Prop := Fl ad 1 [34, 35, 36, 39, 69, 70, 71, 258, 259, 260, 325, 326, 327] [2, 18, 27, 28, 64] [29] M0 M' ∧ zI M' 34 (ad 1) = nI 0 ∧ zI M' 35 (ad 1) = nI 3 ∧ (∀ p, (p < 40960 ∨ p / 512 ∈ tk) → zA M' (ad 2) p = D0 p) ∧ (∀ j bl la, 256 ≤ j → j < 259 → Tb ad M0 j bl la → Tb ad M' j bl la) ∧ (∃ nx, nx ≤ 512 ∧ zI M' 71 (ad 17) = nI nx) ∧ (∃ s f, s ≤ 4095 ∧ f ≤ 3500 ∧ zI M' 326 (ad 26) = nI s ∧ zI M' 327 (ad 26) = nI f) ∧ ∃ lf cn, lf ≤ 400 ∧ cn ≤ 1 ∧ zI M' 36 (ad 1) = nI lf ∧ zI M' 39 (ad 1) = nI cn
/-- a block that is cut short: nothing of what counts is touched -/
theorem WS.crash {ad : Nat → Nat} {M0 M1 M2 : zM} {us tk : List Nat} {on wh ct du cn0 : Nat} {D0 : Nat → Int32} {done done' : List zF} {jd nbs bl bl' : List Nat} {css : List (List Nat)} {j b q r tn s f : Nat} (hL : Lay ad M1) (h : WS ad M0 M1 us tk on wh ct du cn0 done jd nbs) (hX : WX D0 tk (zA M1 (ad 2)) done' bl css nbs) (hj : j < 256) (hb : b ∉ nbs ++ tk) (hb1 : 80 ≤ b) (hb2 : b < 592) (hr : r ≤ 512) (hM : M2 = wCut ad (woM ad M1 j bl' b tn) (ad q) 0 (b * 512) r) (hs : zI M1 326 (ad 26) = nI s) (hf : zI M1 327 (ad 26) = nI f) (hs1 : s ≤ 4095) (hf1 : f ≤ 3500) : Wcr ad tk D0 M0 M2 := by
  obtain ⟨a1, a2, a3, a4⟩ := wo_cut hL hj hb1 hb2 hr hM
  obtain ⟨lf, cn, hP, -⟩ := h.2.2.1
  refine ⟨h.1.trans0 (a1.fl), a2, a3, fun p hp => (a4 p (fun e => ?_)).trans (hX.1 p (fun z => ?_)), fun j' bl9 la9 h1 h2 hT => a1.tb (h.2.1 j' bl9 la9 h2 (Or.inr h1) hT) h2 (by omega), ⟨b - 80 + 1, by omega, ?_⟩, ⟨s, f, hs1, hf1, (a1.rI (by decide) (by decide)).trans hs, (a1.rI (by decide) (by decide)).trans hf⟩, ⟨lf, cn, hP.2.2.2.2.2.2.2.2.1, hP.2.2.2.2.2.2.2.2.2.2.2, (a1.rI (by decide) (by decide)).trans hP.2.2.1, (a1.rI (by decide) (by decide)).trans hP.2.2.2.2.2.1⟩⟩
  · rcases hp with y | y
    · omega
    · exact hb (List.mem_append_right _ (e ▸ y))
  · have hbr := hX.2.2.2.2.2.2.2.2
    rcases hp with y | y
    · have := (hbr.1 _ (List.mem_append_left _ z)).1
      omega
    · exact (List.nodup_append.mp hbr.2).2.2 _ z _ y rfl
  · subst hM
    show zI (zput (zput (zsetA (woM ad M1 j bl' b tn) (ad 2) (va_cpy (zA (woM ad M1 j bl' b tn) (ad q)) (zA (woM ad M1 j bl' b tn) (ad 2)) 0 (b * 512) r)) 34 (ad 1) (nI 0)) 35 (ad 1) (nI 3)) 71 (ad 17) = _
    simp [woM, tbM, mkM, zput_I, zI_setA]
theorem pre_le {D : Nat → Int32} {R : List Nat} {m x y : Nat} (hs : R.Pairwise (pre D)) (hx : R[m]? = some x) (hy : y ∈ R.take m) : pre D y x := by
  obtain ⟨k, hk⟩ := List.getElem?_of_mem hy
  have hl := (List.getElem?_eq_some_iff.mp hk).1
  rw [List.length_take] at hl
  rw [List.getElem?_take_of_lt (by omega)] at hk
  exact pw_get hs (by omega) hk hx
/-- what is whole lies before the next row, where the table goes on -/
theorem WP.kx {ad : Nat → Nat} {M0 M1 : zM} {us tk : List Nat} {on wh ct du cn0 : Nat} {D0 : Nat → Int32} {R : List Nat} {m f j x o : Nat} {done : List zF} {jd nbs bl offs : List Nat} {css : List (List Nat)} (hR : WR D0 tk R) (h : WP ad M0 us tk on wh ct du cn0 D0 R m f M1 done jd nbs j bl css offs) (ho : o ∈ offs) (hx : R[m]? = some x) : ∀ p ∈ lvE done, klt (eky (zA M1 (ad 2)) p) (eky D0 x) := by
  intro p hp
  have h1 := h.2.2.2.1.2.2.2.2.1 p hp o ho
  obtain ⟨y, hy, e⟩ : ∃ y ∈ R.take m, ent D0 y = ent (zA M1 (ad 27)) o := List.mem_map.mp (by rw [← h.2.2.2.2.1]; exact List.mem_append_right _ (List.mem_map_of_mem ho))
  rw [← eky_of e] at h1
  rcases pre_le hR.2.1 hx hy with z | ⟨z, -⟩
  · exact klt_trans _ _ _ h1 z
  · rw [← z]; exact h1
theorem WQ.kx {ad : Nat → Nat} {M0 M1 : zM} {us tk : List Nat} {on wh ct du cn0 : Nat} {D0 : Nat → Int32} {R : List Nat} {m j x o : Nat} {done : List zF} {jd nbs bl : List Nat} {css : List (List Nat)} (hR : WR D0 tk R) (h : WQ ad M0 us tk on wh ct du cn0 D0 R m M1 done jd nbs j bl css) (ho : o ∈ css.flatten) (hx : R[m]? = some x) : ∀ p ∈ lvE done, klt (eky (zA M1 (ad 2)) p) (eky D0 x) := by
  intro p hp
  have h1 := h.2.2.1.2.2.2.2.2.2.2.1 p hp o ho
  obtain ⟨y, hy, e⟩ := map_mem h.2.2.2.2.1 (List.mem_append_right _ ho)
  rw [eky_of e] at h1
  rcases pre_le hR.2.1 hx hy with z | ⟨z, -⟩
  · exact klt_trans _ _ _ h1 z
  · rw [← z]; exact h1
theorem WZ.kx {ad : Nat → Nat} {M0 M1 : zM} {us tk : List Nat} {on wh ct du cn0 : Nat} {D0 : Nat → Int32} {R : List Nat} {m x : Nat} {done : List zF} {jd nbs : List Nat} (hR : WR D0 tk R) (h : WZ ad M0 us tk on wh ct du cn0 D0 R m M1 done jd nbs) (hx : R[m]? = some x) (hn : m = 0 ∨ eky D0 (rg R (m - 1)) ≠ eky D0 x) : ∀ p ∈ lvE done, klt (eky (zA M1 (ad 2)) p) (eky D0 x) := by
  intro p hp
  obtain ⟨y, hy, e⟩ := map_mem h.2.2.2.2.1 hp
  rw [eky_of e]
  rcases pre_le hR.2.1 hx hy with z | ⟨z, -⟩
  · exact z
  · exfalso
    obtain ⟨k, hk⟩ := List.getElem?_of_mem hy
    have hl := (List.getElem?_eq_some_iff.mp hk).1
    rw [List.length_take] at hl
    rw [List.getElem?_take_of_lt (by omega)] at hk
    have hml := (List.getElem?_eq_some_iff.mp hx).1
    refine new_key hR.2.1 hx (Or.inr ⟨rg R (m - 1), ?_, hn.elim (fun z => by omega) id⟩) (show k < m by omega) hk z.symm
    rw [rg_some (List.getElem?_eq_getElem (show m - 1 < R.length by omega))]
    exact List.getElem?_eq_getElem _
theorem WR.end {D0 : Nat → Int32} {tk R : List Nat} (h : WR D0 tk R) (hb : Br tk) {x : Nat} (hx : x ∈ R) : x + eln D0 x ≤ 303104 := by
  have h8 : 8 ≤ eln D0 x := by unfold eln; omega
  rcases h.2.2.2 x hx (x + eln D0 x - 1) (by omega) (by omega) with y | y
  · omega
  · have := (hb.1 _ y).2
    omega
set_option maxRecDepth 100000 in
set_option maxHeartbeats 4000000 in
theorem t_store64 {G : zG} {ad : Nat → Nat} {d k0 n0 on wh ct du cn0 : Nat} {us tk R : List Nat} {D0 : Nat → Int32} {M0 : zM} {Q : zOut → zM → Prop} {i n s f f1 x j : Nat} {done : List zF} {jd nbs bl offs : List Nat} {css : List (List Nat)} {M1 : zM} (hd : 8 ≤ d) (hcb : zC M0 ≤ 600128 ∧ zS M0 ≤ 7301098) (hcx : zC M0 + 1 ≤ 600128 ∧ zS M0 + 6 ≤ 7301098) (hL : Lay ad M0) (hRs : Rs ad M0 R) (hR : WR D0 tk R) (hRm : Rm D0 R (512 - tk.length) (256 - us.length)) (hbt : Br tk) (hx : R[i]? = some x) (hW1 : WP ad M0 us tk on wh ct du cn0 D0 R i f1 M1 done jd nbs j bl css offs) (hs : zI M1 326 (ad 26) = nI s) (hf : zI M1 327 (ad 26) = nI f) (hsb : s ≤ 4096) (hfb : f ≤ 4096) (hn : n ≤ 2) (haf : adF n f (eln D0 x) = f1 + eln D0 x) (hf5 : f1 + eln D0 x ≤ 512) (hkx : ∀ p ∈ lvE done, klt (eky (zA M1 (ad 2)) p) (eky D0 x)) (hk : ∀ M3 : zM, WP ad M0 us tk on wh ct du cn0 D0 R (i + 1) (f1 + eln D0 x) M3 done jd nbs j bl css (offs ++ [f1]) → zI M3 326 (ad 26) = nI (adS n s) → zI M3 327 (ad 26) = nI (f1 + eln D0 x) → zw G mX10_store d k0 n0 Q 7 [some (.ref ((ad 26))), some (.ref ((ad 23))), some (.int (nI (i + 1))), none] [] M3) : zw G mX10_store d k0 n0 Q 64 [some (.ref ((ad 26))), some (.ref ((ad 23))), some (.int (nI i)), some (.int (nI n))] [] M1 := by
  have hxm := List.mem_of_getElem? hx
  have hil := (List.getElem?_eq_some_iff.mp hx).1
  have hpl := hRs.2.1
  have hL1 := (hW1.1.1).lay hL
  have hcb1 := (hW1.1.1).cb hcb
  have hRs1 := hRs.fl hW1.1.1
  have hxl : eln (zA M1 (ad 2)) x = eln D0 x := (hW1.2.2.1.eal hR hxm).1.eL
  refine zr_aload_n dX10_store_64 rfl ?_
  refine zr_iload_n dX10_store_65 rfl ?_
  refine zr_aload_n dX10_store_66 rfl ?_
  refine zr_getR dX10_store_67 lkX10_24 (by decide) (by decide) rfl (hL1.K 26 11) (hL1.R 320 26 1) ?_
  refine zr_aload_n dX10_store_70 rfl ?_
  refine zr_getR dX10_store_71 lkX10_36 (by decide) (by decide) rfl (hL1.K 23 8) (hL1.R 225 23 24) ?_
  refine zr_iload_n dX10_store_74 rfl ?_
  refine zr_ialdN dX10_store_75 (hL1.K 24 15) (hL1.N 24 2048) (by omega) (by omega) ?_
  refine zr_as (y := (nI x)) (hRs1.2.2 _ x hx) ?_
  refine zr_callV (md' := mX1_entryLength) (As := [.int (nI x)]) dX10_store_76 mlX10_42 okX1_entryLength rfl inX1_entryLength slX1_entryLength (by decide) (hL1.K 1 2) rfl (by omega) (Nat.le_of_ble_eq_true rfl) hcb1 (c_Disk_entryLength (d := d - 1) hcb1 (Lay.dk hL1) (Nat.lt_trans (hR.1 x hxm).1 (by decide))) (fun k M1 h => by cases h.1) (fun v M9 hq => ?_)
  obtain ⟨e0, e9⟩ := hq
  cases e0
  rw [e9, hxl]
  refine zr_callV (md' := mX10_advance) (As := [.int (nI n), .int (nI (eln D0 x))]) dX10_store_79 mlX10_62 okX10_advance rfl inX10_advance slX10_advance (by decide) (hL1.K 26 11) rfl (by omega) (Nat.le_of_ble_eq_true rfl) hcb1 (c_Writer_advance (d := d - 1) hcb1 hL1 hs hf hsb hfb hn) (fun k M1 h => by cases h.1) (fun v M2 hq => ?_)
  obtain ⟨e0, e2⟩ := hq
  cases e0
  rw [haf] at e2
  have hF2 : Fl ad 0 [326, 327] [] [] M1 M2 := by rw [e2]; exact ((Fl.refl ad _ _ _ M1).put hL1 (f := 326) (i := 26)).put hL1 (f := 327) (i := 26)
  have hL2 := hF2.lay hL1
  have hcb2 := hF2.cb hcb1
  have hRs2 := hRs1.fl hF2
  have eA2 : zA M2 (ad 2) = zA M1 (ad 2) := by rw [e2]; rfl
  have h327 : zI M2 327 (ad 26) = nI (f1 + eln (zA M2 (ad 2)) x) := by rw [eA2, hxl, e2]; exact wrM_f _ _ _ _
  refine zr_aload_n dX10_store_82 rfl ?_
  refine zr_aload_n dX10_store_83 rfl ?_
  refine zr_getR dX10_store_84 lkX10_36 (by decide) (by decide) rfl (hL2.K 23 8) (hL2.R 225 23 24) ?_
  refine zr_iload_n dX10_store_87 rfl ?_
  refine zr_ialdN dX10_store_88 (hL2.K 24 15) (hL2.N 24 2048) (by omega) (by omega) ?_
  refine zr_as (y := (nI x)) (hRs2.2.2 _ x hx) ?_
  refine zr_callV (md' := mX10_copyEntry) (As := [.int (nI x)]) dX10_store_89 mlX10_86 okX10_copyEntry rfl inX10_copyEntry slX10_copyEntry (by decide) (hL2.K 26 11) rfl (by omega) (Nat.le_of_ble_eq_true rfl) hcb2 (c_Writer_copyEntry (d := d - 1) (x := x) (f0 := f1) (by omega) hcb2 hL2 (hR.1 x hxm).1 (by rw [eA2, hxl]; exact hR.end hbt hxm) h327 (by rw [eA2, hxl]; exact hf5)) (fun k M1 h => by cases h.1) (fun v M3 hq => ?_)
  obtain ⟨e0, g, e3, hg1, hg2⟩ := hq
  cases e0
  obtain ⟨hW3, h326, h327b⟩ := hW1.copy hL1 hR hx hf5 hkx e2 e3 hg1 hg2
  refine zr_iincN (n := 1) (lv' := [some (.ref ((ad 26))), some (.ref ((ad 23))), some (.int (nI (i + 1))), some (.int (nI n))]) dX10_store_92 (Nat.le_of_ble_eq_true rfl) (Nat.le_of_ble_eq_true rfl) rfl rfl rfl ?_
  refine zr_goto 7 dX10_store_95 (by decide) ?_
  refine zr_drop 3 rfl ?_
  exact hk M3 hW3 h326 h327b
