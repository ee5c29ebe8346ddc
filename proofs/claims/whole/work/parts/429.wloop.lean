/-! ===== LsmStore$Writer.store: the loop ===== -/
/-- behind the writing of all rows -/
def WEnd (ad : Nat → Nat) (M0 : zM) (us tk : List Nat) (on wh ct du cn0 : Nat) (D0 : Nat → Int32) (R : List Nat) (M' : zM) : Prop := ∃ (ns : List zF) (nbs : List Nat) (lf cn s f : Nat), Fl ad 0 [34, 35, 36, 39, 69, 70, 71, 258, 259, 260, 325, 326, 327] [2, 18, 27, 28, 64] [29] M0 M' ∧ Ot ad us M0 M' ∧ Pw ad M' on wh lf ct du cn ∧ (cn = 1 ↔ cn0 = 1) ∧ Tk ad M' (nbs ++ tk) ∧ (∃ nx, nx ≤ 512 ∧ zI M' 71 (ad 17) = nI nx) ∧ (∀ (k : Nat) (f : zF), ns[k]? = some f → zB M' (ad 29) k = some (ad (tA f.1)) ∧ f.1 < 256 ∧ Tb ad M' f.1 f.2.1 (fE f).getLast?) ∧ Us ad M' ((ns.map (·.1)).reverse ++ us) ∧ zI M' 325 (ad 26) = nI ns.length ∧ WX D0 tk (zA M' (ad 2)) ns [] [] nbs ∧ (lvE ns).map (ent (zA M' (ad 2))) = R.map (ent D0) ∧ zI M' 326 (ad 26) = nI s ∧ zI M' 327 (ad 26) = nI f ∧ s ≤ 4095 ∧ f ≤ 3500
theorem WZ.fin {ad : Nat → Nat} {M0 M1 : zM} {us tk : List Nat} {on wh ct du cn0 : Nat} {D0 : Nat → Int32} {R : List Nat} {m s f : Nat} {done : List zF} {jd nbs : List Nat} (h : WZ ad M0 us tk on wh ct du cn0 D0 R m M1 done jd nbs) (hm : R.length ≤ m) (hs : zI M1 326 (ad 26) = nI s) (hf : zI M1 327 (ad 26) = nI f) (hs1 : s ≤ 4095) (hf1 : f ≤ 3500) : WEnd ad M0 us tk on wh ct du cn0 D0 R M1 := by
  obtain ⟨⟨a1, a2, ⟨lf, cn, a3, a3'⟩, a4, a5, a6⟩, b2, b3, b4, b5, b6⟩ := h
  rw [List.take_of_length_le hm] at b5
  rw [b6] at b2
  exact ⟨done, nbs, lf, cn, s, f, a1, a2, a3, a3', a4, a5, fun k f hk => ⟨(a6 k f hk).1, (a6 k f hk).2.2.1, (a6 k f hk).2.2.2⟩, b2, b3, b4, b5, hs, hf, hs1, hf1⟩
set_option maxRecDepth 100000 in
set_option maxHeartbeats 4000000 in
theorem t_store98 {G : zG} {ad : Nat → Nat} {d k0 n0 on wh ct du cn0 : Nat} {us tk R : List Nat} {D0 : Nat → Int32} {M0 : zM} {Q : zOut → zM → Prop} {i s f j : Nat} {done : List zF} {jd nbs bl os : List Nat} {css : List (List Nat)} {M1 : zM} (hd : 8 ≤ d) (hcb : zC M0 ≤ 600128 ∧ zS M0 ≤ 7301098) (hcx : zC M0 + 1 ≤ 600128 ∧ zS M0 + 6 ≤ 7301098) (hL : Lay ad M0) (hRs : Rs ad M0 R) (hR : WR D0 tk R) (hRm : Rm D0 R (512 - tk.length) (256 - us.length)) (hbt : Br tk) (hxx : ∀ M' : zM, cn0 = 1 → Wcr ad tk D0 M0 M' → Q (.inr 2) M') (hq0 : ∀ M' : zM, WEnd ad M0 us tk on wh ct du cn0 D0 R M' → Q (.inl none) M') (hi1 : 1 ≤ i) (hie : i = R.length) (hm1 : (sim D0 R i).1 = s) (hm2 : (sim D0 R i).2.1 = f) (hm3 : (sim D0 R i).2.2.1 = nbs.length + 2) (hm4 : (sim D0 R i).2.2.2 = done.length + 1) (hcs : s = css.length + 1) (hs : zI M1 326 (ad 26) = nI s) (hf : zI M1 327 (ad 26) = nI f) (hW1 : WP ad M0 us tk on wh ct du cn0 D0 R i f M1 done jd nbs j bl css (0 :: os)) : zw G mX10_store d k0 n0 Q 98 [some (.ref ((ad 26))), some (.ref ((ad 23))), some (.int (nI i)), none] [] M1 := by
  have hpl := hRs.2.1
  have hmm := sim_mono (D := D0) (R := R) (show i ≤ R.length by omega)
  have hrb := hRm.2.1
  have hrt := hRm.2.2
  have hok := hRm.1 i hi1 (by omega)
  have hbl5 : bl.length = css.length := hW1.2.2.1.2.2.2.2.1
  have hjd1 := hW1.2.2.2.2.2
  have htl : tk.length ≤ 512 := hbt.len
  have hL1 := (hW1.1.1).lay hL
  have hcb1 := (hW1.1.1).cb hcb
  have hRs1 := hRs.fl hW1.1.1
  have hcx1 : zC M1 + 1 ≤ 600128 ∧ zS M1 + 6 ≤ 7301098 := by have := hW1.1.1.cs; omega
  refine zr_aload_n dX10_store_98 rfl ?_
  refine zr_getI dX10_store_99 lkX10_55 (by decide) (by decide) rfl (hL1.K 23 8) ?_
  refine zr_as (y := (nI R.length)) hRs1.1 ?_
  refine zr_if_leN 125 dX10_store_102 (by decide) (by omega) (fun h102 => ?_) (fun h102 => ?_)
  · refine zr_vret dX10_store_125 rfl ?_
    exfalso; omega
  · obtain ⟨t1, t2, t3, t4, t5, t6, t7⟩ := hW1.2.1
    obtain ⟨lf1, cn1, hP1, hcn1⟩ := hW1.1.2.2.1
    obtain ⟨nx1, hn1a, hn1b⟩ := hW1.1.2.2.2.2.1
    refine zr_aload_n dX10_store_105 rfl ?_
    refine zr_aload_n dX10_store_106 rfl ?_
    refine zr_getR dX10_store_107 lkX10_9 (by decide) (by decide) rfl (hL1.K 26 11) (hL1.R 322 26 27) ?_
    refine zr_callV (md' := mX10_writeOut) (As := [.ref ((ad 27))]) dX10_store_110 mlX10_75 okX10_writeOut rfl inX10_writeOut slX10_writeOut (by decide) (hL1.K 26 11) rfl (by omega) (Nat.le_of_ble_eq_true rfl) hcb1 (c_Writer_writeOut (d := d - 1) (q := 27) (n := done.length + 1) (by omega) hcb1 hcx1 hL1 t6 (by omega) (by omega) (by rw [Nat.add_sub_cancel]; exact t5) t1 hW1.1.2.2.2.1 (by rw [List.length_append]; omega) hn1b hn1a t7 (by omega) hP1 (by decide) (by decide)) (fun k M9 h => zt_out rfl (by rcases h with ⟨b9, l9, c9, v1, v2, v3, v4, v5, v6, v7, h, v8⟩ | ⟨b9, r9, v1, v2, v3, v4, v5, h, v8⟩; exact absurd h (by simp); cases h; exact hxx _ (hcn1.mp v5) (hW1.1.crash hL1 hW1.2.2.1 t1 v1 v2 v3 v4 v8 hs hf (by omega) (by omega)))) (fun v M2 hq => ?_)
    rcases hq with ⟨b2, l2, c2, hb2, hb2a, hb2b, g1, g2, g3, g4, e0, e2⟩ | ⟨b9, r9, g1, g2, g3, g4, g5, e0, e2⟩
    rotate_left
    · cases e0
    cases e0
    obtain ⟨hW2, hs2, hf2⟩ := hW1.flush hL1 rfl (by omega) hb2 hb2a hb2b hP1 hcn1 g2 g3 g4 e2
    obtain ⟨bl2, hbl2⟩ : ∃ z, z = bl ++ [b2] := ⟨_, rfl⟩
    obtain ⟨css2, hcss2⟩ : ∃ z, z = css ++ [(0 :: os).map (b2 * 512 + ·)] := ⟨_, rfl⟩
    rw [← hbl2, ← hcss2] at hW2
    have hc2l : css2.length = css.length + 1 := by rw [hcss2, List.length_append]; rfl
    have hb2l : bl2.length = css2.length := hW2.2.2.1.2.2.2.2.1
    have hL2 := (hW2.1.1).lay hL
    have hcb2 := (hW2.1.1).cb hcb
    have hRs2 := hRs.fl hW2.1.1
    have hcx2 : zC M2 + 1 ≤ 600128 ∧ zS M2 + 6 ≤ 7301098 := by have := hW2.1.1.cs; omega
    have hom : b2 * 512 + 0 ∈ css2.flatten := by rw [hcss2, flatten_snoc]; exact List.mem_append_right _ (List.mem_map.mpr ⟨0, List.mem_cons_self, rfl⟩)
    obtain ⟨u1, u2, u3, u4, u5, u6, u7⟩ := hW2.2.1
    obtain ⟨lf2, cn2, hP2, hcn2⟩ := hW2.1.2.2.1
    obtain ⟨nx2, hn2a, hn2b⟩ := hW2.1.2.2.2.2.1
    refine zr_aload_n dX10_store_113 rfl ?_
    refine zr_aload_n dX10_store_114 rfl ?_
    refine zr_getR dX10_store_115 lkX10_15 (by decide) (by decide) rfl (hL2.K 26 11) (hL2.R 323 26 28) ?_
    refine zr_callV (md' := mX10_writeOut) (As := [.ref ((ad 28))]) dX10_store_118 mlX10_75 okX10_writeOut rfl inX10_writeOut slX10_writeOut (by decide) (hL2.K 26 11) rfl (by omega) (Nat.le_of_ble_eq_true rfl) hcb2 (c_Writer_writeOut (d := d - 1) (q := 28) (n := done.length + 1) (by omega) hcb2 hcx2 hL2 u6 (by omega) (by omega) (by rw [Nat.add_sub_cancel]; exact u5) u1 hW2.1.2.2.2.1 (by rw [List.length_append]; rw [List.length_cons]; omega) hn2b hn2a u7 (by omega) hP2 (by decide) (by decide)) (fun k M9 h => zt_out rfl (by rcases h with ⟨b9, l9, c9, v1, v2, v3, v4, v5, v6, v7, h, v8⟩ | ⟨b9, r9, v1, v2, v3, v4, v5, h, v8⟩; exact absurd h (by simp); cases h; exact hxx _ (hcn2.mp v5) (hW2.1.crash hL2 hW2.2.2.1 u1 v1 v2 v3 v4 v8 (hs2.trans hs) (hf2.trans hf) (by omega) (by omega)))) (fun v M3 hq => ?_)
    rcases hq with ⟨b3, l3, c3, hb3, hb3a, hb3b, g1, g2, g3, g4, e0, e3⟩ | ⟨b9, r9, g1, g2, g3, g4, g5, e0, e3⟩
    rotate_left
    · cases e0
    cases e0
    obtain ⟨hS3, hT3, hX3, hE3, hs3, hf3⟩ := hW2.filt hL2 hR (by omega) (by omega) hb3 hb3a hb3b hP2 hcn2 g2 g3 g4 e3
    have hL3 := hS3.1.lay hL
    have hcb3 := hS3.1.cb hcb
    obtain ⟨v1, v2, v3, v4, v5, v6, v7⟩ := id hT3
    have hTF := (hX3.2.2.1 (j, bl2 ++ [b3], css2) (List.mem_append_right _ (List.mem_singleton.mpr rfl))).1
    have h9l : (bl2 ++ [b3]).length = css2.length + 1 := hTF.1.1
    obtain ⟨c, hc⟩ : ∃ c, css2[css2.length - 1]? = some c := ⟨_, List.getElem?_eq_getElem (by omega)⟩
    obtain ⟨bb, hbb⟩ : ∃ bb, (bl2 ++ [b3])[css2.length - 1]? = some bb := ⟨_, List.getElem?_eq_getElem (by omega)⟩
    obtain ⟨ps, hps, hch9, hcl⟩ := hTF.1.2.2.2.2.1 _ bb c hbb hc
    have hpl9 : 0 + ps.length < 511 := by rw [hps, List.length_cons] at hcl; omega
    have hin9 : ∀ q ∈ bb * 512 :: ps, q < 303096 := fun q hq => (hTF.1.2.2.2.2.2.1 q (List.mem_flatten.mpr ⟨c, List.mem_of_getElem? hc, by rw [hps]; exact hq⟩)).1
    have hla9 : css2.flatten.getLast? = some ((bb * 512 :: ps).getLast (List.cons_ne_nil _ _)) := (flat_last hc (by rw [hps]; exact List.cons_ne_nil _ _)).trans (by rw [hps]; rfl)
    refine zr_aload_n dX10_store_121 rfl ?_
    refine zr_callV (md' := mX10_closeTable) (As := []) dX10_store_122 mlX10_79 okX10_closeTable rfl inX10_closeTable slX10_closeTable (by decide) (hL3.K 26 11) rfl (by omega) (Nat.le_of_ble_eq_true rfl) hcb3 (c_Writer_closeTable (d := d - 1) (n := done.length + 1) (b := bb) (ps := ps) (by omega) hcb3 hL3 v6 (by omega) (by omega) (by rw [Nat.add_sub_cancel]; exact v5) v1 v7 hTF.1.2.2.2.1 (by omega) (by rw [show (bl2 ++ [b3]).length - 2 = css2.length - 1 by omega]; exact hbb) hch9 hin9 hpl9) (fun k M1 h => by cases h.1) (fun v M4 hq => ?_)
    obtain ⟨e0, e4⟩ := hq
    cases e0
    obtain ⟨hW4, hs4, hf4⟩ := WQ.shut hL3 hS3 hT3 hX3 hE3 hjd1 hla9 e4
    have hL4 := hW4.1.1.lay hL
    have hcb4 := hW4.1.1.cb hcb
    refine zr_vret dX10_store_125 rfl ?_
    exact hq0 _ (hW4.fin (Nat.le_of_eq hie.symm) (hs4.trans (hs3.trans (hs2.trans hs))) (hf4.trans (hf3.trans (hf2.trans hf))) (by omega) (by omega))
