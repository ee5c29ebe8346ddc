/-! ===== LsmStore$Writer.store: the loop ===== -/
set_option maxRecDepth 100000 in
set_option maxHeartbeats 4000000 in
theorem t_store_0 {G : zG} {ad : Nat → Nat} {d k0 n0 on wh ct du cn0 : Nat} {us tk R : List Nat} {D0 : Nat → Int32} {M0 : zM} {Q : zOut → zM → Prop} {x : Nat} {i s f j : Nat} {done : List zF} {jd nbs bl os : List Nat} {css : List (List Nat)} {M1 : zM} (hd : 8 ≤ d) (hcb : zC M0 ≤ 600128 ∧ zS M0 ≤ 7301098) (hcx : zC M0 + 1 ≤ 600128 ∧ zS M0 + 6 ≤ 7301098) (hL : Lay ad M0) (hRs : Rs ad M0 R) (hR : WR D0 tk R) (hRm : Rm D0 R (512 - tk.length) (256 - us.length)) (hbt : Br tk) (hxx : ∀ M' : zM, cn0 = 1 → Wcr ad tk D0 M0 M' → Q (.inr 2) M') (hk : ∀ (M3 : zM) (s3 f3 j3 : Nat) (done3 : List zF) (jd3 nbs3 bl3 os3 : List Nat) (css3 : List (List Nat)), (sim D0 R (i + 1)).1 = s3 → (sim D0 R (i + 1)).2.1 = f3 → (sim D0 R (i + 1)).2.2.1 = nbs3.length + 2 → (sim D0 R (i + 1)).2.2.2 = done3.length + 1 → s3 = css3.length + 1 → zI M3 326 (ad 26) = nI s3 → zI M3 327 (ad 26) = nI f3 → WP ad M0 us tk on wh ct du cn0 D0 R (i + 1) f3 M3 done3 jd3 nbs3 j3 bl3 css3 (0 :: os3) → zw G mX10_store d k0 n0 Q 7 [some (.ref ((ad 26))), some (.ref ((ad 23))), some (.int (nI (i + 1))), none] [] M3) (hx : R[i]? = some x) (hi1 : 1 ≤ i) (hsim : sim D0 R (i + 1) = (adS 0 s, adF 0 f (eln D0 x), nbs.length + 2 + (if 0 = 2 then 2 else if 0 = 1 then 1 else 0), done.length + 1 + (if 0 = 2 then 1 else 0))) (hm1 : (sim D0 R i).1 = s) (hm2 : (sim D0 R i).2.1 = f) (hm3 : (sim D0 R i).2.2.1 = nbs.length + 2) (hm4 : (sim D0 R i).2.2.2 = done.length + 1) (hcs : s = css.length + 1) (hs : zI M1 326 (ad 26) = nI s) (hf : zI M1 327 (ad 26) = nI f) (hW1 : WP ad M0 us tk on wh ct du cn0 D0 R i f M1 done jd nbs j bl css (0 :: os)) : zw G mX10_store d k0 n0 Q 22 [some (.ref ((ad 26))), some (.ref ((ad 23))), some (.int (nI i)), some (.int (nI 0))] [] M1 := by
  have hil := (List.getElem?_eq_some_iff.mp hx).1
  have hpl := hRs.2.1
  have hmm := sim_mono (D := D0) (R := R) (show i ≤ R.length by omega)
  have hrb := hRm.2.1
  have hrt := hRm.2.2
  have hok := hRm.1 i hi1 (by omega)
  have hbl5 : bl.length = css.length := hW1.2.2.1.2.2.2.2.1
  have hjd1 := hW1.2.2.2.2.2
  have htl : tk.length ≤ 512 := hbt.len
  have hok1 := hRm.1 (i + 1) (by omega) (by omega)
  have hmm1 := sim_mono (D := D0) (R := R) (show i + 1 ≤ R.length by omega)
  rw [hsim] at hok1 hmm1
  have hL1 := (hW1.1.1).lay hL
  have hcb1 := (hW1.1.1).cb hcb
  have hRs1 := hRs.fl hW1.1.1
  have hcx1 : zC M1 + 1 ≤ 600128 ∧ zS M1 + 6 ≤ 7301098 := by have := hW1.1.1.cs; omega
  refine zr_iload_n dX10_store_22 rfl ?_
  refine zr_if_eq 38 dX10_store_23 (by decide) (fun h23 => ?_) (fun h23 => absurd rfl h23)
  refine zr_iload_n dX10_store_38 rfl ?_
  refine zr_iconst (v := nI 2) dX10_store_39 (by decide) ?_
  refine zr_icmp_neN 59 dX10_store_40 (by decide) (by omega) (by omega) (fun h40 => ?_) (fun h40 => ?_)
  · refine zr_aload_n dX10_store_59 rfl ?_
    refine zr_iload_n dX10_store_60 rfl ?_
    refine zr_callV (md' := mX10_open) (As := [.int (nI 0)]) dX10_store_61 mlX10_82 okX10_open rfl inX10_open slX10_open (by decide) (hL1.K 26 11) rfl (by omega) (Nat.le_of_ble_eq_true rfl) hcb1 (c_Writer_open0 (d := d - 1) hcb1 hL1) (fun k M1 h => by cases h.1) (fun v M9 hq => ?_)
    obtain ⟨e0, e9⟩ := hq
    cases e0
    rw [e9]
    exact t_store64 hd hcb hcx hL hRs hR hRm hbt hx hW1 hs hf (by omega) (by omega) (by decide) rfl (show f + eln D0 x ≤ 512 from hok1.2) (hW1.kx hR List.mem_cons_self hx) (fun M3 hW3 h1 h2 => hk M3 s (f + eln D0 x) j done jd nbs bl (os ++ [f]) css (by rw [hsim]; rfl) (by rw [hsim]; rfl) (by rw [hsim]; rfl) (by rw [hsim]; rfl) hcs h1 h2 hW3)
  · exact absurd h40 (by decide)
set_option maxRecDepth 100000 in
set_option maxHeartbeats 4000000 in
theorem t_store_1 {G : zG} {ad : Nat → Nat} {d k0 n0 on wh ct du cn0 : Nat} {us tk R : List Nat} {D0 : Nat → Int32} {M0 : zM} {Q : zOut → zM → Prop} {x : Nat} {i s f j : Nat} {done : List zF} {jd nbs bl os : List Nat} {css : List (List Nat)} {M1 : zM} (hd : 8 ≤ d) (hcb : zC M0 ≤ 600128 ∧ zS M0 ≤ 7301098) (hcx : zC M0 + 1 ≤ 600128 ∧ zS M0 + 6 ≤ 7301098) (hL : Lay ad M0) (hRs : Rs ad M0 R) (hR : WR D0 tk R) (hRm : Rm D0 R (512 - tk.length) (256 - us.length)) (hbt : Br tk) (hxx : ∀ M' : zM, cn0 = 1 → Wcr ad tk D0 M0 M' → Q (.inr 2) M') (hk : ∀ (M3 : zM) (s3 f3 j3 : Nat) (done3 : List zF) (jd3 nbs3 bl3 os3 : List Nat) (css3 : List (List Nat)), (sim D0 R (i + 1)).1 = s3 → (sim D0 R (i + 1)).2.1 = f3 → (sim D0 R (i + 1)).2.2.1 = nbs3.length + 2 → (sim D0 R (i + 1)).2.2.2 = done3.length + 1 → s3 = css3.length + 1 → zI M3 326 (ad 26) = nI s3 → zI M3 327 (ad 26) = nI f3 → WP ad M0 us tk on wh ct du cn0 D0 R (i + 1) f3 M3 done3 jd3 nbs3 j3 bl3 css3 (0 :: os3) → zw G mX10_store d k0 n0 Q 7 [some (.ref ((ad 26))), some (.ref ((ad 23))), some (.int (nI (i + 1))), none] [] M3) (hx : R[i]? = some x) (hi1 : 1 ≤ i) (hsim : sim D0 R (i + 1) = (adS 1 s, adF 1 f (eln D0 x), nbs.length + 2 + (if 1 = 2 then 2 else if 1 = 1 then 1 else 0), done.length + 1 + (if 1 = 2 then 1 else 0))) (hm1 : (sim D0 R i).1 = s) (hm2 : (sim D0 R i).2.1 = f) (hm3 : (sim D0 R i).2.2.1 = nbs.length + 2) (hm4 : (sim D0 R i).2.2.2 = done.length + 1) (hcs : s = css.length + 1) (hs : zI M1 326 (ad 26) = nI s) (hf : zI M1 327 (ad 26) = nI f) (hW1 : WP ad M0 us tk on wh ct du cn0 D0 R i f M1 done jd nbs j bl css (0 :: os)) : zw G mX10_store d k0 n0 Q 22 [some (.ref ((ad 26))), some (.ref ((ad 23))), some (.int (nI i)), some (.int (nI 1))] [] M1 := by
  have hil := (List.getElem?_eq_some_iff.mp hx).1
  have hpl := hRs.2.1
  have hmm := sim_mono (D := D0) (R := R) (show i ≤ R.length by omega)
  have hrb := hRm.2.1
  have hrt := hRm.2.2
  have hok := hRm.1 i hi1 (by omega)
  have hbl5 : bl.length = css.length := hW1.2.2.1.2.2.2.2.1
  have hjd1 := hW1.2.2.2.2.2
  have htl : tk.length ≤ 512 := hbt.len
  have hok1 := hRm.1 (i + 1) (by omega) (by omega)
  have hmm1 := sim_mono (D := D0) (R := R) (show i + 1 ≤ R.length by omega)
  rw [hsim] at hok1 hmm1
  have hL1 := (hW1.1.1).lay hL
  have hcb1 := (hW1.1.1).cb hcb
  have hRs1 := hRs.fl hW1.1.1
  have hcx1 : zC M1 + 1 ≤ 600128 ∧ zS M1 + 6 ≤ 7301098 := by have := hW1.1.1.cs; omega
  refine zr_iload_n dX10_store_22 rfl ?_
  refine zr_if_eq 38 dX10_store_23 (by decide) (fun h23 => absurd h23 (by decide)) (fun h23 => ?_)
  refine zr_iload_n dX10_store_26 rfl ?_
  refine zr_if_leN 38 dX10_store_27 (by decide) (by omega) (fun h27 => ?_) (fun h27 => ?_)
  · exfalso; omega
  · obtain ⟨t1, t2, t3, t4, t5, t6, t7⟩ := hW1.2.1
    obtain ⟨lf1, cn1, hP1, hcn1⟩ := hW1.1.2.2.1
    obtain ⟨nx1, hn1a, hn1b⟩ := hW1.1.2.2.2.2.1
    refine zr_aload_n dX10_store_30 rfl ?_
    refine zr_aload_n dX10_store_31 rfl ?_
    refine zr_getR dX10_store_32 lkX10_9 (by decide) (by decide) rfl (hL1.K 26 11) (hL1.R 322 26 27) ?_
    refine zr_callV (md' := mX10_writeOut) (As := [.ref ((ad 27))]) dX10_store_35 mlX10_75 okX10_writeOut rfl inX10_writeOut slX10_writeOut (by decide) (hL1.K 26 11) rfl (by omega) (Nat.le_of_ble_eq_true rfl) hcb1 (c_Writer_writeOut (d := d - 1) (q := 27) (n := done.length + 1) (by omega) hcb1 hcx1 hL1 t6 (by omega) (by omega) (by rw [Nat.add_sub_cancel]; exact t5) t1 hW1.1.2.2.2.1 (by rw [List.length_append]; omega) hn1b hn1a t7 (by omega) hP1 (by decide) (by decide)) (fun k M9 h => zt_out rfl (by rcases h with ⟨b9, l9, c9, v1, v2, v3, v4, v5, v6, v7, h, v8⟩ | ⟨b9, r9, v1, v2, v3, v4, v5, h, v8⟩; exact absurd h (by simp); cases h; exact hxx _ (hcn1.mp v5) (hW1.1.crash hL1 hW1.2.2.1 t1 v1 v2 v3 v4 v8 hs hf (by omega) (by omega)))) (fun v M2 hq => ?_)
    rcases hq with ⟨b2, l2, c2, hb2, hb2a, hb2b, g1, g2, g3, g4, e0, e2⟩ | ⟨b9, r9, g1, g2, g3, g4, g5, e0, e2⟩
    rotate_left
    · cases e0
    cases e0
    obtain ⟨hW2, hs2, hf2⟩ := hW1.flush hL1 rfl (by omega) hb2 hb2a hb2b hP1 hcn1 g2 g3 g4 e2
    obtain ⟨bl2, hbl2⟩ : ∃ z, z = bl ++ [b2] := ⟨_, rfl⟩
    obtain ⟨css2, hcss2⟩ : ∃ z, z = css ++ [(0 :: os).map (b2 * 512 + ·)] := ⟨_, rfl⟩
    rw [← hbl2, ← hcss2] at hW2
    have hc2l : css2.length = css.length + 1 := by rw [hcss2, List.length_append]; rfl
    have hb2l : bl2.length = css2.length := hW2.2.2.1.2.2.2.2.1
    have hL2 := (hW2.1.1).lay hL
    have hcb2 := (hW2.1.1).cb hcb
    have hRs2 := hRs.fl hW2.1.1
    have hcx2 : zC M2 + 1 ≤ 600128 ∧ zS M2 + 6 ≤ 7301098 := by have := hW2.1.1.cs; omega
    have hom : b2 * 512 + 0 ∈ css2.flatten := by rw [hcss2, flatten_snoc]; exact List.mem_append_right _ (List.mem_map.mpr ⟨0, List.mem_cons_self, rfl⟩)
    refine zr_iload_n dX10_store_38 rfl ?_
    refine zr_iconst (v := nI 2) dX10_store_39 (by decide) ?_
    refine zr_icmp_neN 59 dX10_store_40 (by decide) (by omega) (by omega) (fun h40 => ?_) (fun h40 => ?_)
    · refine zr_aload_n dX10_store_59 rfl ?_
      refine zr_iload_n dX10_store_60 rfl ?_
      refine zr_callV (md' := mX10_open) (As := [.int (nI 1)]) dX10_store_61 mlX10_82 okX10_open rfl inX10_open slX10_open (by decide) (hL2.K 26 11) rfl (by omega) (Nat.le_of_ble_eq_true rfl) hcb2 (c_Writer_open1 (d := d - 1) (by omega) hcb2 hL2) (fun k M1 h => by cases h.1) (fun v M3 hq => ?_)
      obtain ⟨e0, e3⟩ := hq
      cases e0
      obtain ⟨hW3, hs3, hf3⟩ := hW2.next hL2 e3
      have eA3 : zA M3 (ad 2) = zA M2 (ad 2) := by rw [e3]; exact zsetA_ms (M := M2) (hL2.ne (by decide)) rfl
      exact t_store64 hd hcb hcx hL hRs hR hRm hbt hx hW3 (hs3.trans (hs2.trans hs)) (hf3.trans (hf2.trans hf)) (by omega) (by omega) (by decide) (by rw [Nat.zero_add]; rfl) (by rw [Nat.zero_add]; exact hok1.2) (by rw [eA3]; exact hW2.kx hR hom hx) (fun M5 hW5 h1 h2 => hk M5 (s + 1) (0 + eln D0 x) j done jd (b2 :: nbs) bl2 [] css2 (by rw [hsim]; rfl) (by rw [hsim, Nat.zero_add]; rfl) (by rw [hsim, List.length_cons]; show nbs.length + 2 + 1 = _; omega) (by rw [hsim]; rfl) (by omega) h1 h2 hW5)
    · exact absurd h40 (by decide)
set_option maxRecDepth 100000 in
set_option maxHeartbeats 4000000 in
theorem t_store_2 {G : zG} {ad : Nat → Nat} {d k0 n0 on wh ct du cn0 : Nat} {us tk R : List Nat} {D0 : Nat → Int32} {M0 : zM} {Q : zOut → zM → Prop} {x : Nat} {i s f j : Nat} {done : List zF} {jd nbs bl os : List Nat} {css : List (List Nat)} {M1 : zM} (hd : 8 ≤ d) (hcb : zC M0 ≤ 600128 ∧ zS M0 ≤ 7301098) (hcx : zC M0 + 1 ≤ 600128 ∧ zS M0 + 6 ≤ 7301098) (hL : Lay ad M0) (hRs : Rs ad M0 R) (hR : WR D0 tk R) (hRm : Rm D0 R (512 - tk.length) (256 - us.length)) (hbt : Br tk) (hxx : ∀ M' : zM, cn0 = 1 → Wcr ad tk D0 M0 M' → Q (.inr 2) M') (hk : ∀ (M3 : zM) (s3 f3 j3 : Nat) (done3 : List zF) (jd3 nbs3 bl3 os3 : List Nat) (css3 : List (List Nat)), (sim D0 R (i + 1)).1 = s3 → (sim D0 R (i + 1)).2.1 = f3 → (sim D0 R (i + 1)).2.2.1 = nbs3.length + 2 → (sim D0 R (i + 1)).2.2.2 = done3.length + 1 → s3 = css3.length + 1 → zI M3 326 (ad 26) = nI s3 → zI M3 327 (ad 26) = nI f3 → WP ad M0 us tk on wh ct du cn0 D0 R (i + 1) f3 M3 done3 jd3 nbs3 j3 bl3 css3 (0 :: os3) → zw G mX10_store d k0 n0 Q 7 [some (.ref ((ad 26))), some (.ref ((ad 23))), some (.int (nI (i + 1))), none] [] M3) (hx : R[i]? = some x) (hi1 : 1 ≤ i) (hsim : sim D0 R (i + 1) = (adS 2 s, adF 2 f (eln D0 x), nbs.length + 2 + (if 2 = 2 then 2 else if 2 = 1 then 1 else 0), done.length + 1 + (if 2 = 2 then 1 else 0))) (hnk : eky D0 (rg R (i - 1)) ≠ eky D0 x) (hm1 : (sim D0 R i).1 = s) (hm2 : (sim D0 R i).2.1 = f) (hm3 : (sim D0 R i).2.2.1 = nbs.length + 2) (hm4 : (sim D0 R i).2.2.2 = done.length + 1) (hcs : s = css.length + 1) (hs : zI M1 326 (ad 26) = nI s) (hf : zI M1 327 (ad 26) = nI f) (hW1 : WP ad M0 us tk on wh ct du cn0 D0 R i f M1 done jd nbs j bl css (0 :: os)) : zw G mX10_store d k0 n0 Q 22 [some (.ref ((ad 26))), some (.ref ((ad 23))), some (.int (nI i)), some (.int (nI 2))] [] M1 := by
  have hil := (List.getElem?_eq_some_iff.mp hx).1
  have hpl := hRs.2.1
  have hmm := sim_mono (D := D0) (R := R) (show i ≤ R.length by omega)
  have hrb := hRm.2.1
  have hrt := hRm.2.2
  have hok := hRm.1 i hi1 (by omega)
  have hbl5 : bl.length = css.length := hW1.2.2.1.2.2.2.2.1
  have hjd1 := hW1.2.2.2.2.2
  have htl : tk.length ≤ 512 := hbt.len
  have hok1 := hRm.1 (i + 1) (by omega) (by omega)
  have hmm1 := sim_mono (D := D0) (R := R) (show i + 1 ≤ R.length by omega)
  rw [hsim] at hok1 hmm1
  have hmt : done.length + 1 + 1 ≤ (sim D0 R R.length).2.2.2 := hmm1.2
  have hL1 := (hW1.1.1).lay hL
  have hcb1 := (hW1.1.1).cb hcb
  have hRs1 := hRs.fl hW1.1.1
  have hcx1 : zC M1 + 1 ≤ 600128 ∧ zS M1 + 6 ≤ 7301098 := by have := hW1.1.1.cs; omega
  refine zr_iload_n dX10_store_22 rfl ?_
  refine zr_if_eqN 38 dX10_store_23 (by decide) (by omega) (fun h23 => ?_) (fun h23 => ?_)
  · exfalso; omega
  · refine zr_iload_n dX10_store_26 rfl ?_
    refine zr_if_leN 38 dX10_store_27 (by decide) (by omega) (fun h27 => ?_) (fun h27 => ?_)
    · exfalso; omega
    · obtain ⟨t1, t2, t3, t4, t5, t6, t7⟩ := hW1.2.1
      obtain ⟨lf1, cn1, hP1, hcn1⟩ := hW1.1.2.2.1
      obtain ⟨nx1, hn1a, hn1b⟩ := hW1.1.2.2.2.2.1
      refine zr_aload_n dX10_store_30 rfl ?_
      refine zr_aload_n dX10_store_31 rfl ?_
      refine zr_getR dX10_store_32 lkX10_9 (by decide) (by decide) rfl (hL1.K 26 11) (hL1.R 322 26 27) ?_
      refine zr_callV (md' := mX10_writeOut) (As := [.ref ((ad 27))]) dX10_store_35 mlX10_75 okX10_writeOut rfl inX10_writeOut slX10_writeOut (by decide) (hL1.K 26 11) rfl (by omega) (Nat.le_of_ble_eq_true rfl) hcb1 (c_Writer_writeOut (d := d - 1) (q := 27) (n := done.length + 1) (by omega) hcb1 hcx1 hL1 t6 (by omega) (by omega) (by rw [Nat.add_sub_cancel]; exact t5) t1 hW1.1.2.2.2.1 (by rw [List.length_append]; omega) hn1b hn1a t7 (by omega) hP1 (by decide) (by decide)) (fun k M9 h => zt_out rfl (by rcases h with ⟨b9, l9, c9, v1, v2, v3, v4, v5, v6, v7, h, v8⟩ | ⟨b9, r9, v1, v2, v3, v4, v5, h, v8⟩; exact absurd h (by simp); cases h; exact hxx _ (hcn1.mp v5) (hW1.1.crash hL1 hW1.2.2.1 t1 v1 v2 v3 v4 v8 hs hf (by omega) (by omega)))) (fun v M2 hq => ?_)
      rcases hq with ⟨b2, l2, c2, hb2, hb2a, hb2b, g1, g2, g3, g4, e0, e2⟩ | ⟨b9, r9, g1, g2, g3, g4, g5, e0, e2⟩
      rotate_left
      · cases e0
      cases e0
      obtain ⟨hW2, hs2, hf2⟩ := hW1.flush hL1 rfl (by omega) hb2 hb2a hb2b hP1 hcn1 g2 g3 g4 e2
      obtain ⟨bl2, hbl2⟩ : ∃ z, z = bl ++ [b2] := ⟨_, rfl⟩
      obtain ⟨css2, hcss2⟩ : ∃ z, z = css ++ [(0 :: os).map (b2 * 512 + ·)] := ⟨_, rfl⟩
      rw [← hbl2, ← hcss2] at hW2
      have hc2l : css2.length = css.length + 1 := by rw [hcss2, List.length_append]; rfl
      have hb2l : bl2.length = css2.length := hW2.2.2.1.2.2.2.2.1
      have hL2 := (hW2.1.1).lay hL
      have hcb2 := (hW2.1.1).cb hcb
      have hRs2 := hRs.fl hW2.1.1
      have hcx2 : zC M2 + 1 ≤ 600128 ∧ zS M2 + 6 ≤ 7301098 := by have := hW2.1.1.cs; omega
      have hom : b2 * 512 + 0 ∈ css2.flatten := by rw [hcss2, flatten_snoc]; exact List.mem_append_right _ (List.mem_map.mpr ⟨0, List.mem_cons_self, rfl⟩)
      refine zr_iload_n dX10_store_38 rfl ?_
      refine zr_iconst (v := nI 2) dX10_store_39 (by decide) ?_
      refine zr_icmp_neN 59 dX10_store_40 (by decide) (by omega) (by omega) (fun h40 => ?_) (fun h40 => ?_)
      · first | exact absurd rfl h40 | (exfalso; omega)
      · refine zr_iload_n dX10_store_43 rfl ?_
        refine zr_if_leN 59 dX10_store_44 (by decide) (by omega) (fun h44 => ?_) (fun h44 => ?_)
        · first | exact absurd rfl h40 | (exfalso; omega)
        · obtain ⟨u1, u2, u3, u4, u5, u6, u7⟩ := hW2.2.1
          obtain ⟨lf2, cn2, hP2, hcn2⟩ := hW2.1.2.2.1
          obtain ⟨nx2, hn2a, hn2b⟩ := hW2.1.2.2.2.2.1
          refine zr_aload_n dX10_store_47 rfl ?_
          refine zr_aload_n dX10_store_48 rfl ?_
          refine zr_getR dX10_store_49 lkX10_15 (by decide) (by decide) rfl (hL2.K 26 11) (hL2.R 323 26 28) ?_
          refine zr_callV (md' := mX10_writeOut) (As := [.ref ((ad 28))]) dX10_store_52 mlX10_75 okX10_writeOut rfl inX10_writeOut slX10_writeOut (by decide) (hL2.K 26 11) rfl (by omega) (Nat.le_of_ble_eq_true rfl) hcb2 (c_Writer_writeOut (d := d - 1) (q := 28) (n := done.length + 1) (by omega) hcb2 hcx2 hL2 u6 (by omega) (by omega) (by rw [Nat.add_sub_cancel]; exact u5) u1 hW2.1.2.2.2.1 (by rw [List.length_append]; rw [List.length_cons]; omega) hn2b hn2a u7 (by omega) hP2 (by decide) (by decide)) (fun k M9 h => zt_out rfl (by rcases h with ⟨b9, l9, c9, v1, v2, v3, v4, v5, v6, v7, h, v8⟩ | ⟨b9, r9, v1, v2, v3, v4, v5, h, v8⟩; exact absurd h (by simp); cases h; exact hxx _ (hcn2.mp v5) (hW2.1.crash hL2 hW2.2.2.1 u1 v1 v2 v3 v4 v8 (hs2.trans hs) (hf2.trans hf) (by omega) (by omega)))) (fun v M3 hq => ?_)
          rcases hq with ⟨b3, l3, c3, hb3, hb3a, hb3b, g1, g2, g3, g4, e0, e3⟩ | ⟨b9, r9, g1, g2, g3, g4, g5, e0, e3⟩
          rotate_left
          · cases e0
          cases e0
          obtain ⟨hS3, hT3, hX3, hE3, hs3, hf3⟩ := hW2.filt hL2 hR (by omega) (by omega) hb3 hb3a hb3b hP2 hcn2 g2 g3 g4 e3
          have hL3 := hS3.1.lay hL
          have hcb3 := hS3.1.cb hcb
          obtain ⟨v1, v2, v3, v4, v5, v6, v7⟩ := id hT3
          have hTF := (hX3.2.2.1 (j, bl2 ++ [b3], css2) (List.mem_append_right _ (List.mem_singleton.mpr rfl))).1
          have h9l : (bl2 ++ [b3]).length = css2.length + 1 := hTF.1.1
          obtain ⟨c, hc⟩ : ∃ c, css2[css2.length - 1]? = some c := ⟨_, List.getElem?_eq_getElem (by omega)⟩
          obtain ⟨bb, hbb⟩ : ∃ bb, (bl2 ++ [b3])[css2.length - 1]? = some bb := ⟨_, List.getElem?_eq_getElem (by omega)⟩
          obtain ⟨ps, hps, hch9, hcl⟩ := hTF.1.2.2.2.2.1 _ bb c hbb hc
          have hpl9 : 0 + ps.length < 511 := by rw [hps, List.length_cons] at hcl; omega
          have hin9 : ∀ q ∈ bb * 512 :: ps, q < 303096 := fun q hq => (hTF.1.2.2.2.2.2.1 q (List.mem_flatten.mpr ⟨c, List.mem_of_getElem? hc, by rw [hps]; exact hq⟩)).1
          have hla9 : css2.flatten.getLast? = some ((bb * 512 :: ps).getLast (List.cons_ne_nil _ _)) := (flat_last hc (by rw [hps]; exact List.cons_ne_nil _ _)).trans (by rw [hps]; rfl)
          refine zr_aload_n dX10_store_55 rfl ?_
          refine zr_callV (md' := mX10_closeTable) (As := []) dX10_store_56 mlX10_79 okX10_closeTable rfl inX10_closeTable slX10_closeTable (by decide) (hL3.K 26 11) rfl (by omega) (Nat.le_of_ble_eq_true rfl) hcb3 (c_Writer_closeTable (d := d - 1) (n := done.length + 1) (b := bb) (ps := ps) (by omega) hcb3 hL3 v6 (by omega) (by omega) (by rw [Nat.add_sub_cancel]; exact v5) v1 v7 hTF.1.2.2.2.1 (by omega) (by rw [show (bl2 ++ [b3]).length - 2 = css2.length - 1 by omega]; exact hbb) hch9 hin9 hpl9) (fun k M1 h => by cases h.1) (fun v M4 hq => ?_)
          obtain ⟨e0, e4⟩ := hq
          cases e0
          obtain ⟨hW4, hs4, hf4⟩ := WQ.shut hL3 hS3 hT3 hX3 hE3 hjd1 hla9 e4
          have hL4 := hW4.1.1.lay hL
          have hcb4 := hW4.1.1.cb hcb
          refine zr_aload_n dX10_store_59 rfl ?_
          refine zr_iload_n dX10_store_60 rfl ?_
          refine zr_callV (md' := mX10_open) (As := [.int (nI 2)]) dX10_store_61 mlX10_82 okX10_open rfl inX10_open slX10_open (by decide) (hL4.K 26 11) rfl (by omega) (Nat.le_of_ble_eq_true rfl) hcb4 (c_Writer_open2 (d := d - 1) (by omega) hcb4 hL4 hW4.2.1 (by rw [hW4.2.2.2.2.2]; simp only [List.length_append, List.length_reverse, List.length_map, List.length_cons, List.length_nil]; omega) hW4.2.2.1 (by rw [List.length_append]; show done.length + 1 < 256; omega)) (fun k M9 h => by obtain ⟨_, h, _⟩ := h; cases h) (fun v M5 hq => ?_)
          obtain ⟨j5, e0, hj5, hj5b, hF5, hU5, hT5, h5a, h5b, h5c, h5d, h5e⟩ := hq
          cases e0
          have hW5 := hW4.begin hj5 hj5b hF5 hU5 hT5 h5a h5b h5c h5d
          have eA5 : zA M5 (ad 2) = zA M4 (ad 2) := hF5.rA (by decide) (by decide)
          exact t_store64 hd hcb hcx hL hRs hR hRm hbt hx hW5 ((hF5.rI (by decide) (by decide)).trans (hs4.trans (hs3.trans (hs2.trans hs)))) ((hF5.rI (by decide) (by decide)).trans (hf4.trans (hf3.trans (hf2.trans hf)))) (by omega) (by omega) (by decide) (by rw [Nat.zero_add]; rfl) (by rw [Nat.zero_add]; exact hok1.2) (by rw [eA5]; exact hW4.kx hR hx (Or.inr hnk)) (fun M6 hW6 h1 h2 => hk M6 1 (0 + eln D0 x) j5 _ _ (b3 :: b2 :: nbs) [] [] [] (by rw [hsim]; rfl) (by rw [hsim, Nat.zero_add]; rfl) (by rw [hsim, List.length_cons, List.length_cons]; show nbs.length + 2 + 2 = _; omega) (by rw [hsim, List.length_append]; rfl) rfl h1 h2 hW6)
set_option maxRecDepth 100000 in
set_option maxHeartbeats 4000000 in
theorem l_store {G : zG} {ad : Nat → Nat} {d k0 n0 on wh ct du cn0 : Nat} {us tk R : List Nat} {D0 : Nat → Int32} {M0 : zM} {Q : zOut → zM → Prop} (hd : 8 ≤ d) (hcb : zC M0 ≤ 600128 ∧ zS M0 ≤ 7301098) (hcx : zC M0 + 1 ≤ 600128 ∧ zS M0 + 6 ≤ 7301098) (hL : Lay ad M0) (hRs : Rs ad M0 R) (hR : WR D0 tk R) (hRm : Rm D0 R (512 - tk.length) (256 - us.length)) (hbt : Br tk) (hxx : ∀ M' : zM, cn0 = 1 → Wcr ad tk D0 M0 M' → Q (.inr 2) M') (hq0 : ∀ M' : zM, WEnd ad M0 us tk on wh ct du cn0 D0 R M' → Q (.inl none) M') : ∀ (m i s f j : Nat) (done : List zF) (jd nbs bl os : List Nat) (css : List (List Nat)) (M1 : zM), R.length - i = m → 1 ≤ i → i ≤ R.length → (sim D0 R i).1 = s → (sim D0 R i).2.1 = f → (sim D0 R i).2.2.1 = nbs.length + 2 → (sim D0 R i).2.2.2 = done.length + 1 → s = css.length + 1 → zI M1 326 (ad 26) = nI s → zI M1 327 (ad 26) = nI f → WP ad M0 us tk on wh ct du cn0 D0 R i f M1 done jd nbs j bl css (0 :: os) → zw G mX10_store d k0 n0 Q 7 [some (.ref ((ad 26))), some (.ref ((ad 23))), some (.int (nI i)), none] [] M1 := by
  intro m
  induction m using Nat.strongRecOn with
  | _ m ih =>
    intro i s f j done jd nbs bl os css M1 hm hi1 hi hm1 hm2 hm3 hm4 hcs hs hf hW1
    have hpl := hRs.2.1
    have hmm := sim_mono (D := D0) (R := R) (show i ≤ R.length by omega)
    have hrb := hRm.2.1
    have hrt := hRm.2.2
    have hok := hRm.1 i hi1 (by omega)
    have hbl5 : bl.length = css.length := hW1.2.2.1.2.2.2.2.1
    have hjd1 := hW1.2.2.2.2.2
    have htl : tk.length ≤ 512 := hbt.len
    have hL1 := (hW1.1.1).lay hL
    have hcb1 := (hW1.1.1).cb hcb
    have hRs1 := hRs.fl hW1.1.1
    have hcx1 : zC M1 + 1 ≤ 600128 ∧ zS M1 + 6 ≤ 7301098 := by have := hW1.1.1.cs; omega
    have hE1 : Eb (zA M1 (ad 2)) R := Eall.eb (fun p hp => hW1.2.2.1.eal hR hp) hR.1
    refine zr_iload_n dX10_store_7 rfl ?_
    refine zr_aload_n dX10_store_8 rfl ?_
    refine zr_getI dX10_store_9 lkX10_55 (by decide) (by decide) rfl (hL1.K 23 8) ?_
    refine zr_as (y := (nI R.length)) hRs1.1 ?_
    refine zr_icmp_geN 98 dX10_store_12 (by decide) (by omega) (by omega) (fun h12 => ?_) (fun h12 => ?_)
    · exact t_store98 hd hcb hcx hL hRs hR hRm hbt hxx hq0 hi1 (by omega) hm1 hm2 hm3 hm4 hcs hs hf hW1
    · obtain ⟨x, hx⟩ : ∃ x, R[i]? = some x := ⟨_, List.getElem?_eq_getElem (by omega)⟩
      refine zr_aload_n dX10_store_15 rfl ?_
      refine zr_aload_n dX10_store_16 rfl ?_
      refine zr_iload_n dX10_store_17 rfl ?_
      refine zr_callV (md' := mX10_stepTo) (As := [.ref ((ad 23)), .int (nI i)]) dX10_store_18 mlX10_58 okX10_stepTo rfl inX10_stepTo slX10_stepTo (by decide) (hL1.K 26 11) rfl (by omega) (Nat.le_of_ble_eq_true rfl) hcb1 (c_Writer_stepTo (d := d - 1) (by omega) hcb1 hL1 hs hf (by omega) (by omega) hRs1 hE1 hx) (fun k M1 h => by cases h.1) (fun v M9 hq => ?_)
      obtain ⟨e0, e9⟩ := hq
      cases e0
      rw [e9, stp_same (fun p hp => hW1.2.2.1.eal hR hp) (show i < R.length by omega)]
      obtain ⟨n, hn⟩ : ∃ n, n = stp D0 R i s f := ⟨_, rfl⟩
      have hn2 : n ≤ 2 := by rw [hn]; exact stp_le _ _ _ _ _
      rw [← hn]
      have hsim := sim_succ (Or.inr ⟨hm1, hm2⟩) ⟨hm3, hm4⟩ hn.symm
      rw [rg_some hx] at hsim
      have hnk2 : n = 2 → eky D0 (rg R (i - 1)) ≠ eky D0 x := fun z => by
        rw [hn] at z
        unfold stp at z
        split at z
        · next h => rcases h with h | h
                    · omega
                    · rw [rg_some hx] at h; exact h.1
        · split at z <;> cases z
      refine zr_istore_n (lv' := [some (.ref ((ad 26))), some (.ref ((ad 23))), some (.int (nI i)), some (.int (nI n))]) dX10_store_21 (Nat.le_of_ble_eq_true rfl) (Nat.le_of_ble_eq_true rfl) rfl rfl ?_
      rcases (show n = 0 ∨ n = 1 ∨ n = 2 by omega) with e9 | e9 | e9
      · rw [e9] at hsim ⊢
        exact t_store_0 hd hcb hcx hL hRs hR hRm hbt hxx (fun M3 s3 f3 j3 done3 jd3 nbs3 bl3 os3 css3 y1 y2 y3 y4 y5 y6 y7 y8 => ih _ (by omega) (i + 1) s3 f3 j3 done3 jd3 nbs3 bl3 os3 css3 M3 rfl (by omega) (by omega) y1 y2 y3 y4 y5 y6 y7 y8) hx hi1 hsim hm1 hm2 hm3 hm4 hcs hs hf hW1
      · rw [e9] at hsim ⊢
        exact t_store_1 hd hcb hcx hL hRs hR hRm hbt hxx (fun M3 s3 f3 j3 done3 jd3 nbs3 bl3 os3 css3 y1 y2 y3 y4 y5 y6 y7 y8 => ih _ (by omega) (i + 1) s3 f3 j3 done3 jd3 nbs3 bl3 os3 css3 M3 rfl (by omega) (by omega) y1 y2 y3 y4 y5 y6 y7 y8) hx hi1 hsim hm1 hm2 hm3 hm4 hcs hs hf hW1
      · rw [e9] at hsim ⊢
        exact t_store_2 hd hcb hcx hL hRs hR hRm hbt hxx (fun M3 s3 f3 j3 done3 jd3 nbs3 bl3 os3 css3 y1 y2 y3 y4 y5 y6 y7 y8 => ih _ (by omega) (i + 1) s3 f3 j3 done3 jd3 nbs3 bl3 os3 css3 M3 rfl (by omega) (by omega) y1 y2 y3 y4 y5 y6 y7 y8) hx hi1 hsim (hnk2 e9) hm1 hm2 hm3 hm4 hcs hs hf hW1
set_option maxRecDepth 100000 in
set_option maxHeartbeats 4000000 in
theorem t_store0 {G : zG} {ad : Nat → Nat} {d k0 n0 on wh ct du cn0 : Nat} {us tk R : List Nat} {M0 : zM} {Q : zOut → zM → Prop} {lf nx s f : Nat} (hd : 8 ≤ d) (hcb : zC M0 ≤ 600128 ∧ zS M0 ≤ 7301098) (hcx : zC M0 + 1 ≤ 600128 ∧ zS M0 + 6 ≤ 7301098) (hL : Lay ad M0) (hRs : Rs ad M0 R) (hR : WR (zA M0 (ad 2)) tk R) (hRm : Rm (zA M0 (ad 2)) R (512 - tk.length) (256 - us.length)) (hbt : Br tk) (hxx : ∀ M' : zM, cn0 = 1 → Wcr ad tk (zA M0 (ad 2)) M0 M' → Q (.inr 2) M') (hq0 : ∀ M' : zM, WEnd ad M0 us tk on wh ct du cn0 (zA M0 (ad 2)) R M' → Q (.inl none) M') (hP : Pw ad M0 on wh lf ct du cn0) (hTk : Tk ad M0 tk) (hU : Us ad M0 us) (hnx : zI M0 71 (ad 17) = nI nx) (hn9 : nx ≤ 512) (hs : zI M0 326 (ad 26) = nI s) (hf : zI M0 327 (ad 26) = nI f) (hsb : s ≤ 4095) (hfb : f ≤ 3500) : zw G mX10_store d k0 n0 Q 7 [some (.ref ((ad 26))), some (.ref ((ad 23))), some (.int (nI 0)), none] [] (zput M0 325 (ad 26) (nI 0)) := by
  obtain ⟨M1, e1⟩ : ∃ M1, M1 = zput M0 325 (ad 26) (nI 0) := ⟨_, rfl⟩
  have hF1 : Fl ad 0 [325] [] [] M0 M1 := by rw [e1]; exact (Fl.refl ad _ _ _ M0).put hL (f := 325) (i := 26)
  have hL1 := hF1.lay hL
  have hcb1 := hF1.cb hcb
  have hRs1 := hRs.fl hF1
  have eA1 : zA M1 (ad 2) = zA M0 (ad 2) := by rw [e1]; rfl
  have hZ : WZ ad M0 us tk on wh ct du cn0 (zA M0 (ad 2)) R 0 M1 [] [] [] := by
    refine ⟨⟨hF1.mono, fun j bl la hj _ hT => hT.fl hF1 hj, ⟨lf, cn0, hP.fl hF1, Iff.rfl⟩, hTk.fl hF1, ⟨nx, hn9, (hF1.rI (by decide) (by decide)).trans hnx⟩, fun k f hk => by simp at hk⟩, hU.fl hF1, (by rw [e1]; exact zput_hit _ _ _ _), ?_, rfl, rfl⟩
    rw [eA1]
    exact ⟨fun p _ => rfl, List.Perm.refl _, fun f hf => (by cases hf), List.Pairwise.nil, rfl, fun k b c hk => (by simp at hk), fun q hq => (by cases hq), fun q hq => (by cases hq), hbt⟩
  have hs1 : zI M1 326 (ad 26) = nI s := (hF1.rI (by decide) (by decide)).trans hs
  have hf1 : zI M1 327 (ad 26) = nI f := (hF1.rI (by decide) (by decide)).trans hf
  have hE1 : Eb (zA M1 (ad 2)) R := by rw [eA1]; exact hR.1
  have hpl := hRs.2.1
  rw [← e1]
  refine zr_iload_n dX10_store_7 rfl ?_
  refine zr_aload_n dX10_store_8 rfl ?_
  refine zr_getI dX10_store_9 lkX10_55 (by decide) (by decide) rfl (hL1.K 23 8) ?_
  refine zr_as (y := (nI R.length)) hRs1.1 ?_
  refine zr_icmp_geN 98 dX10_store_12 (by decide) (by omega) (by omega) (fun h12 => ?_) (fun h12 => ?_)
  · refine zr_aload_n dX10_store_98 rfl ?_
    refine zr_getI dX10_store_99 lkX10_55 (by decide) (by decide) rfl (hL1.K 23 8) ?_
    refine zr_as (y := (nI R.length)) hRs1.1 ?_
    refine zr_if_leN 125 dX10_store_102 (by decide) (by omega) (fun h102 => ?_) (fun h102 => ?_)
    · refine zr_vret dX10_store_125 rfl ?_
      exact hq0 _ (hZ.fin (by omega) hs1 hf1 hsb hfb)
    · exfalso; omega
  · obtain ⟨x, hx⟩ : ∃ x, R[0]? = some x := ⟨_, List.getElem?_eq_getElem (by omega)⟩
    have hsim := sim_succ (D := zA M0 (ad 2)) (R := R) (i := 0) (s := 0) (f := 0) (b := 0) (t := 0) (n := 2) (Or.inl rfl) ⟨rfl, rfl⟩ (if_pos (Or.inl rfl))
    rw [rg_some hx] at hsim
    have hok1 := hRm.1 1 (by omega) (by omega)
    have hmm1 := (sim_mono (D := zA M0 (ad 2)) (R := R) (show 1 ≤ R.length by omega)).2
    rw [hsim] at hok1 hmm1
    have hmt : 0 + 1 ≤ (sim (zA M0 (ad 2)) R R.length).2.2.2 := hmm1
    have hrt := hRm.2.2
    refine zr_aload_n dX10_store_15 rfl ?_
    refine zr_aload_n dX10_store_16 rfl ?_
    refine zr_iload_n dX10_store_17 rfl ?_
    refine zr_callV (md' := mX10_stepTo) (As := [.ref ((ad 23)), .int (nI 0)]) dX10_store_18 mlX10_58 okX10_stepTo rfl inX10_stepTo slX10_stepTo (by decide) (hL1.K 26 11) rfl (by omega) (Nat.le_of_ble_eq_true rfl) hcb1 (c_Writer_stepTo (d := d - 1) (i := 0) (by omega) hcb1 hL1 hs1 hf1 (by omega) (by omega) hRs1 hE1 hx) (fun k M1 h => by cases h.1) (fun v M9 hq => ?_)
    obtain ⟨e0, e9⟩ := hq
    cases e0
    rw [e9, show stp (zA M1 (ad 2)) R 0 s f = 2 from if_pos (Or.inl rfl)]
    refine zr_istore_n (lv' := [some (.ref ((ad 26))), some (.ref ((ad 23))), some (.int (nI 0)), some (.int (nI 2))]) dX10_store_21 (Nat.le_of_ble_eq_true rfl) (Nat.le_of_ble_eq_true rfl) rfl rfl ?_
    refine zr_iload_n dX10_store_22 rfl ?_
    refine zr_if_eqN 38 dX10_store_23 (by decide) (by omega) (fun h23 => ?_) (fun h23 => ?_)
    · exact absurd h23 (by decide)
    · refine zr_iload_n dX10_store_26 rfl ?_
      refine zr_if_leN 38 dX10_store_27 (by decide) (by omega) (fun h27 => ?_) (fun h27 => ?_)
      · refine zr_iload_n dX10_store_38 rfl ?_
        refine zr_iconst (v := nI 2) dX10_store_39 (by decide) ?_
        refine zr_icmp_neN 59 dX10_store_40 (by decide) (by omega) (by omega) (fun h40 => ?_) (fun h40 => ?_)
        · exact absurd rfl h40
        · refine zr_iload_n dX10_store_43 rfl ?_
          refine zr_if_leN 59 dX10_store_44 (by decide) (by omega) (fun h44 => ?_) (fun h44 => ?_)
          · refine zr_aload_n dX10_store_59 rfl ?_
            refine zr_iload_n dX10_store_60 rfl ?_
            refine zr_callV (md' := mX10_open) (As := [.int (nI 2)]) dX10_store_61 mlX10_82 okX10_open rfl inX10_open slX10_open (by decide) (hL1.K 26 11) rfl (by omega) (Nat.le_of_ble_eq_true rfl) hcb1 (c_Writer_open2 (d := d - 1) (us := [] ++ us) (by omega) hcb1 hL1 hZ.2.1 (by show us.length < 256; omega) hZ.2.2.1 (by decide)) (fun k M9 h => by obtain ⟨_, h, _⟩ := h; cases h) (fun v M5 hq => ?_)
            obtain ⟨j5, e0, hj5, hj5b, hF5, hU5, hT5, h5a, h5b, h5c, h5d, h5e⟩ := hq
            cases e0
            have hW5 := hZ.begin hj5 hj5b hF5 hU5 hT5 h5a h5b h5c h5d
            exact t_store64 hd hcb hcx hL hRs hR hRm hbt hx hW5 ((hF5.rI (by decide) (by decide)).trans hs1) ((hF5.rI (by decide) (by decide)).trans hf1) (by omega) (by omega) (by decide) (by rw [Nat.zero_add]; rfl) (by rw [Nat.zero_add]; exact hok1.2) (fun p hp => by cases hp) (fun M6 hW6 h1 h2 => l_store hd hcb hcx hL hRs hR hRm hbt hxx hq0 _ 1 1 (0 + eln (zA M0 (ad 2)) x) j5 [] [] [] [] [] [] M6 rfl (by omega) (by omega) (by rw [hsim]; rfl) (by rw [hsim]; exact (Nat.zero_add _).symm) (by rw [hsim]; rfl) (by rw [hsim]; rfl) rfl h1 h2 hW6)
          · exfalso; omega
      · exfalso; omega
set_option maxRecDepth 100000 in
set_option maxHeartbeats 4000000 in
theorem c_Writer_store {G : zG} {ad : Nat → Nat} {d on wh lf ct du cn0 nx s f : Nat} {us tk R : List Nat} {M0 : zM} (hd : 8 ≤ d) (hcb : zC M0 ≤ 600128 ∧ zS M0 ≤ 7301098) (hcx : zC M0 + 1 ≤ 600128 ∧ zS M0 + 6 ≤ 7301098) (hL : Lay ad M0) (hRs : Rs ad M0 R) (hR : WR (zA M0 (ad 2)) tk R) (hRm : Rm (zA M0 (ad 2)) R (512 - tk.length) (256 - us.length)) (hbt : Br tk) (hP : Pw ad M0 on wh lf ct du cn0) (hTk : Tk ad M0 tk) (hU : Us ad M0 us) (hnx : zI M0 71 (ad 17) = nI nx) (hn9 : nx ≤ 512) (hs : zI M0 326 (ad 26) = nI s) (hf : zI M0 327 (ad 26) = nI f) (hsb : s ≤ 4095) (hfb : f ≤ 3500)  : zMet G mX10_store d [.ref ((ad 26)), .ref ((ad 23))] M0 (fun o M' => (o = .inl none ∧ WEnd ad M0 us tk on wh ct du cn0 (zA M0 (ad 2)) R M') ∨ (o = .inr 2 ∧ cn0 = 1 ∧ Wcr ad tk (zA M0 (ad 2)) M0 M')) := by
  refine zMet_of (by decide +kernel) (Nat.le_of_ble_eq_true rfl) rfl hcb ?_
  show zw G mX10_store d _ _ _ 0 [some (.ref ((ad 26))), some (.ref ((ad 23))), none, none] [] M0
  have hL0 := hL
  refine zr_aload_n dX10_store_0 rfl ?_
  refine zr_iconst (v := nI 0) dX10_store_1 (by decide) ?_
  refine zr_putI dX10_store_2 lkX10_74 (by decide) (by decide) rfl rfl (hL0.K 26 11) ?_
  refine zr_iconst (v := nI 0) dX10_store_5 (by decide) ?_
  refine zr_istore_n (lv' := [some (.ref ((ad 26))), some (.ref ((ad 23))), some (.int (nI 0)), none]) dX10_store_6 (Nat.le_of_ble_eq_true rfl) (Nat.le_of_ble_eq_true rfl) rfl rfl ?_
  exact t_store0 hd hcb hcx hL hRs hR hRm hbt (fun M' b a => Or.inr ⟨rfl, b, a⟩) (fun M' h => Or.inl ⟨rfl, h⟩) hP hTk hU hnx hn9 hs hf hsb hfb
