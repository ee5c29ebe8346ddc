/-! ===== new files under way: the steps ===== -/
def WP (ad : Nat → Nat) (M0 : zM) (us tk : List Nat) (on wh ct du cn0 : Nat) (D0 : Nat → Int32) (R : List Nat) (m f : Nat) (M1 : zM) (done : List zF) (jd nbs : List Nat) (j : Nat) (bl : List Nat) (css : List (List Nat)) (offs : List Nat) : Prop :=
  WS ad M0 M1 us tk on wh ct du cn0 done jd nbs ∧ WT ad M1 us done jd j bl ∧ WX D0 tk (zA M1 (ad 2)) done bl css nbs ∧ WBf (zA M1 (ad 2)) (zA M1 (ad 27)) (zA M1 (ad 28)) done css offs f ∧ WE D0 (zA M1 (ad 2)) (zA M1 (ad 27)) R done css offs m ∧ jd = (done.map (·.1)).reverse
/-- all that was begun is written -/
def WQ (ad : Nat → Nat) (M0 : zM) (us tk : List Nat) (on wh ct du cn0 : Nat) (D0 : Nat → Int32) (R : List Nat) (m : Nat) (M1 : zM) (done : List zF) (jd nbs : List Nat) (j : Nat) (bl : List Nat) (css : List (List Nat)) : Prop :=
  WS ad M0 M1 us tk on wh ct du cn0 done jd nbs ∧ WT ad M1 us done jd j bl ∧ WX D0 tk (zA M1 (ad 2)) done bl css nbs ∧ (∀ q ∈ css.flatten, Fil (zA M1 (ad 28)) 0 (eky (zA M1 (ad 2)) q)) ∧ (lvE done ++ css.flatten).map (ent (zA M1 (ad 2))) = (R.take m).map (ent D0) ∧ jd = (done.map (·.1)).reverse
/-- no table is open -/
def WZ (ad : Nat → Nat) (M0 : zM) (us tk : List Nat) (on wh ct du cn0 : Nat) (D0 : Nat → Int32) (R : List Nat) (m : Nat) (M1 : zM) (done : List zF) (jd nbs : List Nat) : Prop :=
  WS ad M0 M1 us tk on wh ct du cn0 done jd nbs ∧ Us ad M1 (jd ++ us) ∧ zI M1 325 (ad 26) = nI done.length ∧ WX D0 tk (zA M1 (ad 2)) done [] [] nbs ∧ (lvE done).map (ent (zA M1 (ad 2))) = (R.take m).map (ent D0) ∧ jd = (done.map (·.1)).reverse
section steps
variable {ad : Nat → Nat} {M0 M1 M2 : zM} {us tk : List Nat} {on wh ct du cn0 : Nat} {D0 : Nat → Int32} {R : List Nat} {m f j : Nat} {done : List zF} {jd nbs bl offs os : List Nat} {css : List (List Nat)}
theorem WT.fj {LF LA LB bl' : List Nat} (h : WT ad M1 us done jd j bl) (hF : Fj ad 0 j LF LA LB M1 M2) (hU : Us ad M2 (j :: (jd ++ us))) (hT : Tb ad M2 j bl' none) (h1 : 325 ∉ LF := by decide) (h2 : 29 ∉ LB := by decide) : WT ad M2 us done jd j bl' :=
  ⟨h.1, h.2.1, h.2.2.1, hU, (congrFun (hF.rB h2 (by decide)) _).trans h.2.2.2.2.1, (hF.rI h1 (by decide)).trans h.2.2.2.2.2.1, hT⟩
theorem WP.flush {b lf cn lf0 cn1 : Nat} (hL : Lay ad M1) (h : WP ad M0 us tk on wh ct du cn0 D0 R m f M1 done jd nbs j bl css offs) (ho : offs = 0 :: os) (hbl : bl.length < 9) (hb : b ∉ nbs ++ tk) (hb1 : 80 ≤ b) (hb2 : b < 592) (hP : Pw ad M1 on wh lf0 ct du cn1) (hc1 : cn1 = 1 ↔ cn0 = 1) (h1 : lf ≤ lf0) (h2 : cn ≤ 1) (h3 : cn = 1 ↔ cn1 = 1) (hM : M2 = wOk ad (woM ad M1 j bl b (512 - (nbs ++ tk).length - 1)) (ad 27) 0 (b * 512) 512 lf cn) :
    WQ ad M0 us tk on wh ct du cn0 D0 R m M2 done jd (b :: nbs) j (bl ++ [b]) (css ++ [offs.map (b * 512 + ·)]) ∧ zI M2 326 (ad 26) = zI M1 326 (ad 26) ∧ zI M2 327 (ad 26) = zI M1 327 (ad 26) := by
  obtain ⟨a1, a2, a3, a4, a5, a6⟩ := h
  obtain ⟨t1, t2, t3, t4, t5, t6, t7⟩ := id a2
  obtain ⟨hF, hTk, hTb, hU, hPw, hnx, hD, hB⟩ := wo_post hL t1 t7 hbl a1.2.2.2.1 t4 hb hb1 hb2 hP h1 h2 hM
  obtain ⟨b1, b2, b3, b4, b5, b6, b7⟩ := a4
  have hB2 : ∀ k, k < 512 → zA M2 (ad 2) (b * 512 + k) = zA M1 (ad 27) k := hB (by decide) (by decide)
  have e28 : zA M2 (ad 28) = zA M1 (ad 28) := hF.rA (by decide) (by decide)
  have hbn : b ∉ nbs := fun z => hb (List.mem_append_left _ z)
  obtain ⟨c1, c2⟩ := a3.block hb hb1 hb2 hD hB2 ho b1 b2 (fun z => b3 f (Nat.le_refl _) z) b4 b5
  have k1 := (a3.keep hbn hD).1
  refine ⟨⟨a1.step hF t1 t2 t3 ⟨lf, cn, hPw, h3.trans hc1⟩ hTk hnx (fun k _ => congrFun (hF.rB (by decide) (by decide)) k), a2.fj hF hU hTb, c1, fun q hq => ?_, by rw [c2]; exact a5, a6⟩, hF.rI (by decide) (by decide), hF.rI (by decide) (by decide)⟩
  rw [e28]
  rw [flatten_snoc] at hq
  rcases List.mem_append.mp hq with hq | hq
  · rw [eky_of (k1 q (List.mem_append_right _ hq))]; exact b7 q hq
  · obtain ⟨o, ho1, rfl⟩ := List.mem_map.mp hq
    have he : ent (zA M2 (ad 2)) (b * 512 + o) = ent (zA M1 (ad 27)) o := (Ecp (D := zA M1 (ad 27)) (D' := zA M2 (ad 2)) (x := o) (y := b * 512 + o) (fun k hk => by rw [Nat.add_assoc]; exact hB2 _ (by have := (b1.le.2 o ho1).2; omega))).2.2
    rw [eky_of he]
    exact b6 o ho1
theorem take_rows {D : Nat → Int32} (hR : WR D0 tk R) (h : (lvE done ++ css.flatten).map (ent D) = (R.take m).map (ent D0)) : (∀ q ∈ lvE done ++ css.flatten, ecm D q < 2 ^ 31 ∧ Ewf D q) ∧ (lvE done ++ css.flatten).Pairwise (pre D) := by
  refine ⟨fun q hq => ?_, map_pw h (hR.2.1.sublist (List.take_sublist _ _))⟩
  obtain ⟨y, hy, e⟩ := map_mem h hq
  have hy := List.mem_of_mem_take hy
  refine ⟨?_, ent_wf e (hR.2.2.1 y hy)⟩
  rw [show ecm D q = ecm D0 y from congrArg (·.2.1) e]
  exact (hR.1 y hy).2
theorem flat_last : ∀ {css : List (List Nat)} {c : List Nat}, css[css.length - 1]? = some c → c ≠ [] → css.flatten.getLast? = c.getLast?
  | [], c, h, _ => by simp at h
  | [x], c, h, hc => by cases h; simp
  | x :: y :: css, c, h, hc => by
    have h2 : (y :: css)[(y :: css).length - 1]? = some c := by
      rw [List.length_cons, Nat.add_sub_cancel, List.length_cons] at h
      exact h
    have := flat_last h2 hc
    rw [List.flatten_cons, List.getLast?_append, this]
    cases hl : c.getLast? with
    | none => exact absurd (List.getLast?_eq_none_iff.mp hl) hc
    | some z => rfl
/-- the filter's block; then the file is whole but for its last entry's place -/
theorem WQ.filt {b lf cn lf0 cn1 : Nat} (hL : Lay ad M1) (hR : WR D0 tk R) (h : WQ ad M0 us tk on wh ct du cn0 D0 R m M1 done jd nbs j bl css) (hc1 : 1 ≤ css.length) (hc8 : css.length ≤ 8) (hb : b ∉ nbs ++ tk) (hb1 : 80 ≤ b) (hb2 : b < 592) (hP : Pw ad M1 on wh lf0 ct du cn1) (hcn : cn1 = 1 ↔ cn0 = 1) (h1 : lf ≤ lf0) (h2 : cn ≤ 1) (h3 : cn = 1 ↔ cn1 = 1) (hM : M2 = wOk ad (woM ad M1 j bl b (512 - (nbs ++ tk).length - 1)) (ad 28) 0 (b * 512) 512 lf cn) :
    WS ad M0 M2 us tk on wh ct du cn0 done jd (b :: nbs) ∧ WT ad M2 us done jd j (bl ++ [b]) ∧ WX D0 tk (zA M2 (ad 2)) (done ++ [(j, bl ++ [b], css)]) [] [] (b :: nbs) ∧ (lvE (done ++ [(j, bl ++ [b], css)])).map (ent (zA M2 (ad 2))) = (R.take m).map (ent D0) ∧ zI M2 326 (ad 26) = zI M1 326 (ad 26) ∧ zI M2 327 (ad 26) = zI M1 327 (ad 26) := by
  obtain ⟨a1, a2, a3, a4, a5, a6⟩ := h
  obtain ⟨t1, t2, t3, t4, t5, t6, t7⟩ := id a2
  have h5 := a3.2.2.2.2.1
  obtain ⟨hF, hTk, hTb, hU, hPw, hnx, hD, hB⟩ := wo_post hL t1 t7 (by omega) a1.2.2.2.1 t4 hb hb1 hb2 hP h1 h2 hM
  obtain ⟨r1, r2⟩ := take_rows hR a5
  have r3 := (List.pairwise_append.mp r2).2.1
  obtain ⟨c1, c2⟩ := a3.close hb hb1 hb2 t1 hD (hB (by decide) (by decide)) hc1 hc8 (fun q hq => (r1 q (List.mem_append_right _ hq)).1) (fun q hq => (r1 q (List.mem_append_right _ hq)).2) r3 a4
  refine ⟨a1.step hF t1 t2 t3 ⟨lf, cn, hPw, h3.trans hcn⟩ hTk hnx (fun k _ => congrFun (hF.rB (by decide) (by decide)) k), a2.fj hF hU hTb, c1, ?_, hF.rI (by decide) (by decide), hF.rI (by decide) (by decide)⟩
  rw [← a5, ← c2]
  congr 1
  exact (List.append_nil _).symm
/-- the file is closed -/
theorem WQ.shut {la : Nat} {bl' : List Nat} (hL : Lay ad M1) (h1 : WS ad M0 M1 us tk on wh ct du cn0 done jd nbs) (h2 : WT ad M1 us done jd j bl') (h3 : WX D0 tk (zA M1 (ad 2)) (done ++ [(j, bl', css)]) [] [] nbs) (h4 : (lvE (done ++ [(j, bl', css)])).map (ent (zA M1 (ad 2))) = (R.take m).map (ent D0)) (h5 : jd = (done.map (·.1)).reverse) (hla : css.flatten.getLast? = some la) (hM : M2 = zput M1 259 (ad (tA j)) (nI la)) :
    WZ ad M0 us tk on wh ct du cn0 D0 R m M2 (done ++ [(j, bl', css)]) (j :: jd) nbs ∧ zI M2 326 (ad 26) = zI M1 326 (ad 26) ∧ zI M2 327 (ad 26) = zI M1 327 (ad 26) := by
  obtain ⟨t1, t2, t3, t4, t5, t6, t7⟩ := id h2
  have hF : Fj ad 0 j [] [] [] M1 M2 := by rw [hM]; exact (Fj.refl ad j _ _ _ M1).putT hL (by omega)
  have hFl : Fl ad 0 [259] [] [] M1 M2 := by rw [hM]; exact (Fl.refl ad _ _ _ M1).put hL (i := tA j) (by decide) (by unfold tA; omega)
  have e2 : zA M2 (ad 2) = zA M1 (ad 2) := hFl.rA (by decide) (by decide)
  have hs := h1.same hF t1 t2 t3
  refine ⟨⟨⟨hs.1, hs.2.1, hs.2.2.1, hs.2.2.2.1, hs.2.2.2.2.1, fun k f hk => ?_⟩, t4.fl hFl, ?_, by rw [e2]; exact h3, by rw [e2]; exact h4, by rw [h5, List.map_append, List.reverse_append]; rfl⟩, hFl.rI (by decide) (by decide), hFl.rI (by decide) (by decide)⟩
  · rcases Nat.lt_or_ge k done.length with e | e
    · rw [List.getElem?_append_left e] at hk
      obtain ⟨b1, b2, b3, b4⟩ := hs.2.2.2.2.2 k f hk
      exact ⟨b1, List.mem_cons_of_mem _ b2, b3, b4⟩
    · rw [List.getElem?_append_right e] at hk
      have h0 : k - done.length = 0 := by
        have := (List.getElem?_eq_some_iff.mp hk).1
        simp at this
        omega
      rw [h0] at hk
      cases hk
      refine ⟨?_, List.mem_cons_self, t1, ?_⟩
      · rw [show k = done.length by omega]
        exact (congrFun (hFl.rB (by decide) (by decide)) _).trans t5
      · refine ⟨(by rw [hM]; exact zput_ms (by decide) t7.1), t7.2.1, (by rw [hM]; exact t7.2.2.1), ?_⟩
        rw [hM]
        exact (zput_hit _ _ _ _).trans (congrArg zvi hla).symm
  · rw [List.length_append]
    exact (hFl.rI (by decide) (by decide)).trans t6
/-- a new table -/
theorem WZ.begin (h : WZ ad M0 us tk on wh ct du cn0 D0 R m M1 done jd nbs) (hj : j ∉ jd ++ us) (hj2 : j < 256) (hF : Fj ad 0 j [70, 325] [27, 28] [29] M1 M2) (hU : Us ad M2 (j :: (jd ++ us))) (hT : Tb ad M2 j [] none) (h325 : zI M2 325 (ad 26) = nI (done.length + 1)) (hB : zB M2 (ad 29) done.length = some (ad (tA j))) (hB2 : ∀ k, k ≠ done.length → zB M2 (ad 29) k = zB M1 (ad 29) k) (h27 : ∀ k, k < 512 → zA M2 (ad 27) k = 0) :
    WP ad M0 us tk on wh ct du cn0 D0 R m 0 M2 done jd nbs j [] [] [] := by
  obtain ⟨a1, a2, a3, a4, a5, a6⟩ := h
  have hju : j ∉ us := fun z => hj (List.mem_append_right _ z)
  have hjd : j ∉ jd := fun z => hj (List.mem_append_left _ z)
  have e2 : zA M2 (ad 2) = zA M1 (ad 2) := hF.rA (by decide) (by decide)
  obtain ⟨lf, cn, hP, hc⟩ := a1.2.2.1
  obtain ⟨nx, hx1, hx2⟩ := a1.2.2.2.2.1
  refine ⟨a1.step hF hj2 hju hjd ⟨lf, cn, hP.fj hF, hc⟩ (a1.2.2.2.1.fj hF) ⟨nx, hx1, (hF.rI (by decide) (by decide)).trans hx2⟩ (fun k hk => hB2 k (by omega)), ⟨hj2, hju, hjd, hU, hB, h325, hT⟩, by rw [e2]; exact a4, ⟨rfl, by decide, fun k _ hk => h27 k hk, fun o ho => (by cases ho), fun p _ o ho => (by cases ho), fun o ho => (by cases ho), fun q hq => (by cases hq)⟩, ?_, a6⟩
  unfold WE
  rw [e2, show ([] : List (List Nat)).flatten = [] from rfl, List.append_nil, show ([] : List Nat).map (ent (zA M2 (ad 27))) = [] from rfl, List.append_nil]
  exact a5
/-- a new block -/
theorem WQ.next (hL : Lay ad M1) (h : WQ ad M0 us tk on wh ct du cn0 D0 R m M1 done jd nbs j bl css) (hM : M2 = zsetA M1 (ad 27) (zfil (zA M1 (ad 27)) 512)) :
    WP ad M0 us tk on wh ct du cn0 D0 R m 0 M2 done jd nbs j bl css [] ∧ zI M2 326 (ad 26) = zI M1 326 (ad 26) ∧ zI M2 327 (ad 26) = zI M1 327 (ad 26) := by
  obtain ⟨a1, a2, a3, a4, a5, a6⟩ := h
  obtain ⟨t1, t2, t3, t4, t5, t6, t7⟩ := id a2
  have hF : Fj ad 0 j [] [27] [] M1 M2 := by rw [hM]; exact setA_fj hL j 27 _ (by decide)
  have hFl : Fl ad 0 [] [27] [] M1 M2 := by rw [hM]; exact (Fl.refl ad _ _ _ M1).setA hL (i := 27)
  have e2 : zA M2 (ad 2) = zA M1 (ad 2) := hF.rA (by decide) (by decide)
  have e28 : zA M2 (ad 28) = zA M1 (ad 28) := hF.rA (by decide) (by decide)
  refine ⟨⟨a1.same hF t1 t2 t3, a2.fj hF (t4.fl hFl) (t7.fl hFl (by omega)), by rw [e2]; exact a3, ⟨rfl, by decide, fun k _ hk => (by rw [hM, zsetA_hit]; exact zfil_in hk), fun o ho => (by cases ho), fun p _ o ho => (by cases ho), fun o ho => (by cases ho), fun q hq => (by rw [e28, e2]; exact a4 q hq)⟩, ?_, a6⟩, hFl.rI (by decide) (by decide), hFl.rI (by decide) (by decide)⟩
  unfold WE
  rw [e2, show ([] : List Nat).map (ent (zA M2 (ad 27))) = [] from rfl, List.append_nil]
  exact a5
/-- a row is copied -/
theorem WP.copy {x s f1 : Nat} {g : Nat → Int32} {M3 : zM} (hL : Lay ad M1) (hR : WR D0 tk R) (h : WP ad M0 us tk on wh ct du cn0 D0 R m f M1 done jd nbs j bl css offs) (hx : R[m]? = some x) (hf : f + eln D0 x ≤ 512) (hk : ∀ p ∈ lvE done, klt (eky (zA M1 (ad 2)) p) (eky D0 x)) (hM2 : M2 = wrM ad M1 s f1) (hM : M3 = zsetA (zsetA M2 (ad 27) (va_cpy (zA M2 (ad 2)) (zA M2 (ad 27)) x f (eln (zA M2 (ad 2)) x))) (ad 28) g) (hg : ∀ y, fbit (zA M2 (ad 28)) 0 y → fbit g 0 y) (hFl : Fil g 0 (eky (zA M2 (ad 2)) x)) :
    WP ad M0 us tk on wh ct du cn0 D0 R (m + 1) (f + eln D0 x) M3 done jd nbs j bl css (offs ++ [f]) ∧ zI M3 326 (ad 26) = nI s ∧ zI M3 327 (ad 26) = nI f1 := by
  obtain ⟨a1, a2, a3, a4, a5, a6⟩ := h
  obtain ⟨t1, t2, t3, t4, t5, t6, t7⟩ := id a2
  have hA : ∀ i, zA M2 (ad i) = zA M1 (ad i) := fun i => by rw [hM2]; rfl
  have hF2 : Fl ad 0 [326, 327] [] [] M1 M2 := by rw [hM2]; exact ((Fl.refl ad _ _ _ M1).put hL (f := 326) (i := 26)).put hL (f := 327) (i := 26)
  have hL2 := hF2.lay hL
  have hF3 : Fl ad 0 [] [27, 28] [] M2 M3 := by rw [hM]; exact ((Fl.refl ad _ _ _ M2).setA hL2 (i := 27)).setA hL2 (i := 28)
  have hJ2 : Fj ad 0 j [326, 327] [27, 28] [] M1 M2 := by rw [hM2]; exact ((Fj.refl ad j _ _ _ M1).put hL (f := 326) (i := 26)).put hL (f := 327) (i := 26)
  have hJ3 : Fj ad 0 j [326, 327] [27, 28] [] M2 M3 := by rw [hM]; exact ((Fj.refl ad j _ _ _ M2).setA hL2 (i := 27)).setA hL2 (i := 28)
  have hJ := hJ2.trans hJ3
  have hF : Fl ad 0 [326, 327] [27, 28] [] M1 M3 := (hF2.mono).trans0 hF3.mono
  have e2 : zA M3 (ad 2) = zA M1 (ad 2) := hF.rA (by decide) (by decide)
  have e28 : zA M3 (ad 28) = g := by rw [hM, zsetA_hit]
  have hxl : eln (zA M1 (ad 2)) x = eln D0 x := (a3.eal hR (List.mem_of_getElem? hx)).1.eL
  have e27 : zA M3 (ad 27) = va_cpy (zA M1 (ad 2)) (zA M1 (ad 27)) x f (eln D0 x) := by
    rw [hM]
    refine (zsetA_ms (M := zsetA M2 (ad 27) _) (hL.ne (by decide)) (zsetA_hit _ _ _)).trans ?_
    rw [hA 2, hA 27, hxl]
  rw [hA 28] at hg
  rw [hA 2] at hFl
  obtain ⟨q1, q2⟩ := a4.add (buf' := zA M3 (ad 27)) (flt' := g) a3 hR a5 hx hf (fun k hk => by
    rw [e27]
    by_cases e : f ≤ k ∧ k < f + eln D0 x
    · rw [if_pos e, pk_cpy_in e.1 e.2]
    · rw [if_neg e, pk_cpy_out (by omega)]) hg hFl hk
  exact ⟨⟨a1.same hJ t1 t2 t3, a2.fj hJ (t4.fl hF) (t7.fl hF (by omega)), by rw [e2]; exact a3, by rw [e2, e28]; exact q1, by rw [e2]; exact q2, a6⟩, (hF3.rI (by decide) (by decide)).trans (by rw [hM2]; exact wrM_s _ _ _ _), (hF3.rI (by decide) (by decide)).trans (by rw [hM2]; exact wrM_f _ _ _ _)⟩
end steps
