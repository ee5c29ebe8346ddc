/-! ===== new files under way: memory and disk together ===== -/
/-- while files are written: the tables that are whole, the blocks taken -/
def WS (ad : Nat → Nat) (M0 M1 : zM) (us tk : List Nat) (on wh ct du cn0 : Nat) (done : List zF) (jd nbs : List Nat) : Prop :=
  Fl ad 0 [34, 35, 36, 39, 69, 70, 71, 258, 259, 260, 325, 326, 327] [2, 18, 27, 28, 64] [29] M0 M1 ∧ Ot ad us M0 M1 ∧ (∃ lf cn, Pw ad M1 on wh lf ct du cn ∧ (cn = 1 ↔ cn0 = 1)) ∧ Tk ad M1 (nbs ++ tk) ∧ (∃ nx, nx ≤ 512 ∧ zI M1 71 (ad 17) = nI nx) ∧ ∀ (k : Nat) (f : zF), done[k]? = some f → zB M1 (ad 29) k = some (ad (tA f.1)) ∧ f.1 ∈ jd ∧ f.1 < 256 ∧ Tb ad M1 f.1 f.2.1 (fE f).getLast?
theorem WS.step {ad : Nat → Nat} {M0 M1 M2 : zM} {us tk : List Nat} {on wh ct du cn0 j : Nat} {done : List zF} {jd nbs nbs' : List Nat} {LF LA LB : List Nat} (h : WS ad M0 M1 us tk on wh ct du cn0 done jd nbs) (hF : Fj ad 0 j LF LA LB M1 M2) (hj : j < 256) (hju : j ∉ us) (hjd : j ∉ jd) (hP : ∃ lf cn, Pw ad M2 on wh lf ct du cn ∧ (cn = 1 ↔ cn0 = 1)) (hT : Tk ad M2 (nbs' ++ tk)) (hx : ∃ nx, nx ≤ 512 ∧ zI M2 71 (ad 17) = nI nx) (hB : ∀ k, k < done.length → zB M2 (ad 29) k = zB M1 (ad 29) k) (h1 : LF ⊆ [34, 35, 36, 39, 69, 70, 71, 258, 259, 260, 325, 326, 327] := by decide) (h2 : LA ⊆ [2, 18, 27, 28, 64] := by decide) (h3 : LB ⊆ [29] := by decide) (h4 : 258 ∉ LF ∧ 259 ∉ LF := by decide) : WS ad M0 M2 us tk on wh ct du cn0 done jd nbs' := by
  obtain ⟨a1, a2, a3, a4, a5, a6⟩ := h
  refine ⟨a1.trans0 (hF.fl h1 (by decide) h2 (by decide) h3), a2.step hF hj hju h4, hP, hT, hx, fun k f hk => ?_⟩
  obtain ⟨b1, b2, b3, b4⟩ := a6 k f hk
  exact ⟨(hB k (List.getElem?_eq_some_iff.mp hk).1).trans b1, b2, b3, hF.tb b4 (by omega) (fun e => hjd (e ▸ b2)) h4⟩
/-- the same where power, blocks and the rows of references stay -/
theorem WS.same {ad : Nat → Nat} {M0 M1 M2 : zM} {us tk : List Nat} {on wh ct du cn0 j : Nat} {done : List zF} {jd nbs : List Nat} {LF LA : List Nat} (h : WS ad M0 M1 us tk on wh ct du cn0 done jd nbs) (hF : Fj ad 0 j LF LA [] M1 M2) (hj : j < 256) (hju : j ∉ us) (hjd : j ∉ jd) (h1 : LF ⊆ [34, 35, 36, 39, 69, 70, 71, 258, 259, 260, 325, 326, 327] := by decide) (h2 : LA ⊆ [2, 18, 27, 28, 64] := by decide) (h4 : 258 ∉ LF ∧ 259 ∉ LF := by decide) (h5 : 34 ∉ LF ∧ 35 ∉ LF ∧ 36 ∉ LF ∧ 37 ∉ LF ∧ 38 ∉ LF ∧ 39 ∉ LF ∧ 69 ∉ LF ∧ 71 ∉ LF ∧ 18 ∉ LA := by decide) : WS ad M0 M2 us tk on wh ct du cn0 done jd nbs := by
  obtain ⟨q1, q2, q3, q4, q5, q6, q7, q8, q9⟩ := h5
  obtain ⟨lf, cn, hP, hc⟩ := h.2.2.1
  obtain ⟨nx, hx1, hx2⟩ := h.2.2.2.2.1
  exact h.step hF hj hju hjd ⟨lf, cn, hP.fj hF q1 q2 q3 q4 q5 q6, hc⟩ (h.2.2.2.1.fj hF q7 q9) ⟨nx, hx1, (hF.rI q8 (by decide)).trans hx2⟩ (fun k _ => congrFun (hF.rB (by decide) (by decide)) k) h1 h2 (by decide) h4
/-- a table under way: j; bl its blocks -/
def WT (ad : Nat → Nat) (M1 : zM) (us : List Nat) (done : List zF) (jd : List Nat) (j : Nat) (bl : List Nat) : Prop :=
  j < 256 ∧ j ∉ us ∧ j ∉ jd ∧ Us ad M1 (j :: (jd ++ us)) ∧ zB M1 (ad 29) done.length = some (ad (tA j)) ∧ zI M1 325 (ad 26) = nI (done.length + 1) ∧ Tb ad M1 j bl none
/-- the block under way: its entries offs, their end f; the filter -/
def WBf (D buf flt : Nat → Int32) (done : List zF) (css : List (List Nat)) (offs : List Nat) (f : Nat) : Prop :=
  Chn buf 0 offs f ∧ f ≤ 512 ∧ (∀ k, f ≤ k → k < 512 → buf k = 0) ∧ (∀ o ∈ offs, Ewf buf o) ∧ (∀ p ∈ lvE done, ∀ o ∈ offs, klt (eky D p) (eky buf o)) ∧ (∀ o ∈ offs, Fil flt 0 (eky buf o)) ∧ ∀ q ∈ css.flatten, Fil flt 0 (eky D q)
/-- the entries of the first m rows are there -/
def WE (D0 D buf : Nat → Int32) (R : List Nat) (done : List zF) (css : List (List Nat)) (offs : List Nat) (m : Nat) : Prop := (lvE done ++ css.flatten).map (ent D) ++ offs.map (ent buf) = (R.take m).map (ent D0)
/-- what the rows must be -/
def WR (D0 : Nat → Int32) (tk R : List Nat) : Prop := Eb D0 R ∧ R.Pairwise (pre D0) ∧ (∀ p ∈ R, Ewf D0 p) ∧ ∀ p ∈ R, ∀ j, p ≤ j → j < p + eln D0 p → j < 40960 ∨ j / 512 ∈ tk
theorem WX.src {D0 D : Nat → Int32} {tk R : List Nat} {done : List zF} {bl : List Nat} {css : List (List Nat)} {nbs : List Nat} (h : WX D0 tk D done bl css nbs) (hR : WR D0 tk R) {p : Nat} (hp : p ∈ R) : ∀ j, p ≤ j → j < p + eln D0 p → D j = D0 j := fun j h1 h2 => by
  refine h.1 j (fun z => ?_)
  have hbr := h.2.2.2.2.2.2.2.2
  rcases hR.2.2.2 p hp j h1 h2 with y | y
  · have := (hbr.1 _ (List.mem_append_left _ z)).1
    omega
  · exact (List.nodup_append.mp hbr.2).2.2 _ z _ y rfl
theorem WX.eal {D0 D : Nat → Int32} {tk R : List Nat} {done : List zF} {bl : List Nat} {css : List (List Nat)} {nbs : List Nat} (h : WX D0 tk D done bl css nbs) (hR : WR D0 tk R) {p : Nat} (hp : p ∈ R) : Eall D0 D p := Eall.of (h.src hR hp)
theorem stp_same {D D' : Nat → Int32} {R : List Nat} (h : ∀ p ∈ R, Eall D D' p) {i s f : Nat} (hi : i < R.length) : stp D' R i s f = stp D R i s f := by
  have h0 : ∀ k, k < R.length → Eall D D' (rg R k) := fun k hk => h _ (by rw [rg_some (List.getElem?_eq_getElem hk)]; exact List.getElem_mem hk)
  have e1 : eky D' (rg R i) = eky D (rg R i) := (h0 i hi).1.2.2.2.1
  have e2 : eln D' (rg R i) = eln D (rg R i) := (h0 i hi).1.eL
  have e3 : eky D' (rg R (i - 1)) = eky D (rg R (i - 1)) := (h0 (i - 1) (by omega)).1.2.2.2.1
  unfold stp
  rw [e1, e2, e3]
theorem sim_mono {D : Nat → Int32} {R : List Nat} {i k : Nat} (h : i ≤ k) : (sim D R i).2.2.1 ≤ (sim D R k).2.2.1 ∧ (sim D R i).2.2.2 ≤ (sim D R k).2.2.2 := by
  induction k with
  | zero => rw [show i = 0 by omega]; exact ⟨Nat.le_refl _, Nat.le_refl _⟩
  | succ k ih =>
    rcases Nat.lt_or_ge i (k + 1) with e | e
    · have := ih (by omega)
      exact ⟨Nat.le_trans this.1 (Nat.le_add_right _ _), Nat.le_trans this.2 (Nat.le_add_right _ _)⟩
    · rw [show i = k + 1 by omega]; exact ⟨Nat.le_refl _, Nat.le_refl _⟩
/-- a row more in the block -/
theorem WBf.add {D0 D buf flt buf' flt' : Nat → Int32} {tk R : List Nat} {done : List zF} {bl : List Nat} {css : List (List Nat)} {nbs offs : List Nat} {f m x : Nat} (hX : WX D0 tk D done bl css nbs) (hR : WR D0 tk R) (h : WBf D buf flt done css offs f) (hE : WE D0 D buf R done css offs m) (hx : R[m]? = some x) (hf : f + eln D0 x ≤ 512) (hb : ∀ k, k < 512 → buf' k = if f ≤ k ∧ k < f + eln D0 x then D (x + (k - f)) else buf k) (hm : ∀ y, fbit flt 0 y → fbit flt' 0 y) (hF : Fil flt' 0 (eky D x)) (hk : ∀ p ∈ lvE done, klt (eky D p) (eky D0 x)) :
    WBf D buf' flt' done css (offs ++ [f]) (f + eln D0 x) ∧ WE D0 D buf' R done css (offs ++ [f]) (m + 1) := by
  obtain ⟨h1, h2, h3, h4, h5, h6, h7⟩ := h
  have hxm := List.mem_of_getElem? hx
  have hall := hX.eal hR hxm
  have hxe : eky D x = eky D0 x := hall.1.2.2.2.1
  have hxl : eln D x = eln D0 x := hall.1.eL
  have hle := h1.le
  have hold : ∀ o ∈ offs, ent buf' o = ent buf o := fun o ho => (Ecp (D := buf) (D' := buf') (x := o) (y := o) (fun k hk => by rw [hb _ (by have := (hle.2 o ho).2; omega), if_neg (by have := (hle.2 o ho).2; omega)])).2.2
  have hnew : ent buf' f = ent D x := (Ecp (D := D) (D' := buf') (x := x) (y := f) (fun k hk => by rw [hxl] at hk; rw [hb _ (by omega), if_pos (by omega), Nat.add_sub_cancel_left])).2.2
  have hnew0 : ent buf' f = ent D0 x := hnew.trans hall.en
  have hln : eln buf' f = eln D0 x := (ent_len hnew0).2.2
  refine ⟨⟨?_, hf, fun k a b => ?_, fun o ho => ?_, fun p hp o ho => ?_, fun o ho => ?_, fun q hq i hi => hm _ (h7 q hq i hi)⟩, ?_⟩
  · rw [← hln]
    exact (h1.same (fun o ho => by
      have e := hold o ho
      have e2 := ent_len e
      exact ⟨congrArg (·.2.2.1) e, e2.1, e2.2.1, eky_of e, congrArg (·.2.2.2) e⟩)).snoc
  · rw [hb k b, if_neg (by omega)]; exact h3 k (by omega) b
  · rcases List.mem_append.mp ho with ho | ho
    · exact ent_wf (hold o ho) (h4 o ho)
    · cases List.mem_singleton.mp ho; exact ent_wf hnew0 (hR.2.2.1 x hxm)
  · rcases List.mem_append.mp ho with ho | ho
    · rw [eky_of (hold o ho)]; exact h5 p hp o ho
    · cases List.mem_singleton.mp ho; rw [eky_of hnew0]; exact hk p hp
  · rcases List.mem_append.mp ho with ho | ho
    · rw [eky_of (hold o ho)]; exact fun i hi => hm _ (h6 o ho i hi)
    · cases List.mem_singleton.mp ho; rw [eky_of hnew]; exact hF
  · unfold WE at *
    rw [show (offs ++ [f]).map (ent buf') = offs.map (ent buf') ++ [ent buf' f] from List.map_append, List.map_congr_left hold, ← List.append_assoc, hE, List.take_succ, hx, List.map_append]
    show _ ++ [ent buf' f] = _ ++ [ent D0 x]
    rw [hnew0]
