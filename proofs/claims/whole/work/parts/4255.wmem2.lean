/-! ===== frames of one table; a written block ===== -/
/-- all tables but j stay; of the rest what the lists name may change -/
def Fj (ad : Nat → Nat) (c j : Nat) (LF LA LB : List Nat) (M M' : zM) : Prop := Fr ad c (fun f i => f ∈ LF ∨ (i = tA j ∧ f ∈ [258, 259, 260])) (fun i => (i < 64 ∧ i ∈ LA) ∨ i = tB j) (fun i => i ∈ LB) M M'
section fj
variable {ad : Nat → Nat} {c c1 c2 j : Nat} {LF LA LB LF1 LA1 LB1 : List Nat} {M M1 M2 : zM}
theorem Fj.refl (ad : Nat → Nat) (j : Nat) (LF LA LB : List Nat) (M : zM) : Fj ad 0 j LF LA LB M M := Fr.refl ad M _ _ _
theorem Fj.put (h : Fj ad c j LF LA LB M M1) (hL : Lay ad M) {f i : Nat} {v : Int32} (hF : f ∈ LF := by decide) (hi : i < 582 := by decide) : Fj ad c j LF LA LB M (zput M1 f (ad i) v) := Fr.put h hL v (Or.inl hF) hi
theorem Fj.putT (h : Fj ad c j LF LA LB M M1) (hL : Lay ad M) {f : Nat} {v : Int32} (hj : j < 259) (hF : f ∈ [258, 259, 260] := by decide) : Fj ad c j LF LA LB M (zput M1 f (ad (tA j)) v) := Fr.put h hL v (Or.inr ⟨rfl, hF⟩) (by unfold tA; omega)
theorem Fj.setA (h : Fj ad c j LF LA LB M M1) (hL : Lay ad M) {i : Nat} {g : Nat → Int32} (hA : i < 64 ∧ i ∈ LA := by decide) (hi : i < 582 := by decide) : Fj ad c j LF LA LB M (zsetA M1 (ad i) g) := Fr.setA h hL g (Or.inl hA) hi
theorem Fj.setT (h : Fj ad c j LF LA LB M M1) (hL : Lay ad M) {g : Nat → Int32} (hj : j < 259) : Fj ad c j LF LA LB M (zsetA M1 (ad (tB j)) g) := Fr.setA h hL g (Or.inr rfl) (by unfold tB; omega)
theorem Fj.setB (h : Fj ad c j LF LA LB M M1) (hL : Lay ad M) {i : Nat} {g : Nat → Option Nat} (hB : i ∈ LB := by decide) (hi : i < 582 := by decide) : Fj ad c j LF LA LB M (zsetB M1 (ad i) g) := Fr.setB h hL g hB hi
theorem Fj.thr (h : Fj ad 0 j LF LA LB M M1) : Fj ad 1 j LF LA LB M (zthr M1) := Fr.thr h
theorem Fj.tb (h : Fj ad c j LF LA LB M M1) {j' : Nat} {bl : List Nat} {la : Option Nat} (hT : Tb ad M j' bl la) (hj : j' < 259) (hn : j' ≠ j) (h1 : 258 ∉ LF ∧ 259 ∉ LF := by decide) : Tb ad M1 j' bl la :=
  ⟨(Fr.rI h 258 (tA j') (fun z => z.elim h1.1 (fun y => hn (by have := y.1; unfold tA at this; omega))) (by unfold tA; omega)).trans hT.1, hT.2.1, fun i q hi => (congrFun (Fr.rA h (tB j') (fun z => z.elim (fun y => by have := y.1; unfold tB at this; omega) (fun y => hn (by unfold tB at y; omega))) (by unfold tB; omega)) i).trans (hT.2.2.1 i q hi), (Fr.rI h 259 (tA j') (fun z => z.elim h1.2 (fun y => hn (by have := y.1; unfold tA at this; omega))) (by unfold tA; omega)).trans hT.2.2.2⟩
theorem Fj.rI (h : Fj ad c j LF LA LB M M1) {f i : Nat} (h1 : f ∉ LF) (h2 : i < 64) : zI M1 f (ad i) = zI M f (ad i) := Fr.rI h f i (fun z => z.elim h1 (fun y => by have := y.1; unfold tA at this; omega)) (by omega)
theorem Fj.rA (h : Fj ad c j LF LA LB M M1) {i : Nat} (h1 : i ∉ LA) (h2 : i < 64) : zA M1 (ad i) = zA M (ad i) := Fr.rA h i (fun z => z.elim (fun y => h1 y.2) (fun y => by unfold tB at y; omega)) (by omega)
theorem Fj.rB (h : Fj ad c j LF LA LB M M1) {i : Nat} (h1 : i ∉ LB) (h2 : i < 582) : zB M1 (ad i) = zB M (ad i) := Fr.rB h i h1 h2
theorem Fj.fl (h : Fj ad c j LF LA LB M M1) (hF : LF ⊆ LF1 := by decide) (hT : 258 ∈ LF1 ∧ 259 ∈ LF1 ∧ 260 ∈ LF1 := by decide) (hA : LA ⊆ LA1 := by decide) (hA2 : 64 ∈ LA1 := by decide) (hB : LB ⊆ LB1 := by decide) : Fl ad c LF1 LA1 LB1 M M1 :=
  Fr.mono h (fun f i z => z.elim (fun y => hF y) (fun y => by
    have := y.2
    simp only [List.mem_cons, List.not_mem_nil, or_false] at this
    rcases this with e | e | e <;> rw [e]
    · exact hT.1
    · exact hT.2.1
    · exact hT.2.2)) (fun i z => z.elim (fun y => by rw [Nat.min_eq_left (by omega)]; exact hA y.2) (fun y => by rw [y, Nat.min_eq_right (by unfold tB; omega)]; exact hA2)) (fun i z => hB z)
end fj
theorem Pw.fj {ad : Nat → Nat} {c j : Nat} {LF LA LB : List Nat} {M M1 : zM} {on wh lf ct du cn : Nat} (h : Pw ad M on wh lf ct du cn) (hF : Fj ad c j LF LA LB M M1) (h1 : 34 ∉ LF := by decide) (h2 : 35 ∉ LF := by decide) (h3 : 36 ∉ LF := by decide) (h4 : 37 ∉ LF := by decide) (h5 : 38 ∉ LF := by decide) (h6 : 39 ∉ LF := by decide) : Pw ad M1 on wh lf ct du cn := ⟨(hF.rI h1 (by decide)).trans h.1, (hF.rI h2 (by decide)).trans h.2.1, (hF.rI h3 (by decide)).trans h.2.2.1, (hF.rI h4 (by decide)).trans h.2.2.2.1, (hF.rI h5 (by decide)).trans h.2.2.2.2.1, (hF.rI h6 (by decide)).trans h.2.2.2.2.2.1, h.2.2.2.2.2.2⟩
theorem Tk.fj {ad : Nat → Nat} {c j : Nat} {LF LA LB : List Nat} {M M1 : zM} {tk : List Nat} (h : Tk ad M tk) (hF : Fj ad c j LF LA LB M M1) (h1 : 69 ∉ LF := by decide) (h2 : 18 ∉ LA := by decide) : Tk ad M1 tk := ⟨h.1, fun i hi => (congrFun (hF.rA h2 (by decide)) i).trans (h.2.1 i hi), (hF.rI h1 (by decide)).trans h.2.2⟩
/-- what stays as it is while files are written -/
def Ot (ad : Nat → Nat) (us : List Nat) (M M' : zM) : Prop := ∀ j bl la, j < 259 → (j ∈ us ∨ 256 ≤ j) → Tb ad M j bl la → Tb ad M' j bl la
theorem Ot.step {ad : Nat → Nat} {us : List Nat} {M M1 M2 : zM} {c j : Nat} {LF LA LB : List Nat} (h : Ot ad us M M1) (hF : Fj ad c j LF LA LB M1 M2) (hj : j < 256) (hn : j ∉ us) (h1 : 258 ∉ LF ∧ 259 ∉ LF := by decide) : Ot ad us M M2 := fun i bl la hi hu hT => hF.tb (h i bl la hi hu hT) hi (fun e => hu.elim (fun z => hn (e ▸ z)) (fun z => by omega)) h1
/-- the bytes behind a written block -/
theorem wOk_Pw {ad : Nat → Nat} {M : zM} {fr s p n lf cn on wh lf0 ct du cn0 : Nat} (hP : Pw ad M on wh lf0 ct du cn0) (h1 : lf ≤ lf0) (h2 : cn ≤ 1) : Pw ad (wOk ad M fr s p n lf cn) on wh lf ct du cn := by
  obtain ⟨p1, p2, p3, p4, p5, p6, q1, q2, q3, q4, q5, q6⟩ := hP
  exact ⟨zput_ms (by decide) (zput_ms (by decide) p1), zput_ms (by decide) (zput_ms (by decide) p2), zput_ms (by decide) (zput_hit _ _ _ _), zput_ms (by decide) (zput_ms (by decide) p4), zput_ms (by decide) (zput_ms (by decide) p5), zput_hit _ _ _ _, q1, q2, by omega, q4, q5, h2⟩
/-- a block is taken, named and written -/
theorem zI_setA (M : zM) (a : Nat) (g : Nat → Int32) : zI (zsetA M a g) = zI M := rfl
theorem wo_post {ad : Nat → Nat} {M : zM} (hL : Lay ad M) {j b q lf cn on wh lf0 ct du cn0 : Nat} {bl tk us : List Nat} {la : Option Nat} (hj : j < 256) (hT : Tb ad M j bl la) (hbl : bl.length < 9) (hTk : Tk ad M tk) (hU : Us ad M us) (hb : b ∉ tk) (hb1 : 80 ≤ b) (hb2 : b < 592) (hP : Pw ad M on wh lf0 ct du cn0) (h1 : lf ≤ lf0) (h2 : cn ≤ 1) {M' : zM} (hM : M' = wOk ad (woM ad M j bl b (512 - tk.length - 1)) (ad q) 0 (b * 512) 512 lf cn) :
    Fj ad 0 j [36, 39, 69, 71] [2, 18] [] M M' ∧ Tk ad M' (b :: tk) ∧ Tb ad M' j (bl ++ [b]) la ∧ Us ad M' us ∧ Pw ad M' on wh lf ct du cn ∧ (∃ nx, nx ≤ 512 ∧ zI M' 71 (ad 17) = nI nx) ∧ (∀ p, p / 512 ≠ b → zA M' (ad 2) p = zA M (ad 2) p) ∧ (q ≠ 18 → q < 64 → ∀ k, k < 512 → zA M' (ad 2) (b * 512 + k) = zA M (ad q) k) := by
  subst hM
  have hF : Fj ad 0 j [36, 39, 69, 71] [2, 18] [] M (wOk ad (woM ad M j bl b (512 - tk.length - 1)) (ad q) 0 (b * 512) 512 lf cn) := (((((((((Fj.refl ad j _ _ _ M).put hL (f := 71) (i := 17)).setA hL (i := 18)).put hL (f := 69) (i := 17)).setT hL (by omega)).putT hL (f := 258) (by omega)).setA hL (i := 2)).put hL (f := 36) (i := 1)).put hL (f := 39) (i := 1))
  have hne : ad (tB j) ≠ ad 18 := hL.ne (by unfold tB; omega) (by unfold tB; omega)
  have hne2 : ad (tB j) ≠ ad 2 := hL.ne (by unfold tB; omega) (by unfold tB; omega)
  have hAB : zA (woM ad M j bl b (512 - tk.length - 1)) (ad (tB j)) = upd (zA M (ad (tB j))) bl.length (nI b) := zsetA_hit _ _ _
  have hA2 : zA (wOk ad (woM ad M j bl b (512 - tk.length - 1)) (ad q) 0 (b * 512) 512 lf cn) (ad 2) = va_cpy (zA (woM ad M j bl b (512 - tk.length - 1)) (ad q)) (zA (woM ad M j bl b (512 - tk.length - 1)) (ad 2)) 0 (b * 512) 512 := zsetA_hit _ _ _
  have hW2 : zA (woM ad M j bl b (512 - tk.length - 1)) (ad 2) = zA M (ad 2) := zsetA_ms (M := tbM ad M b (512 - tk.length - 1)) hne2.symm (tbM_A hL _ _ (by decide) (by decide))
  refine ⟨hF, ?_, ?_, ?_, ?_, ⟨b - 80 + 1, by omega, by simp [wOk, woM, tbM, mkM, zput_I, zI_setA]⟩, fun p hp => ?_, fun h18 h64 k hk => ?_⟩
  · have h0 := Tk.add (M := zput M 71 (ad 17) (nI (b - 80 + 1))) (n := 512 - tk.length - 1) (hTk.put (by decide)) hb hb1 hb2 rfl
    refine ⟨h0.1, fun i hi => ?_, ?_⟩
    · refine (congrFun (zsetA_ms (M := woM ad M j bl b (512 - tk.length - 1)) (hL.ne (by decide)) ?_) i).trans (h0.2.1 i hi)
      exact zsetA_ms (M := tbM ad M b (512 - tk.length - 1)) hne.symm rfl
    · rw [List.length_cons, ← Nat.sub_sub]; simp [wOk, woM, tbM, mkM, zput_I, zI_setA]
  · refine ⟨?_, by rw [List.length_append]; exact hbl, ?_, ?_⟩
    · rw [List.length_append]
      simp [wOk, woM, zput_I, zI_setA]
    · intro i x hx
      refine (congrFun (zsetA_ms (M := woM ad M j bl b (512 - tk.length - 1)) hne2 hAB) i).trans ?_
      exact Ld.snoc hT.2.2.1 i x hx
    · rw [← hT.2.2.2]; simp [wOk, woM, tbM, mkM, zput_I, zI_setA]
  · refine ⟨hU.1, hU.2.1, fun i hi => ?_, ?_⟩
    · rw [← hU.2.2.1 i hi]; simp [wOk, woM, tbM, mkM, zput_I, zI_setA]
    · rw [← hU.2.2.2]; simp [wOk, woM, tbM, mkM, zput_I, zI_setA]
  · exact wOk_Pw (hP.fl (woM_fl hL hj _ _ _)) h1 h2
  · rw [hA2, pk_cpy_out (by omega), hW2]
  · rw [hA2, pk_cpy_in (by omega) (by omega), Nat.zero_add, Nat.add_sub_cancel_left]
    refine congrFun ?_ k
    exact zsetA_ms (M := tbM ad M b (512 - tk.length - 1)) (hL.ne (by unfold tB; omega) (by omega) (by unfold tB; omega)) (tbM_A hL _ _ h18 (by omega))
theorem wo_cut {ad : Nat → Nat} {M : zM} (hL : Lay ad M) {j b q r tn : Nat} {bl : List Nat} (hj : j < 256) (hb1 : 80 ≤ b) (hb2 : b < 592) (hr : r ≤ 512) {M' : zM} (hM : M' = wCut ad (woM ad M j bl b tn) (ad q) 0 (b * 512) r) :
    Fj ad 1 j [34, 35, 69, 71] [2, 18] [] M M' ∧ zI M' 34 (ad 1) = nI 0 ∧ zI M' 35 (ad 1) = nI 3 ∧ ∀ p, p / 512 ≠ b → zA M' (ad 2) p = zA M (ad 2) p := by
  subst hM
  have hne2 : ad (tB j) ≠ ad 2 := hL.ne (by unfold tB; omega) (by unfold tB; omega)
  refine ⟨((((((((((Fj.refl ad j _ _ _ M).put hL (f := 71) (i := 17)).setA hL (i := 18)).put hL (f := 69) (i := 17)).setT hL (by omega)).putT hL (f := 258) (by omega)).setA hL (i := 2)).put hL (f := 34) (i := 1)).put hL (f := 35) (i := 1)).thr), (show zI (zput (zput (zsetA (woM ad M j bl b tn) (ad 2) (va_cpy (zA (woM ad M j bl b tn) (ad q)) (zA (woM ad M j bl b tn) (ad 2)) 0 (b * 512) r)) 34 (ad 1) (nI 0)) 35 (ad 1) (nI 3)) 34 (ad 1) = nI 0 from zput_ms (f := 35) (by decide) (zput_hit _ _ _ _)), (show zI (zput (zput (zsetA (woM ad M j bl b tn) (ad 2) (va_cpy (zA (woM ad M j bl b tn) (ad q)) (zA (woM ad M j bl b tn) (ad 2)) 0 (b * 512) r)) 34 (ad 1) (nI 0)) 35 (ad 1) (nI 3)) 35 (ad 1) = nI 3 from zput_hit _ _ _ _), fun p hp => ?_⟩
  have hA2 : zA (wCut ad (woM ad M j bl b tn) (ad q) 0 (b * 512) r) (ad 2) = va_cpy (zA (woM ad M j bl b tn) (ad q)) (zA (woM ad M j bl b tn) (ad 2)) 0 (b * 512) r := zsetA_hit _ _ _
  have hW2 : zA (woM ad M j bl b tn) (ad 2) = zA M (ad 2) := zsetA_ms (M := tbM ad M b tn) hne2.symm (tbM_A hL _ _ (by decide) (by decide))
  rw [hA2, pk_cpy_out (by omega), hW2]
