/-! ===== LsmStore$Writer: open; the memory of new files under way ===== -/
def op1 (ad : Nat → Nat) (M : zM) : zM := zsetA M (ad 27) (zfil (zA M (ad 27)) 512)
def op2 (ad : Nat → Nat) (M : zM) (j n cnt : Nat) : zM := op1 ad (zput (zsetB (ttM ad (zsetA M (ad 28) (zfil (zA M (ad 28)) 512)) j n) (ad 29) (va_up (zB M (ad 29)) cnt (some (ad (tA j))))) 325 (ad 26) (nI (cnt + 1)))
set_option maxRecDepth 100000 in
set_option maxHeartbeats 4000000 in
theorem c_Writer_open2 {G : zG} {ad : Nat → Nat} {d cnt : Nat} {us : List Nat} {M : zM} (hd : 2 ≤ d) (hcb : zC M ≤ 600128 ∧ zS M ≤ 7301098) (hL : Lay ad M) (hU : Us ad M us) (hul : us.length < 256) (hc : zI M 325 (ad 26) = nI cnt) (hc2 : cnt < 256)  : zMet G mX10_open d [.ref ((ad 26)), .int (nI 2)] M (fun o M' => ∃ j, o = .inl none ∧ j ∉ us ∧ j < 256 ∧ M' = op2 ad M j (256 - us.length - 1) cnt) := by
  refine zMet_of (by decide +kernel) (Nat.le_of_ble_eq_true rfl) rfl hcb ?_
  show zw G mX10_open d _ _ _ 0 [some (.ref ((ad 26))), some (.int (nI 2)), none] [] M
  refine zr_iload_n dX10_open_0 rfl ?_
  refine zr_iconst (v := nI 2) dX10_open_1 (by decide) ?_
  refine zr_icmp_neN 55 dX10_open_2 (by decide) (by omega) (by omega) (fun h2 => ?_) (fun h2 => ?_)
  · exact absurd rfl h2
  · refine zr_aload_n dX10_open_5 rfl ?_
    refine zr_getR dX10_open_6 lkX10_15 (by decide) (by decide) rfl (hL.K 26 11) (hL.R 323 26 28) ?_
    refine zr_iconst (v := nI 0) dX10_open_9 (by decide) ?_
    refine zr_callS (md' := mJ7_fill_031fb) (As := [.ref ((ad 28)), .int (nI 0)]) dX10_open_10 mlX10_89 okJ7_fill_031fb rfl stJ7_fill_031fb rfl (by omega) (Nat.le_of_ble_eq_true rfl) hcb (c_fill (d := d - 1) hcb (hL.K 28 14) (hL.N 28 512) (by decide)) (fun k M1 h => by cases h.1) (fun v M1 hq => ?_)
    obtain ⟨e0, e1⟩ := hq
    cases e0
    rw [e1]
    refine zr_aload_n dX10_open_13 rfl ?_
    refine zr_getR dX10_open_14 lkX10_28 (by decide) (by decide) rfl (hL.K 26 11) (hL.R 321 26 17) ?_
    refine zr_callV (md' := mX2_takeTable) (As := []) dX10_open_17 mlX10_94 okX2_takeTable rfl inX2_takeTable slX2_takeTable (by decide) (hL.K 17 3) rfl (by omega) (Nat.le_of_ble_eq_true rfl) hcb (c_Files_takeTable (d := d - 1) (M := zsetA M (ad 28) (zfil (zA M (ad 28)) 512)) (by omega) hcb hL (hU.fl ((Fl.refl ad [] [28] [] M).setA hL (i := 28))) hul) (fun k M1 h => by obtain ⟨b, h, -⟩ := h; cases h) (fun v M1 hq => ?_)
    obtain ⟨j, e0, hj1, hj2, e1⟩ := hq
    cases e0
    rw [e1]
    refine zr_astore_n (lv' := [some (.ref ((ad 26))), some (.int (nI 2)), some (.ref ((ad (tA j))))]) dX10_open_20 (Nat.le_of_ble_eq_true rfl) (Nat.le_of_ble_eq_true rfl) rfl rfl ?_
    refine zr_aload_n dX10_open_21 rfl ?_
    refine zr_ifnull dX10_open_22 ?_
    refine zr_aload_n dX10_open_25 rfl ?_
    refine zr_getI dX10_open_26 lkX10_74 (by decide) (by decide) rfl (hL.K 26 11) ?_
    refine zr_as (y := (nI cnt)) (zput_ms (by decide) (zput_ms (by decide) (zput_ms (by decide) (zput_ms (by decide) hc)))) ?_
    refine zr_sipush (v := nI 256) dX10_open_29 (by decide) ?_
    refine zr_icmp_geN 55 dX10_open_32 (by decide) (by omega) (by omega) (fun h32 => ?_) (fun h32 => ?_)
    · refine zr_iload_n dX10_open_55 rfl ?_
      refine zr_if_eqN 67 dX10_open_56 (by decide) (by omega) (fun h56 => ?_) (fun h56 => ?_)
      · refine zr_vret dX10_open_67 rfl ?_
        first | (exfalso; omega) | exact ⟨j, rfl, hj1, hj2, rfl⟩
      · refine zr_aload_n dX10_open_59 rfl ?_
        refine zr_getR dX10_open_60 lkX10_9 (by decide) (by decide) rfl (hL.K 26 11) (hL.R 322 26 27) ?_
        refine zr_iconst (v := nI 0) dX10_open_63 (by decide) ?_
        refine zr_callS (md' := mJ7_fill_031fb) (As := [.ref ((ad 27)), .int (nI 0)]) dX10_open_64 mlX10_89 okJ7_fill_031fb rfl stJ7_fill_031fb rfl (by omega) (Nat.le_of_ble_eq_true rfl) hcb (c_fill (d := d - 1) (M := (zput (zsetB (ttM ad (zsetA M (ad 28) (zfil (zA M (ad 28)) 512)) j (256 - us.length - 1)) (ad 29) (va_up (zB M (ad 29)) cnt (some (ad (tA j))))) 325 (ad 26) (nI (cnt + 1)))) hcb (hL.K 27 14) (hL.N 27 512) (by decide)) (fun k M1 h => by cases h.1) (fun v M1 hq => ?_)
        obtain ⟨e0, e1⟩ := hq
        cases e0
        rw [e1]
        refine zr_vret dX10_open_67 rfl ?_
        first | (exfalso; omega) | exact ⟨j, rfl, hj1, hj2, rfl⟩
    · refine zr_aload_n dX10_open_35 rfl ?_
      refine zr_getR dX10_open_36 lkX10_20 (by decide) (by decide) rfl (hL.K 26 11) (hL.R 324 26 29) ?_
      refine zr_aload_n dX10_open_39 rfl ?_
      refine zr_getI dX10_open_40 lkX10_74 (by decide) (by decide) rfl (hL.K 26 11) ?_
      refine zr_as (y := (nI cnt)) (zput_ms (by decide) (zput_ms (by decide) (zput_ms (by decide) (zput_ms (by decide) hc)))) ?_
      refine zr_aload_n dX10_open_43 rfl ?_
      refine zr_aastN dX10_open_44 (Or.inr ⟨hL.K 29 19, hL.Kt (by omega)⟩) (hL.N 29 256) (by omega) (by omega) ?_
      refine zr_aload_n dX10_open_45 rfl ?_
      refine zr_dup dX10_open_46 rfl ?_
      refine zr_getI dX10_open_47 lkX10_74 (by decide) (by decide) rfl (hL.K 26 11) ?_
      refine zr_as (y := (nI cnt)) (zput_ms (by decide) (zput_ms (by decide) (zput_ms (by decide) (zput_ms (by decide) hc)))) ?_
      refine zr_iconst (v := nI 1) dX10_open_50 (by decide) ?_
      refine zr_iaddN dX10_open_51 ?_
      refine zr_putI dX10_open_52 lkX10_74 (by decide) (by decide) rfl rfl (hL.K 26 11) ?_
      refine zr_iload_n dX10_open_55 rfl ?_
      refine zr_if_eqN 67 dX10_open_56 (by decide) (by omega) (fun h56 => ?_) (fun h56 => ?_)
      · refine zr_vret dX10_open_67 rfl ?_
        first | (exfalso; omega) | exact ⟨j, rfl, hj1, hj2, rfl⟩
      · refine zr_aload_n dX10_open_59 rfl ?_
        refine zr_getR dX10_open_60 lkX10_9 (by decide) (by decide) rfl (hL.K 26 11) (hL.R 322 26 27) ?_
        refine zr_iconst (v := nI 0) dX10_open_63 (by decide) ?_
        refine zr_callS (md' := mJ7_fill_031fb) (As := [.ref ((ad 27)), .int (nI 0)]) dX10_open_64 mlX10_89 okJ7_fill_031fb rfl stJ7_fill_031fb rfl (by omega) (Nat.le_of_ble_eq_true rfl) hcb (c_fill (d := d - 1) (M := (zput (zsetB (ttM ad (zsetA M (ad 28) (zfil (zA M (ad 28)) 512)) j (256 - us.length - 1)) (ad 29) (va_up (zB M (ad 29)) cnt (some (ad (tA j))))) 325 (ad 26) (nI (cnt + 1)))) hcb (hL.K 27 14) (hL.N 27 512) (by decide)) (fun k M1 h => by cases h.1) (fun v M1 hq => ?_)
        obtain ⟨e0, e1⟩ := hq
        cases e0
        rw [e1]
        refine zr_vret dX10_open_67 rfl ?_
        first | (exfalso; omega) | exact ⟨j, rfl, hj1, hj2, rfl⟩
set_option maxRecDepth 100000 in
set_option maxHeartbeats 4000000 in
theorem c_Writer_open1 {G : zG} {ad : Nat → Nat} {d : Nat} {M : zM} (hd : 1 ≤ d) (hcb : zC M ≤ 600128 ∧ zS M ≤ 7301098) (hL : Lay ad M)  : zMet G mX10_open d [.ref ((ad 26)), .int (nI 1)] M (fun o M' => o = .inl none ∧ M' = op1 ad M) := by
  refine zMet_of (by decide +kernel) (Nat.le_of_ble_eq_true rfl) rfl hcb ?_
  show zw G mX10_open d _ _ _ 0 [some (.ref ((ad 26))), some (.int (nI 1)), none] [] M
  refine zr_iload_n dX10_open_0 rfl ?_
  refine zr_iconst (v := nI 2) dX10_open_1 (by decide) ?_
  refine zr_icmp_neN 55 dX10_open_2 (by decide) (by omega) (by omega) (fun h2 => ?_) (fun h2 => ?_)
  · refine zr_iload_n dX10_open_55 rfl ?_
    refine zr_if_eq 67 dX10_open_56 (by decide) (fun h56 => absurd h56 (by decide)) (fun h56 => ?_)
    refine zr_aload_n dX10_open_59 rfl ?_
    refine zr_getR dX10_open_60 lkX10_9 (by decide) (by decide) rfl (hL.K 26 11) (hL.R 322 26 27) ?_
    refine zr_iconst (v := nI 0) dX10_open_63 (by decide) ?_
    refine zr_callS (md' := mJ7_fill_031fb) (As := [.ref ((ad 27)), .int (nI 0)]) dX10_open_64 mlX10_89 okJ7_fill_031fb rfl stJ7_fill_031fb rfl (by omega) (Nat.le_of_ble_eq_true rfl) hcb (c_fill (d := d - 1) hcb (hL.K 27 14) (hL.N 27 512) (by decide)) (fun k M1 h => by cases h.1) (fun v M1 hq => ?_)
    obtain ⟨e0, e1⟩ := hq
    cases e0
    rw [e1]
    refine zr_vret dX10_open_67 rfl ?_
    exact ⟨rfl, rfl⟩
  · exfalso; omega
set_option maxRecDepth 100000 in
set_option maxHeartbeats 4000000 in
theorem c_Writer_open0 {G : zG} {ad : Nat → Nat} {d : Nat} {M : zM} (hcb : zC M ≤ 600128 ∧ zS M ≤ 7301098) (hL : Lay ad M)  : zMet G mX10_open d [.ref ((ad 26)), .int (nI 0)] M (fun o M' => o = .inl none ∧ M' = M) := by
  refine zMet_of (by decide +kernel) (Nat.le_of_ble_eq_true rfl) rfl hcb ?_
  show zw G mX10_open d _ _ _ 0 [some (.ref ((ad 26))), some (.int (nI 0)), none] [] M
  refine zr_iload_n dX10_open_0 rfl ?_
  refine zr_iconst (v := nI 2) dX10_open_1 (by decide) ?_
  refine zr_icmp_neN 55 dX10_open_2 (by decide) (by omega) (by omega) (fun h2 => ?_) (fun h2 => ?_)
  · refine zr_iload_n dX10_open_55 rfl ?_
    refine zr_if_eq 67 dX10_open_56 (by decide) (fun h56 => ?_) (fun h56 => absurd rfl h56)
    refine zr_vret dX10_open_67 rfl ?_
    exact ⟨rfl, rfl⟩
  · exfalso; omega
/-- all tables but j stay; of the rest what the lists name may change -/
def Fj (ad : Nat → Nat) (c j : Nat) (LF LA LB : List Nat) (M M' : zM) : Prop := Fr ad c (fun f i => f ∈ LF ∨ (i = tA j ∧ f ∈ [258, 259, 260])) (fun i => (i < 64 ∧ i ∈ LA) ∨ i = tB j) (fun i => i ∈ LB) M M'
section fj
variable {ad : Nat → Nat} {c c1 c2 j : Nat} {LF LA LB LF1 LA1 LB1 : List Nat} {M M1 M2 : zM}
theorem Fj.refl (ad : Nat → Nat) (j : Nat) (LF LA LB : List Nat) (M : zM) : Fj ad 0 j LF LA LB M M := Fr.refl ad M _ _ _
theorem Fj.put (h : Fj ad c j LF LA LB M M1) (hL : Lay ad M) {f i : Nat} {v : Int32} (hF : f ∈ LF := by decide) (hi : i < 582 := by decide) : Fj ad c j LF LA LB M (zput M1 f (ad i) v) := Fr.put h hL v (Or.inl hF) hi
theorem Fj.putT (h : Fj ad c j LF LA LB M M1) (hL : Lay ad M) {f : Nat} {v : Int32} (hj : j < 259) (hF : f ∈ [258, 259, 260] := by decide) : Fj ad c j LF LA LB M (zput M1 f (ad (tA j)) v) := Fr.put h hL v (Or.inr ⟨rfl, hF⟩) (by unfold tA; omega)
theorem Fj.setA (h : Fj ad c j LF LA LB M M1) (hL : Lay ad M) {i : Nat} {g : Nat → Int32} (hA : i < 64 ∧ i ∈ LA := by decide) (hi : i < 582 := by decide) : Fj ad c j LF LA LB M (zsetA M1 (ad i) g) := Fr.setA h hL g (Or.inl hA) hi
theorem Fj.setT (h : Fj ad c j LF LA LB M M1) (hL : Lay ad M) {g : Nat → Int32} (hj : j < 259) : Fj ad c j LF LA LB M (zsetA M1 (ad (tB j)) g) := Fr.setA h hL g (Or.inr rfl) (by unfold tB; omega)
theorem Fj.setB (h : Fj ad c j LF LA LB M M1) (hL : Lay ad M) {i : Nat} {g : Nat → Option Nat} (hB : i ∈ LB := by decide) (hi : i < 582 := by decide) : Fj ad c j LF LA LB M (zsetB M1 (ad i) g) := Fr.setB h hL g hB hi
theorem Fj.thr (h : Fj ad 0 j LF LA LB M M1) : Fj ad 1 j LF LA LB M (zthr M1) := Fr.thr h
theorem Fj.tb (h : Fj ad c j LF LA LB M M1) {j' : Nat} {bl : List Nat} {la : Option Nat} (hT : Tb ad M j' bl la) (hj : j' < 259) (hn : j' ≠ j) (h1 : 258 ∉ LF ∧ 259 ∉ LF := by decide) : Tb ad M1 j' bl la :=
  ⟨(Fr.rI h 258 (tA j') (fun z => z.elim h1.1 (fun y => hn (by have := y.1; unfold tA at this; omega))) (by unfold tA; omega)).trans hT.1, hT.2.1, fun i q hi => (congrFun (Fr.rA h (tB j') (fun z => z.elim (fun y => by have := y.1; unfold tB at this; omega) (fun y => hn (by unfold tB at y; omega))) (by unfold tB; omega)) i).trans (hT.2.2.1 i q hi), (Fr.rI h 259 (tA j') (fun z => z.elim h1.2 (fun y => hn (by have := y.1; unfold tA at this; omega))) (by unfold tA; omega)).trans hT.2.2.2⟩
theorem Fj.rI (h : Fj ad c j LF LA LB M M1) {f i : Nat} (h1 : f ∉ LF) (h2 : i < 64) : zI M1 f (ad i) = zI M f (ad i) := Fr.rI h f i (fun z => z.elim h1 (fun y => by have := y.1; unfold tA at this; omega)) (by omega)
theorem Fj.rA (h : Fj ad c j LF LA LB M M1) {i : Nat} (h1 : i ∉ LA) (h2 : i < 64) : zA M1 (ad i) = zA M (ad i) := Fr.rA h i (fun z => z.elim (fun y => h1 y.2) (fun y => by unfold tB at y; omega)) (by omega)
theorem Fj.rB (h : Fj ad c j LF LA LB M M1) {i : Nat} (h1 : i ∉ LB) (h2 : i < 582) : zB M1 (ad i) = zB M (ad i) := Fr.rB h i h1 h2
theorem Fj.fl (h : Fj ad c j LF LA LB M M1) (hF : LF ⊆ LF1 := by decide) (hT : 258 ∈ LF1 ∧ 259 ∈ LF1 ∧ 260 ∈ LF1 := by decide) (hA : LA ⊆ LA1 := by decide) (hA2 : 64 ∈ LA1 := by decide) (hB : LB ⊆ LB1 := by decide) : Fl ad c LF1 LA1 LB1 M M1 :=
  Fr.mono h (fun f i z => z.elim (fun y => hF y) (fun y => by
    have := y.2
    simp only [List.mem_cons, List.not_mem_nil, or_false] at this
    rcases this with e | e | e <;> rw [e]
    · exact hT.1
    · exact hT.2.1
    · exact hT.2.2)) (fun i z => z.elim (fun y => by rw [Nat.min_eq_left (by omega)]; exact hA y.2) (fun y => by rw [y, Nat.min_eq_right (by unfold tB; omega)]; exact hA2)) (fun i z => hB z)
end fj
theorem Pw.fj {ad : Nat → Nat} {c j : Nat} {LF LA LB : List Nat} {M M1 : zM} {on wh lf ct du cn : Nat} (h : Pw ad M on wh lf ct du cn) (hF : Fj ad c j LF LA LB M M1) (h1 : 34 ∉ LF := by decide) (h2 : 35 ∉ LF := by decide) (h3 : 36 ∉ LF := by decide) (h4 : 37 ∉ LF := by decide) (h5 : 38 ∉ LF := by decide) (h6 : 39 ∉ LF := by decide) : Pw ad M1 on wh lf ct du cn := ⟨(hF.rI h1 (by decide)).trans h.1, (hF.rI h2 (by decide)).trans h.2.1, (hF.rI h3 (by decide)).trans h.2.2.1, (hF.rI h4 (by decide)).trans h.2.2.2.1, (hF.rI h5 (by decide)).trans h.2.2.2.2.1, (hF.rI h6 (by decide)).trans h.2.2.2.2.2.1, h.2.2.2.2.2.2⟩
theorem Tk.fj {ad : Nat → Nat} {c j : Nat} {LF LA LB : List Nat} {M M1 : zM} {tk : List Nat} (h : Tk ad M tk) (hF : Fj ad c j LF LA LB M M1) (h1 : 69 ∉ LF := by decide) (h2 : 18 ∉ LA := by decide) : Tk ad M1 tk := ⟨h.1, fun i hi => (congrFun (hF.rA h2 (by decide)) i).trans (h.2.1 i hi), (hF.rI h1 (by decide)).trans h.2.2⟩
/-- what stays as it is while files are written -/
def Ot (ad : Nat → Nat) (us : List Nat) (M M' : zM) : Prop := ∀ j bl la, j < 259 → (j ∈ us ∨ 256 ≤ j) → Tb ad M j bl la → Tb ad M' j bl la
theorem Ot.step {ad : Nat → Nat} {us : List Nat} {M M1 M2 : zM} {c j : Nat} {LF LA LB : List Nat} (h : Ot ad us M M1) (hF : Fj ad c j LF LA LB M1 M2) (hj : j < 256) (hn : j ∉ us) (h1 : 258 ∉ LF ∧ 259 ∉ LF := by decide) : Ot ad us M M2 := fun i bl la hi hu hT => hF.tb (h i bl la hi hu hT) hi (fun e => hu.elim (fun z => hn (e ▸ z)) (fun z => by omega)) h1
/-- the bytes behind a written block -/
theorem wOk_Pw {ad : Nat → Nat} {M : zM} {fr s p n lf cn on wh lf0 ct du cn0 : Nat} (hP : Pw ad M on wh lf0 ct du cn0) (h1 : lf ≤ lf0) (h2 : cn ≤ 1) : Pw ad (wOk ad M fr s p n lf cn) on wh lf ct du cn := by
  obtain ⟨p1, p2, p3, p4, p5, p6, q1, q2, q3, q4, q5, q6⟩ := hP
  exact ⟨zput_ms (by decide) (zput_ms (by decide) p1), zput_ms (by decide) (zput_ms (by decide) p2), zput_ms (by decide) (zput_hit _ _ _ _), zput_ms (by decide) (zput_ms (by decide) p4), zput_ms (by decide) (zput_ms (by decide) p5), zput_hit _ _ _ _, q1, q2, by omega, q4, q5, h2⟩
/-- a block is taken, named and written -/
theorem zI_setA (M : zM) (a : Nat) (g : Nat → Int32) : zI (zsetA M a g) = zI M := rfl
theorem wo_post {ad : Nat → Nat} {M : zM} (hL : Lay ad M) {j b q lf cn on wh lf0 ct du cn0 : Nat} {bl tk us : List Nat} {la : Option Nat} (hj : j < 256) (hT : Tb ad M j bl la) (hbl : bl.length < 9) (hTk : Tk ad M tk) (hU : Us ad M us) (hb : b ∉ tk) (hb1 : 80 ≤ b) (hb2 : b < 592) (hP : Pw ad M on wh lf0 ct du cn0) (h1 : lf ≤ lf0) (h2 : cn ≤ 1) {M' : zM} (hM : M' = wOk ad (woM ad M j bl b (512 - tk.length - 1)) (ad q) 0 (b * 512) 512 lf cn) :
    Fj ad 0 j [36, 39, 69, 71] [2, 18] [] M M' ∧ Tk ad M' (b :: tk) ∧ Tb ad M' j (bl ++ [b]) la ∧ Us ad M' us ∧ Pw ad M' on wh lf ct du cn ∧ (∃ nx, nx ≤ 512 ∧ zI M' 71 (ad 17) = nI nx) ∧ (∀ p, p / 512 ≠ b → zA M' (ad 2) p = zA M (ad 2) p) ∧ (q ≠ 18 → q < 64 → ∀ k, k < 512 → zA M' (ad 2) (b * 512 + k) = zA M (ad q) k) := by
  subst hM
  have hF : Fj ad 0 j [36, 39, 69, 71] [2, 18] [] M (wOk ad (woM ad M j bl b (512 - tk.length - 1)) (ad q) 0 (b * 512) 512 lf cn) := (((((((((Fj.refl ad j _ _ _ M).put hL (f := 71) (i := 17)).setA hL (i := 18)).put hL (f := 69) (i := 17)).setT hL (by omega)).putT hL (f := 258) (by omega)).setA hL (i := 2)).put hL (f := 36) (i := 1)).put hL (f := 39) (i := 1))
  have hne : ad (tB j) ≠ ad 18 := hL.ne (by unfold tB; omega) (by unfold tB; omega)
  have hne2 : ad (tB j) ≠ ad 2 := hL.ne (by unfold tB; omega) (by unfold tB; omega)
  have hAB : zA (woM ad M j bl b (512 - tk.length - 1)) (ad (tB j)) = upd (zA M (ad (tB j))) bl.length (nI b) := zsetA_hit _ _ _
  have hA2 : zA (wOk ad (woM ad M j bl b (512 - tk.length - 1)) (ad q) 0 (b * 512) 512 lf cn) (ad 2) = va_cpy (zA (woM ad M j bl b (512 - tk.length - 1)) (ad q)) (zA (woM ad M j bl b (512 - tk.length - 1)) (ad 2)) 0 (b * 512) 512 := zsetA_hit _ _ _
  have hW2 : zA (woM ad M j bl b (512 - tk.length - 1)) (ad 2) = zA M (ad 2) := zsetA_ms (M := tbM ad M b (512 - tk.length - 1)) hne2.symm (tbM_A hL _ _ (by decide) (by decide))
  refine ⟨hF, ?_, ?_, ?_, ?_, ⟨b - 80 + 1, by omega, by simp [wOk, woM, tbM, mkM, zput_I, zI_setA]⟩, fun p hp => ?_, fun h18 h64 k hk => ?_⟩
  · have h0 := Tk.add (M := zput M 71 (ad 17) (nI (b - 80 + 1))) (n := 512 - tk.length - 1) (hTk.put (by decide)) hb hb1 hb2 rfl
    refine ⟨h0.1, fun i hi => ?_, ?_⟩
    · refine (congrFun (zsetA_ms (M := woM ad M j bl b (512 - tk.length - 1)) (hL.ne (by decide)) ?_) i).trans (h0.2.1 i hi)
      exact zsetA_ms (M := tbM ad M b (512 - tk.length - 1)) hne.symm rfl
    · rw [List.length_cons, ← Nat.sub_sub]; simp [wOk, woM, tbM, mkM, zput_I, zI_setA]
  · refine ⟨?_, by rw [List.length_append]; exact hbl, ?_, ?_⟩
    · rw [List.length_append]
      simp [wOk, woM, zput_I, zI_setA]
    · intro i x hx
      refine (congrFun (zsetA_ms (M := woM ad M j bl b (512 - tk.length - 1)) hne2 hAB) i).trans ?_
      exact Ld.snoc hT.2.2.1 i x hx
    · rw [← hT.2.2.2]; simp [wOk, woM, tbM, mkM, zput_I, zI_setA]
  · refine ⟨hU.1, hU.2.1, fun i hi => ?_, ?_⟩
    · rw [← hU.2.2.1 i hi]; simp [wOk, woM, tbM, mkM, zput_I, zI_setA]
    · rw [← hU.2.2.2]; simp [wOk, woM, tbM, mkM, zput_I, zI_setA]
  · exact wOk_Pw (hP.fl (woM_fl hL hj _ _ _)) h1 h2
  · rw [hA2, pk_cpy_out (by omega), hW2]
  · rw [hA2, pk_cpy_in (by omega) (by omega), Nat.zero_add, Nat.add_sub_cancel_left]
    refine congrFun ?_ k
    exact zsetA_ms (M := tbM ad M b (512 - tk.length - 1)) (hL.ne (by unfold tB; omega) (by omega) (by unfold tB; omega)) (tbM_A hL _ _ h18 (by omega))
theorem wo_cut {ad : Nat → Nat} {M : zM} (hL : Lay ad M) {j b q r tn : Nat} {bl : List Nat} (hj : j < 256) (hb1 : 80 ≤ b) (hb2 : b < 592) (hr : r ≤ 512) {M' : zM} (hM : M' = wCut ad (woM ad M j bl b tn) (ad q) 0 (b * 512) r) :
    Fj ad 1 j [34, 35, 69, 71] [2, 18] [] M M' ∧ zI M' 34 (ad 1) = nI 0 ∧ zI M' 35 (ad 1) = nI 3 ∧ ∀ p, p / 512 ≠ b → zA M' (ad 2) p = zA M (ad 2) p := by
  subst hM
  have hne2 : ad (tB j) ≠ ad 2 := hL.ne (by unfold tB; omega) (by unfold tB; omega)
  refine ⟨((((((((((Fj.refl ad j _ _ _ M).put hL (f := 71) (i := 17)).setA hL (i := 18)).put hL (f := 69) (i := 17)).setT hL (by omega)).putT hL (f := 258) (by omega)).setA hL (i := 2)).put hL (f := 34) (i := 1)).put hL (f := 35) (i := 1)).thr), zput_ms (by decide) (zput_hit _ _ _ _), zput_hit _ _ _ _, fun p hp => ?_⟩
  have hA2 : zA (wCut ad (woM ad M j bl b tn) (ad q) 0 (b * 512) r) (ad 2) = va_cpy (zA (woM ad M j bl b tn) (ad q)) (zA (woM ad M j bl b tn) (ad 2)) 0 (b * 512) r := zsetA_hit _ _ _
  have hW2 : zA (woM ad M j bl b tn) (ad 2) = zA M (ad 2) := zsetA_ms (M := tbM ad M b tn) hne2.symm (tbM_A hL _ _ (by decide) (by decide))
  rw [hA2, pk_cpy_out (by omega), hW2]
