/-! ===== LsmStore: calls (1) ===== -/
theorem Ofn.fl {ad : Nat → Nat} {k : Nat} {LF LA LB : List Nat} {M M1 : zM} {c n gm : Nat} {m : Mp} (h : Ofn ad M c n gm m) (hF : Fl ad k LF LA LB M M1) (h2 : 2 ∉ LA) (h3 : 366 ∉ LF) (hm : Msc ad M1) : Ofn ad M1 c n gm m := by
  obtain ⟨⟨g, ar, us, cm, Ls, rs, E, a⟩, b, d⟩ := h
  exact ⟨⟨g, ar, us, cm, Ls, rs, E, by rw [hF.rA (i := 2) h2 (by decide)]; exact a⟩, hm, (hF.rI h3 (by decide)).trans d⟩
/-- fields and rows that a call which changes key and value alone leaves as they are -/
abbrev Lfx (LF LA LB : List Nat) : Prop := (162 ∉ LF ∧ 131 ∉ LF ∧ 258 ∉ LF ∧ 259 ∉ LF) ∧ (2 ∉ LA ∧ 16 ∉ LA ∧ 64 ∉ LA) ∧ (35 ∉ LB ∧ 36 ∉ LB ∧ 37 ∉ LB) ∧ (68 ∉ LF ∧ 69 ∉ LF ∧ 70 ∉ LF ∧ 71 ∉ LF ∧ 260 ∉ LF ∧ 163 ∉ LF ∧ 164 ∉ LF ∧ 165 ∉ LF ∧ 166 ∉ LF ∧ 100 ∉ LF ∧ 102 ∉ LF ∧ 366 ∉ LF ∧ 18 ∉ LA ∧ 3 ∉ LA ∧ 21 ∉ LB) ∧ (326 ∉ LF ∧ 327 ∉ LF) ∧ (34 ∉ LF ∧ 35 ∉ LF ∧ 36 ∉ LF ∧ 37 ∉ LF ∧ 38 ∉ LF ∧ 39 ∉ LF) ∧ (2 ∉ LF ∧ 3 ∉ LF ∧ 4 ∉ LF ∧ 364 ∉ LF ∧ 365 ∉ LF ∧ 369 ∉ LF) ∧ (11 ∉ LA ∧ 12 ∉ LA ∧ 14 ∉ LA) ∧ (20 ∉ LB ∧ 22 ∉ LB)
theorem Sa.kv {ad : Nat → Nat} {k n : Nat} {LF LA LB : List Nat} {M M1 : zM} {A : As} {K V : List Nat} (h : Sa ad M A n) (hF : Fl ad k LF LA LB M M1) (hk : k ≤ 1) (hx : Lfx LF LA LB := by exact ⟨by decide, by decide, by decide, by decide, by decide, by decide, by decide, by decide, by decide⟩) (hK : RwS ad M1 4 5 K 32) (hV : RwS ad M1 6 7 V 200) (hp : ∃ pl, pl ≤ 32 ∧ zI M1 193 (ad 8) = nI pl) : Sa ad M1 (aM A, K, V, aS A, aO A, aF A, aW A, aC A, aN A) (n + 1) := by
  obtain ⟨⟨s1, s2, s3, s4, s5, ⟨t, s6, s6'⟩, ⟨lf, ct, du, cn, s7⟩, s8, s9⟩, h2⟩ := h
  obtain ⟨x1, x2, x3, x4, x5, x6, x7, x8, x9⟩ := hx
  have hcs := hF.cs
  have eD : zA M1 (ad 2) = zA M (ad 2) := hF.rA (i := 2) x2.1 (by decide)
  have e11 : zA M1 (ad 11) = zA M (ad 11) := hF.rA (i := 11) x8.1 (by decide)
  have hms : ∀ {N : zM}, N = M → Msc ad M → Msc ad M1 := fun _ hm => hm.fl hF x4.2.2.2.1 x5.1 x5.2 x1.2.2.1 x1.2.2.2 x4.2.2.2.2.2.2.2.2.2.2.2.2.2.1 x2.2.2
  refine ⟨⟨hF.lay s1 x9.1 x9.2, by omega, hK, hV, hp, ⟨t, by omega, (hF.rI x7.2.2.2.2.2 (by decide)).trans s6'⟩, ⟨lf, ct, du, cn, s7.fl hF x6.1 x6.2.1 x6.2.2.1 x6.2.2.2.1 x6.2.2.2.2.1 x6.2.2.2.2.2⟩, ⟨s8.1, Nat.le_succ_of_le s8.2.1, s8.2.2⟩, Nat.le_succ_of_le s9⟩, ?_⟩
  rcases h2 with ⟨a0, ⟨E, Ls, n1, v, a1, a2, a3, a4⟩, a5, a6, a7, a8, a9, a10⟩ | ⟨a0, a1, ⟨v, a2⟩, a3, a4, a5⟩
  · refine Or.inl ⟨a0, ⟨E, Ls, n1, v, (a1.fl hF x1 x2 x3 x4 x5).mono (Nat.le_refl _) (by omega), Nat.le_succ_of_le a2, a3.fl hF x8.2.2, by rw [eD]; exact a4⟩, (hF.rI x7.2.2.2.1 (by decide)).trans a5, (hF.rI x7.2.2.2.2.1 (by decide)).trans a6, (hF.rI x7.2.2.1 (by decide)).trans a7, a8, fun ho => ?_, a10⟩
    obtain ⟨offs, len, b1, b2⟩ := a9 ho
    exact ⟨offs, len, b1.fl hF ⟨x7.1, x7.2.1⟩ ⟨x8.1, x8.2.1⟩, by rw [e11]; exact b2⟩
  · exact Or.inr ⟨a0, (a1.fl hF x2.1 x4.2.2.2.2.2.2.2.2.2.2.2.1 (hms rfl a1.2.1)).mono (Nat.le_succ _) (by omega), ⟨v, a2.fl hF x8.2.2⟩, a3, a4, a5⟩
theorem RwS.fl {ad : Nat → Nat} {k r rc cap : Nat} {LF LA LB L : List Nat} {M M1 : zM} (h : RwS ad M r rc L cap) (hF : Fl ad k LF LA LB M M1) (h1 : 193 ∉ LF := by decide) (h2 : min rc 64 ∉ LA := by decide) (h3 : r < 582 ∧ rc < 582 := by decide) : RwS ad M1 r rc L cap := ⟨(hF.rI h1 h3.1).trans h.1, by rw [hF.rA (i := rc) h2 h3.2]; exact h.2.1, h.2.2⟩
/-- nothing is changed but what a call may use for itself -/
theorem Sa.same {ad : Nat → Nat} {k n : Nat} {LF LA LB : List Nat} {M M1 : zM} {A : As} (h : Sa ad M A n) (hF : Fl ad k LF LA LB M M1) (hk : k ≤ 1) (hx : Lfx LF LA LB := by exact ⟨by decide, by decide, by decide, by decide, by decide, by decide, by decide, by decide, by decide⟩) (h1 : 193 ∉ LF := by decide) (h2 : 5 ∉ LA ∧ 7 ∉ LA := by decide) : Sa ad M1 A (n + 1) :=
  h.kv hF hk hx (h.1.2.2.1.fl hF h1 h2.1) (h.1.2.2.2.1.fl hF h1 h2.2) (by obtain ⟨pl, a, b⟩ := h.1.2.2.2.2.1; exact ⟨pl, a, (hF.rI h1 (by decide)).trans b⟩)
theorem thr_fl (ad : Nat → Nat) (M : zM) : Fl ad 1 [] [] [] M (zthr M) := Fr.thr (Fl.refl ad [] [] [] M)
theorem Sa.thr {ad : Nat → Nat} {n : Nat} {M : zM} {A : As} (h : Sa ad M A n) : Sa ad (zthr M) A (n + 1) := h.same (thr_fl ad M) (Nat.le_refl _)
theorem Sa.cb {ad : Nat → Nat} {n : Nat} {M : zM} {A : As} (h : Sa ad M A n) (hn : n ≤ 64) : (zC M ≤ 600128 ∧ zS M ≤ 7301098) ∧ zC M + 1 ≤ 600128 ∧ zS M + 6 ≤ 7301098 := by have := h.1.2.1; omega
theorem thr_fk (ad : Nat → Nat) (M : zM) : Fk ad 1 M (zthr M) := (thr_fl ad M).fs.fk
/-- what a call of the store comes to -/
def Pst (ad : Nat → Nat) (M : zM) (n : Nat) (r : As × zOut) (o : zOut) (M' : zM) : Prop := o = r.2 ∧ Sa ad M' r.1 (n + 1) ∧ ∃ k, Fk ad k M M'
def sKey (w : Int64) (n fr : Int32) (A : As) : As × zOut := if 0 ≤ n.toInt ∧ n.toInt ≤ 8 ∧ (((if fr = 0 then (aK A).length else 0 : Nat) : Int) + n.toInt ≤ (32 : Nat)) then ((aM A, (if fr = 0 then aK A else []) ++ wbs w n.toNatClampNeg, aV A, aS A, aO A, aF A, aW A, aC A, aN A), .inl (some (.int (nI ((if fr = 0 then (aK A).length else 0) + n.toNatClampNeg))))) else (A, .inr 1)
def sVal (w : Int64) (n fr : Int32) (A : As) : As × zOut := if 0 ≤ n.toInt ∧ n.toInt ≤ 8 ∧ (((if fr = 0 then (aV A).length else 0 : Nat) : Int) + n.toInt ≤ (200 : Nat)) then ((aM A, aK A, (if fr = 0 then aV A else []) ++ wbs w n.toNatClampNeg, aS A, aO A, aF A, aW A, aC A, aN A), .inl (some (.int (nI ((if fr = 0 then (aV A).length else 0) + n.toNatClampNeg))))) else (A, .inr 1)
theorem zapp_rwl (f : Nat → Int32) (L : List Nat) (w : Int64) (k : Nat) (h : rwl f L.length = L) : rwl (zapp f L.length w k 0) (L.length + k) = L ++ wbs w k := by
  refine List.ext_getElem (by rw [rwl_len, List.length_append]; unfold wbs; rw [List.length_map, List.length_range]) (fun i h1 h2 => ?_)
  rw [rwl_len] at h1
  have e1 : (rwl (zapp f L.length w k 0) (L.length + k))[i]'(by rw [rwl_len]; exact h1) = zb (zapp f L.length w k 0 i) := by unfold rwl; rw [List.getElem_map, List.getElem_range]
  rw [e1]
  unfold zapp
  by_cases hi : i < L.length
  · rw [if_neg (by omega), List.getElem_append_left hi]
    have e2 : zb (f i) = (rwl f L.length)[i]'(by rw [rwl_len]; exact hi) := by unfold rwl; rw [List.getElem_map, List.getElem_range]
    rw [e2]
    exact List.getElem_of_eq h _
  · rw [if_pos (by omega), List.getElem_append_right (by omega)]
    unfold wbs
    rw [List.getElem_map, List.getElem_range]
theorem zapp_rwl0 (f : Nat → Int32) (w : Int64) (k : Nat) : rwl (zapp f 0 w k 0) (0 + k) = wbs w k := zapp_rwl f [] w k rfl
theorem toInt_nat {x : Int32} (h : 0 ≤ x.toInt) : x = nI x.toNatClampNeg := by
  have h1 : x.toInt = (x.toNatClampNeg : Int) := by
    show x.toInt = ((x.toInt.toNat : Nat) : Int)
    omega
  have h2 := Int32.toInt_lt x
  refine Int32.toInt_inj.mp ?_
  rw [h1]
  exact (nI_toInt (by omega)).symm
theorem Fl.mono0 {ad : Nat → Nat} {c : Nat} {LF LA LB : List Nat} {M M1 : zM} (h : Fl ad c LF LA LB M M1) (h1 : ∀ f ∈ LF, f < 384 := by decide) (h2 : ∀ i ∈ LA, i < 38 ∨ i = 64 := by decide) (h3 : ∀ i ∈ LB, i ≠ 20 ∧ i ≠ 22 := by decide) : Fk ad c M M1 := Fr.mono h (fun f i z => h1 f z) (fun i z => by have := h2 _ z; omega) (fun i z => h3 i z)
set_option maxRecDepth 100000 in
set_option maxHeartbeats 4000000 in
theorem a_key {G : zG} {ad : Nat → Nat} {d n : Nat} {w0 : Int64} {n0 fr : Int32} {A : As} {M : zM} (hd : 7 ≤ d) (hS : Sa ad M A n) (hn : n < 64)  : zMet G mX11_key d [.ref ((ad 0)), .long w0, .int n0, .int fr] M (Pst ad M n (sKey w0 n0 fr A)) := by
  obtain ⟨hcb, hcx⟩ := hS.cb (by omega)
  obtain ⟨⟨hL, hrm, hK, hV, ⟨pl, hpl, hpr⟩, ⟨tr, htr, htr9⟩, ⟨lf, ct, du, cn, hP⟩, hMw, hcn⟩, hcase⟩ := id hS
  refine zMet_of (by decide +kernel) (Nat.le_of_ble_eq_true rfl) rfl hcb ?_
  show zw G mX11_key d _ _ _ 0 [some (.ref ((ad 0))), some (.long w0), none, some (.int n0), some (.int fr)] [] M
  refine zr_aload_n dX11_key_0 rfl ?_
  refine zr_getR dX11_key_1 lkX11_21 (by decide) (by decide) rfl (hL.K 0 12) (hL.R 353 0 4) ?_
  refine zr_iload_n dX11_key_4 rfl ?_
  refine zr_iload dX11_key_5 rfl ?_
  refine zr_callV (md' := mX6_accepts) (As := [.int n0, .int fr]) dX11_key_7 mlX11_91 okX6_accepts rfl inX6_accepts slX6_accepts (by decide) (hL.K 4 7) rfl (by omega) (Nat.le_of_ble_eq_true rfl) hcb (c_Row_accepts (d := d - 1) (a := ad 4) (b := ad 5) (nb := 32) (len := (aK A).length) hcb (hL.K 4 7) (hL.R 192 4 5) (hL.K 5 14) (hL.N 5 32) (by decide) hK.1 hK.2.2) (fun k M9 h => by obtain ⟨-, t, h, -⟩ := h; cases h) (fun v M9 hq => ?_)
  obtain ⟨e9, t, e0, ht1, ht2⟩ := hq
  cases e0
  rw [e9]
  refine zr_if_neN 23 dX11_key_10 (by decide) (by omega) (fun h10 => ?_) (fun h10 => ?_)
  · have ht9 := ht2.mp (by omega)
    have hnn : n0 = nI n0.toNatClampNeg := toInt_nat ht9.1
    have hcl : n0.toInt = (n0.toNatClampNeg : Int) := by show n0.toInt = ((n0.toInt.toNat : Nat) : Int); omega
    have hk8 : n0.toNatClampNeg ≤ 8 := by omega
    have hk9 : (if fr = 0 then (aK A).length else 0) + n0.toNatClampNeg ≤ 32 := by have := ht9.2.2; omega
    refine zr_asL (lv' := [some (.ref ((ad 0))), some (.long w0), none, some (.int (nI n0.toNatClampNeg)), some (.int fr)]) (by rw [← hnn]) ?_
    refine zr_aload_n dX11_key_23 rfl ?_
    refine zr_getR dX11_key_24 lkX11_21 (by decide) (by decide) rfl (hL.K 0 12) (hL.R 353 0 4) ?_
    refine zr_lload_n dX11_key_27 rfl ?_
    refine zr_iload_n dX11_key_28 rfl ?_
    refine zr_iload dX11_key_29 rfl ?_
    refine zr_callV (md' := mX6_append) (As := [.long w0, .int (nI n0.toNatClampNeg), .int fr]) dX11_key_31 mlX11_102 okX6_append rfl inX6_append slX6_append (by decide) (hL.K 4 7) rfl (by omega) (Nat.le_of_ble_eq_true rfl) hcb (c_Row_append (d := d - 1) (a := ad 4) (b := ad 5) (nb := 32) (len := (aK A).length) (k := n0.toNatClampNeg) hcb (hL.K 4 7) (hL.R 192 4 5) (hL.K 5 14) (hL.N 5 32) (by decide) hK.1 hk8 hk9) (fun k M1 h => by cases h.1) (fun v M1 hq => ?_)
    obtain ⟨e0, e1⟩ := hq
    cases e0
    refine zr_iret dX11_key_34 rfl ?_
    have hF1 : Fl ad 0 [193] [5] [] M M1 := by rw [e1]; exact ((Fl.refl ad _ _ _ M).setA hL (i := 5)).put hL (f := 193) (i := 4)
    have hlen : ((if fr = 0 then aK A else []) ++ wbs w0 n0.toNatClampNeg).length = (if fr = 0 then (aK A).length else 0) + n0.toNatClampNeg := by
      rw [List.length_append, show (wbs w0 n0.toNatClampNeg).length = n0.toNatClampNeg from by unfold wbs; rw [List.length_map, List.length_range]]
      split <;> rfl
    refine ⟨by unfold sKey; rw [if_pos ht9], ?_, 0, hF1.mono0⟩
    unfold sKey; rw [if_pos ht9]
    have hnew : RwS ad M1 4 5 ((if fr = 0 then aK A else []) ++ wbs w0 n0.toNatClampNeg) 32 := by
      refine ⟨by rw [hlen, e1]; exact zput_hit _ _ _ _, ?_, by rw [hlen]; exact hk9⟩
      rw [hlen, e1, show zA (zput (zsetA M (ad 5) (zapp (zA M (ad 5)) (if fr = 0 then (aK A).length else 0) w0 n0.toNatClampNeg 0)) 193 (ad 4) (nI ((if fr = 0 then (aK A).length else 0) + n0.toNatClampNeg))) (ad 5) = zapp (zA M (ad 5)) (if fr = 0 then (aK A).length else 0) w0 n0.toNatClampNeg 0 from zsetA_hit _ _ _]
      by_cases hf : fr = 0
      · rw [if_pos hf, if_pos hf]; exact zapp_rwl _ _ _ _ hK.2.1
      · rw [if_neg hf, if_neg hf]; exact zapp_rwl0 _ _ _
    have hoth : RwS ad M1 6 7 (aV A) 200 := ⟨by rw [e1]; exact zput_ma (f := 193) (hL.ne (by decide)) hV.1, by rw [hF1.rA (i := 7) (by decide) (by decide)]; exact hV.2.1, hV.2.2⟩
    exact hS.kv hF1 (by decide) (hK := hnew) (hV := hoth) (hp := ⟨pl, hpl, by rw [e1]; exact zput_ma (f := 193) (hL.ne (by decide)) hpr⟩)
  · refine zr_throw (k := 1) (sk := 1) dX11_key_13 dX11_key_16 dX11_key_17 dX11_key_19 dX11_key_22 thX11_1 rfl rfl (by omega) (Nat.le_of_ble_eq_true rfl) hcx ?_
    refine ⟨by unfold sKey; rw [if_neg (fun z => by have := ht2.mpr z; omega)], ?_, 1, thr_fk ad M⟩
    unfold sKey; rw [if_neg (fun z => by have := ht2.mpr z; omega)]
    exact hS.thr
set_option maxRecDepth 100000 in
set_option maxHeartbeats 4000000 in
theorem a_value {G : zG} {ad : Nat → Nat} {d n : Nat} {w0 : Int64} {n0 fr : Int32} {A : As} {M : zM} (hd : 7 ≤ d) (hS : Sa ad M A n) (hn : n < 64)  : zMet G mX11_value d [.ref ((ad 0)), .long w0, .int n0, .int fr] M (Pst ad M n (sVal w0 n0 fr A)) := by
  obtain ⟨hcb, hcx⟩ := hS.cb (by omega)
  obtain ⟨⟨hL, hrm, hK, hV, ⟨pl, hpl, hpr⟩, ⟨tr, htr, htr9⟩, ⟨lf, ct, du, cn, hP⟩, hMw, hcn⟩, hcase⟩ := id hS
  refine zMet_of (by decide +kernel) (Nat.le_of_ble_eq_true rfl) rfl hcb ?_
  show zw G mX11_value d _ _ _ 0 [some (.ref ((ad 0))), some (.long w0), none, some (.int n0), some (.int fr)] [] M
  refine zr_aload_n dX11_value_0 rfl ?_
  refine zr_getR dX11_value_1 lkX11_25 (by decide) (by decide) rfl (hL.K 0 12) (hL.R 354 0 6) ?_
  refine zr_iload_n dX11_value_4 rfl ?_
  refine zr_iload dX11_value_5 rfl ?_
  refine zr_callV (md' := mX6_accepts) (As := [.int n0, .int fr]) dX11_value_7 mlX11_91 okX6_accepts rfl inX6_accepts slX6_accepts (by decide) (hL.K 6 7) rfl (by omega) (Nat.le_of_ble_eq_true rfl) hcb (c_Row_accepts (d := d - 1) (a := ad 6) (b := ad 7) (nb := 200) (len := (aV A).length) hcb (hL.K 6 7) (hL.R 192 6 7) (hL.K 7 14) (hL.N 7 200) (by decide) hV.1 hV.2.2) (fun k M9 h => by obtain ⟨-, t, h, -⟩ := h; cases h) (fun v M9 hq => ?_)
  obtain ⟨e9, t, e0, ht1, ht2⟩ := hq
  cases e0
  rw [e9]
  refine zr_if_neN 23 dX11_value_10 (by decide) (by omega) (fun h10 => ?_) (fun h10 => ?_)
  · have ht9 := ht2.mp (by omega)
    have hnn : n0 = nI n0.toNatClampNeg := toInt_nat ht9.1
    have hcl : n0.toInt = (n0.toNatClampNeg : Int) := by show n0.toInt = ((n0.toInt.toNat : Nat) : Int); omega
    have hk8 : n0.toNatClampNeg ≤ 8 := by omega
    have hk9 : (if fr = 0 then (aV A).length else 0) + n0.toNatClampNeg ≤ 200 := by have := ht9.2.2; omega
    refine zr_asL (lv' := [some (.ref ((ad 0))), some (.long w0), none, some (.int (nI n0.toNatClampNeg)), some (.int fr)]) (by rw [← hnn]) ?_
    refine zr_aload_n dX11_value_23 rfl ?_
    refine zr_getR dX11_value_24 lkX11_25 (by decide) (by decide) rfl (hL.K 0 12) (hL.R 354 0 6) ?_
    refine zr_lload_n dX11_value_27 rfl ?_
    refine zr_iload_n dX11_value_28 rfl ?_
    refine zr_iload dX11_value_29 rfl ?_
    refine zr_callV (md' := mX6_append) (As := [.long w0, .int (nI n0.toNatClampNeg), .int fr]) dX11_value_31 mlX11_102 okX6_append rfl inX6_append slX6_append (by decide) (hL.K 6 7) rfl (by omega) (Nat.le_of_ble_eq_true rfl) hcb (c_Row_append (d := d - 1) (a := ad 6) (b := ad 7) (nb := 200) (len := (aV A).length) (k := n0.toNatClampNeg) hcb (hL.K 6 7) (hL.R 192 6 7) (hL.K 7 14) (hL.N 7 200) (by decide) hV.1 hk8 hk9) (fun k M1 h => by cases h.1) (fun v M1 hq => ?_)
    obtain ⟨e0, e1⟩ := hq
    cases e0
    refine zr_iret dX11_value_34 rfl ?_
    have hF1 : Fl ad 0 [193] [7] [] M M1 := by rw [e1]; exact ((Fl.refl ad _ _ _ M).setA hL (i := 7)).put hL (f := 193) (i := 6)
    have hlen : ((if fr = 0 then aV A else []) ++ wbs w0 n0.toNatClampNeg).length = (if fr = 0 then (aV A).length else 0) + n0.toNatClampNeg := by
      rw [List.length_append, show (wbs w0 n0.toNatClampNeg).length = n0.toNatClampNeg from by unfold wbs; rw [List.length_map, List.length_range]]
      split <;> rfl
    refine ⟨by unfold sVal; rw [if_pos ht9], ?_, 0, hF1.mono0⟩
    unfold sVal; rw [if_pos ht9]
    have hnew : RwS ad M1 6 7 ((if fr = 0 then aV A else []) ++ wbs w0 n0.toNatClampNeg) 200 := by
      refine ⟨by rw [hlen, e1]; exact zput_hit _ _ _ _, ?_, by rw [hlen]; exact hk9⟩
      rw [hlen, e1, show zA (zput (zsetA M (ad 7) (zapp (zA M (ad 7)) (if fr = 0 then (aV A).length else 0) w0 n0.toNatClampNeg 0)) 193 (ad 6) (nI ((if fr = 0 then (aV A).length else 0) + n0.toNatClampNeg))) (ad 7) = zapp (zA M (ad 7)) (if fr = 0 then (aV A).length else 0) w0 n0.toNatClampNeg 0 from zsetA_hit _ _ _]
      by_cases hf : fr = 0
      · rw [if_pos hf, if_pos hf]; exact zapp_rwl _ _ _ _ hV.2.1
      · rw [if_neg hf, if_neg hf]; exact zapp_rwl0 _ _ _
    have hoth : RwS ad M1 4 5 (aK A) 32 := ⟨by rw [e1]; exact zput_ma (f := 193) (hL.ne (by decide)) hK.1, by rw [hF1.rA (i := 5) (by decide) (by decide)]; exact hK.2.1, hK.2.2⟩
    exact hS.kv hF1 (by decide) (hK := hoth) (hV := hnew) (hp := ⟨pl, hpl, by rw [e1]; exact zput_ma (f := 193) (hL.ne (by decide)) hpr⟩)
  · refine zr_throw (k := 1) (sk := 2) dX11_value_13 dX11_value_16 dX11_value_17 dX11_value_19 dX11_value_22 thX11_1 rfl rfl (by omega) (Nat.le_of_ble_eq_true rfl) hcx ?_
    refine ⟨by unfold sVal; rw [if_neg (fun z => by have := ht2.mpr z; omega)], ?_, 1, thr_fk ad M⟩
    unfold sVal; rw [if_neg (fun z => by have := ht2.mpr z; omega)]
    exact hS.thr
set_option maxRecDepth 100000 in
set_option maxHeartbeats 4000000 in
theorem c_requireOn {G : zG} {ad : Nat → Nat} {d on9 : Nat} {M : zM} (hd : 6 ≤ d) (hcb : zC M ≤ 600128 ∧ zS M ≤ 7301098) (hcx : zC M + 1 ≤ 600128 ∧ zS M + 6 ≤ 7301098) (hL : Lay ad M) (hon : zI M 34 (ad 1) = nI on9) (hon1 : on9 ≤ 1)  : zMet G mX11_requireOn d [.ref ((ad 0))] M (fun o M' => (on9 = 1 ∧ o = .inl none ∧ M' = M) ∨ (on9 = 0 ∧ o = .inr 0 ∧ M' = zthr M)) := by
  refine zMet_of (by decide +kernel) (Nat.le_of_ble_eq_true rfl) rfl hcb ?_
  show zw G mX11_requireOn d _ _ _ 0 [some (.ref ((ad 0)))] [] M
  refine zr_aload_n dX11_requireOn_0 rfl ?_
  refine zr_getR dX11_requireOn_1 lkX11_12 (by decide) (by decide) rfl (hL.K 0 12) (hL.R 352 0 1) ?_
  refine zr_getI dX11_requireOn_4 lkX11_224 (by decide) (by decide) rfl (hL.K 1 2) ?_
  refine zr_as (y := (nI on9)) hon ?_
  refine zr_if_neN 21 dX11_requireOn_7 (by decide) (by omega) (fun h7 => ?_) (fun h7 => ?_)
  · refine zr_vret dX11_requireOn_21 rfl ?_
    exact Or.inl ⟨by omega, rfl, rfl⟩
  · refine zr_throwW (k := 0) (sk := 9) dX11_requireOn_10 dX11_requireOn_13 dX11_requireOn_14 dX11_requireOn_17 dX11_requireOn_20 thX11_0 rfl rfl (by omega) (Nat.le_of_ble_eq_true rfl) hcx ?_
    exact Or.inr ⟨by omega, rfl, rfl⟩
