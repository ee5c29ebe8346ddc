/-! ===== LsmStore: calls (6) ===== -/
theorem nd_len {α : Type} [DecidableEq α] : ∀ {l t : List α}, l.Nodup → (∀ x ∈ l, x ∈ t) → l.length ≤ t.length
  | [], _, _, _ => Nat.zero_le _
  | a :: l, t, h, hs => by
    have h1 := List.nodup_cons.mp h
    have h2 := nd_len (t := t.erase a) h1.2 (fun x hx => (List.mem_erase_of_ne (fun e : x = a => h1.1 (by rw [← e]; exact hx))).mpr (hs x (List.mem_cons_of_mem _ hx)))
    have h3 := List.length_erase_of_mem (hs a List.mem_cons_self)
    have h4 := List.length_pos_of_mem (hs a List.mem_cons_self)
    rw [List.length_cons]
    omega
theorem rwl_b {f : Nat → Int32} {n b : Nat} (h : b ∈ rwl f n) : b < 256 := by
  unfold rwl at h
  obtain ⟨i, -, rfl⟩ := List.mem_map.mp h
  exact zb_lt _
theorem sem_mw {D : Nat → Int32} {E : List Nat} {Ls : Nat → List zF} {c n : Nat} {m : Mp} (h : Sem D E Ls c n m) (hs : Srt m) : Mw n m := by
  have hm : ∀ a ∈ m, ∃ q ∈ up E Ls 3, eky D q = a.1 ∧ eva D q = a.2 := fun a ha => by
    obtain ⟨e, he, h1, h2, h3, h4, _⟩ := (h.2.2.2.2 a.1 a.2).mpr ha
    obtain ⟨q, hq, rfl⟩ := List.mem_map.mp he
    exact ⟨q, hq, h1, h4⟩
  refine ⟨hs, ?_, fun a ha => ?_⟩
  · have h1 : (m.map (fun a => a.1)).Nodup := by
      refine List.pairwise_map.mpr (List.Pairwise.imp (fun {a b} hab e => ?_) hs)
      rw [e] at hab
      exact klt_irrefl _ hab
    have h2 := nd_len h1 (t := (up E Ls 3).map (eky D)) (fun x hx => by
      obtain ⟨a, ha, rfl⟩ := List.mem_map.mp hx
      obtain ⟨q, hq, e, -⟩ := hm a ha
      exact List.mem_map.mpr ⟨q, hq, e⟩)
    rw [List.length_map, List.length_map] at h2
    exact Nat.le_trans h2 h.2.2.2.1
  · obtain ⟨q, hq, e1, e2⟩ := hm a ha
    have hw := (h.2.2.1 q hq).1
    rw [← e1, ← e2]
    have l1 : (eky D q).length = ekl D q := rwl_len _ _
    have l2 : (eva D q).length = evl D q := rwl_len _ _
    rw [l1, l2]
    exact ⟨hw.2.1, hw.2.2.1, hw.2.2.2, fun b hb => rwl_b hb, fun b hb => rwl_b hb⟩
theorem MSets.szle : ∀ {ss : List Sp} {m m' : Mp}, MSets m ss m' → Srt m → (∀ s ∈ ss, s.2.1.length ≤ 32 ∧ s.2.2.length ≤ 200) → msz m' ≤ msz m + 240 * ss.length
  | [], m, m', h, _, _ => by cases h; exact Nat.le_refl _
  | s :: ss, m, m', h, hs, hb => by
    obtain ⟨m1, h1, h2⟩ := h
    have h3 := MSets.szle h2 (h1.srt hs) (fun x hx => hb x (List.mem_cons_of_mem _ hx))
    obtain ⟨x, y, e1, -, -, -, e2, e3⟩ := h1.sz hs
    have h4 := hb s List.mem_cons_self
    have h5 : y ≤ 240 := by
      cases ho : spo s with
      | none => rw [e3 ho]; decide
      | some v =>
        have hv : v.length ≤ 200 := by
          unfold spo at ho
          by_cases hc : s.1 = 1
          · rw [if_pos hc] at ho; cases ho; exact h4.2
          · rw [if_neg hc] at ho; cases ho
        rw [e2 v ho]; omega
    rw [List.length_cons]
    omega
theorem Bt.steps {ad : Nat → Nat} {M : zM} {offs : List Nat} {len : Nat} (h : Bt ad M offs len) : ∀ s ∈ offs.map (esp (zA M (ad 11))), s.2.1.length ≤ 32 ∧ s.2.2.length ≤ 200 := fun s hs => by
  obtain ⟨q, hq, rfl⟩ := List.mem_map.mp hs
  have hw := h.2.2.2.2.2 q hq
  have l1 : (eky (zA M (ad 11)) q).length = ekl (zA M (ad 11)) q := rwl_len _ _
  have l2 : (eva (zA M (ad 11)) q).length = evl (zA M (ad 11)) q := rwl_len _ _
  exact ⟨by show (eky (zA M (ad 11)) q).length ≤ 32; rw [l1]; exact hw.2.2.1, by show (eva (zA M (ad 11)) q).length ≤ 200; rw [l2]; exact hw.2.2.2⟩
theorem Fs.vw {ad : Nat → Nat} {k : Nat} {M M1 : zM} {v : Nat → Option Nat} (h : zVw M (ad 13) (ad 14) v) (hF : Fs ad k M M1) (e : zA M1 (ad 14) = zA M (ad 14)) : zVw M1 (ad 13) (ad 14) v := by
  obtain ⟨c1, c2, c3, c4, c5, c6⟩ := h
  obtain ⟨-, -, -, fR, -, fK, fN, -⟩ := hF
  exact ⟨by rw [fK]; exact c1, by rw [fR]; exact c2, by rw [fK]; exact c3, by rw [fN]; exact c4, fun i hi => by rw [e]; exact c5 i hi, c6⟩
theorem Fs.rw {ad : Nat → Nat} {k r rc cap : Nat} {L : List Nat} {M M1 : zM} (h : RwS ad M r rc L cap) (hF : Fs ad k M M1) (h1 : (r = 4 ∧ rc = 5) ∨ (r = 6 ∧ rc = 7)) : RwS ad M1 r rc L cap := by
  refine ⟨(hF.1 193 r (by omega) (fun z => by have := z.2 rfl; omega)).trans h.1, ?_, h.2.2⟩
  rw [hF.2.1 rc (by omega) (fun z => by omega)]
  exact h.2.1
/-- a commit is over -/
theorem fin_sa {ad : Nat → Nat} {n n1 tr : Nat} {M M1 M' : zM} {A : As} {E : List Nat} {Ls : Nat → List zF} {v : Nat → Option Nat} {ss : List Sp} {o : zOut} (hS : Sa ad M A n) (hon : aF A = 0) (hF : Fl ad 0 [2, 3, 4] [11, 12] [] M M1) (h4 : zI M1 4 (ad 10) = nI 0) (hvw : zVw M (ad 13) (ad 14) v) (hVs : Vws (zA M (ad 2)) E Ls v (aN A) (aC A)) (hn1 : n1 ≤ n + 1) (hn2 : Mw n (aM A)) (htr : tr ≤ 600 * n) (hFn : FnA ad M1 M' E Ls v (aW A) (aC A) n1 (600 * n) tr (aM A) (mset (aM A) ss) o) : Pst ad M n (sFin A ss) o M' := by
  obtain ⟨hL, hrm, hK, hV, hp, ht, hP, hMw, hcn⟩ := hS.1
  have hL1 := hF.lay hL
  have hcs := hF.cs
  have eD : zA M1 (ad 2) = zA M (ad 2) := hF.rA (i := 2) (by decide) (by decide)
  have hK1 := hK.fl hF
  have hV1 := hV.fl hF
  have hvw1 := hvw.fl hF
  have hsr := (mset_spec ss hMw.1).srt hMw.1
  rcases hFn with ⟨e0, hw, hFs, ⟨E', Ls', hOn, hvv⟩, ⟨lf, ct, du, cn, hPw⟩, h364, h365, ⟨t, ht1, ht2⟩, hpl, h14, h49⟩ | ⟨e0, hFs, hcs2, ⟨lf, ct, du, cn, hPw⟩, ⟨t, ht1, ht2⟩, hpl, h14⟩
  · have e9 : sFin A ss = ((mset (aM A) ss, aK A, aV A, [], 0, 0, aW A, aC A + 1, aN A), .inl (some (.int (nI (msz (mset (aM A) ss)))))) := by
      unfold sFin
      rw [if_neg (by omega), if_neg (by omega)]
    have hc2 := hFs.fk.cs
    rw [e9]
    refine ⟨e0, ⟨⟨hFs.fk.lay hL1, by omega, Fs.rw hK1 hFs (Or.inl ⟨rfl, rfl⟩), Fs.rw hV1 hFs (Or.inr ⟨rfl, rfl⟩), hpl, ⟨t, by omega, ht2⟩, ⟨lf, ct, du, cn, hPw⟩, ?_, by show aC A + 1 ≤ n + 1; omega⟩, Or.inl ⟨rfl, ⟨E', Ls', n1, v, hOn.mono (Nat.le_refl _) (by omega), hn1, Fs.vw hvw1 hFs h14, fun i w hi => ⟨Nat.le_succ_of_le (hVs.1 i w hi).1, (hVs.1 i w hi).2⟩, fun i hi => ?_⟩, h364, h365, h49.trans h4, by show 0 ≤ 1; decide, fun z => (by cases z), fun _ => rfl⟩⟩, 0, ?_⟩
    · obtain ⟨ar, us, to, to2, g, cm, rs, -, hU, -⟩ := hOn
      have := sem_mw hU.2.2.2.1 hsr
      exact ⟨this.1, Nat.le_trans this.2.1 hn1, this.2.2⟩
    · rcases hVs.2 i hi with z | ⟨w, ms, a1, a2, a3, a4⟩
      · exact Or.inl z
      · exact Or.inr ⟨w, ms, a1, a2, a3, fun k x => (hvv i w hi a1 k x).trans (by rw [eD]; exact a4 k x)⟩
    · exact hF.mono0.trans0 hFs.fk
  · have hc2 := hFs.fk.cs
    have hfk : Fk ad 1 M M' := hF.mono0.trans0 hFs.fk
    rcases hcs2 with ⟨hw, hO⟩ | ⟨hw, hO⟩
    · have e9 : sFin A ss = (fell A, .inr 2) := by unfold sFin; rw [if_pos hw]
      rw [e9]
      exact ⟨e0, ⟨⟨hFs.fk.lay hL1, by omega, Fs.rw hK1 hFs (Or.inl ⟨rfl, rfl⟩), Fs.rw hV1 hFs (Or.inr ⟨rfl, rfl⟩), hpl, ⟨t, by omega, ht2⟩, ⟨lf, ct, du, cn, hPw⟩, ⟨hMw.1, Nat.le_succ_of_le hMw.2.1, hMw.2.2⟩, Nat.le_succ_of_le hcn⟩, Or.inr ⟨rfl, hO.mono hn1 (by omega), ⟨v, Fs.vw hvw1 hFs h14⟩, rfl, rfl, fun _ => rfl⟩⟩, 1, hfk⟩
    · have e9 : sFin A ss = (fell (mset (aM A) ss, aK A, aV A, aS A, aO A, aF A, aW A, aC A + 1, aN A), .inr 2) := by unfold sFin; rw [if_neg (by omega), if_pos hw]
      rw [e9]
      refine ⟨e0, ⟨⟨hFs.fk.lay hL1, by omega, Fs.rw hK1 hFs (Or.inl ⟨rfl, rfl⟩), Fs.rw hV1 hFs (Or.inr ⟨rfl, rfl⟩), hpl, ⟨t, by omega, ht2⟩, ⟨lf, ct, du, cn, hPw⟩, ?_, by show aC A + 1 ≤ n + 1; omega⟩, Or.inr ⟨rfl, hO.mono hn1 (by omega), ⟨v, Fs.vw hvw1 hFs h14⟩, rfl, rfl, fun _ => rfl⟩⟩, 1, hfk⟩
      obtain ⟨⟨g, ar, us, cm, Ls', rs, E', hU⟩, -⟩ := hO
      have := sem_mw hU.2.2.2.1 hsr
      exact ⟨this.1, Nat.le_trans this.2.1 hn1, this.2.2⟩
theorem addM_fl {ad : Nat → Nat} {M : zM} (hL : Lay ad M) (k len kind kl iv : Nat) : Fl ad 0 [2, 3] [11, 12] [] M (addM ad M k len kind kl iv) := (((((Fl.refl ad _ _ _ M).setA hL (i := 12)).setA hL (i := 11)).put hL (f := 2) (i := 10)).put hL (f := 3) (i := 10))
set_option maxRecDepth 100000 in
set_option maxHeartbeats 4000000 in
theorem t_addStep {G : zG} {ad : Nat → Nat} {d k0 n0 kd len : Nat} {A : As} {M M1 : zM} {offs : List Nat} {Q : zOut → zM → Prop} (hd : 7 ≤ d) (hcb1 : zC M1 ≤ 600128 ∧ zS M1 ≤ 7301098) (hL1 : Lay ad M1) (hK : RwS ad M 4 5 (aK A) 32) (hV : RwS ad M 6 7 (aV A) 200) (hne : aK A ≠ []) (hkd : kd = 1 ∨ kd = 2) (hcx1 : zC M1 + 1 ≤ 600128 ∧ zS M1 + 6 ≤ 7301098) (hF1 : Fl ad 0 [2, 3] [11, 12] [] M M1) (hB1 : Bt ad M1 offs len) (hs1 : offs.map (esp (zA M1 (ad 11))) = aS A) (hlt : offs.length < 64) (hq0 : ∀ M', Fl ad 0 [2, 3] [11, 12] [] M M' → (∃ offs len, Bt ad M' offs len ∧ offs.map (esp (zA M' (ad 11))) = aS A ++ [(kd, aK A, if kd = 1 then aV A else [])]) → Q (.inl none) M')  : zw G mX11_addStep d k0 n0 Q 42 [some (.ref ((ad 0))), some (.int (nI kd))] [] M1 := by
  refine zr_aload_n dX11_addStep_42 rfl ?_
  refine zr_getR dX11_addStep_43 lkX11_34 (by decide) (by decide) rfl (hL1.K 0 12) (hL1.R 356 0 10) ?_
  refine zr_getI dX11_addStep_46 lkX11_126 (by decide) (by decide) rfl (hL1.K 10 1) ?_
  refine zr_as (y := (nI offs.length)) hB1.1 ?_
  refine zr_bipush (v := nI 64) dX11_addStep_49 (by decide) ?_
  refine zr_icmp_ltN 65 dX11_addStep_51 (by decide) (by omega) (by omega) (fun h51 => ?_) (fun h51 => ?_)
  · refine zr_aload_n dX11_addStep_65 rfl ?_
    refine zr_getR dX11_addStep_66 lkX11_34 (by decide) (by decide) rfl (hL1.K 0 12) (hL1.R 356 0 10) ?_
    refine zr_iload_n dX11_addStep_69 rfl ?_
    refine zr_aload_n dX11_addStep_70 rfl ?_
    refine zr_getR dX11_addStep_71 lkX11_21 (by decide) (by decide) rfl (hL1.K 0 12) (hL1.R 353 0 4) ?_
    refine zr_aload_n dX11_addStep_74 rfl ?_
    refine zr_getR dX11_addStep_75 lkX11_25 (by decide) (by decide) rfl (hL1.K 0 12) (hL1.R 354 0 6) ?_
    refine zr_callV (md' := mX0_add) (As := [.int (nI kd), .ref ((ad 4)), .ref ((ad 6))]) dX11_addStep_78 mlX11_274 okX0_add rfl inX0_add slX0_add (by decide) (hL1.K 10 1) rfl (by omega) (Nat.le_of_ble_eq_true rfl) hcb1 (c_Batch_add (d := d - 1) (kind := kd) (kl := (aK A).length) (vl := (aV A).length) (len := len) (offs := offs) (by omega) hcb1 hL1 hB1 ((hF1.rI (by decide) (by decide)).trans hK.1) ((hF1.rI (by decide) (by decide)).trans hV.1) hK.2.2 hV.2.2 hlt (by omega)) (fun k M1 h => by cases h.1) (fun v M2 hq => ?_)
    obtain ⟨e0, e2⟩ := hq
    cases e0
    refine zr_vret dX11_addStep_81 rfl ?_
    have hne9 : 1 ≤ (aK A).length := List.length_pos_iff.mpr hne
    obtain ⟨g1, g2, g3⟩ := Bt.add (kind := kd) (kl := (aK A).length) (vl := if kd = 1 then (aV A).length else 0) hL1 hB1 hK.2.2 hne9 (by have := hV.2.2; split <;> omega) hlt (by rcases hkd with z | z; exact Or.inl z; exact Or.inr ⟨z, by rw [if_neg (by omega)]⟩)
    rw [← e2] at g1 g2 g3
    refine hq0 M2 (hF1.trans0 (by rw [e2]; exact addM_fl hL1 _ _ _ _ _)) ⟨_, _, g1, ?_⟩
    rw [List.map_append, List.map_cons, List.map_nil, g2, List.map_congr_left g3, hs1, hF1.rA (i := 5) (by decide) (by decide), hF1.rA (i := 7) (by decide) (by decide), hK.2.1]
    congr 1
    congr 1
    congr 1
    by_cases hk1 : kd = 1
    · rw [if_pos hk1, if_pos hk1, hV.2.1]
    · rw [if_neg hk1, if_neg hk1]; rfl
  · refine zr_throwW (k := 0) (sk := 12) dX11_addStep_54 dX11_addStep_57 dX11_addStep_58 dX11_addStep_61 dX11_addStep_64 thX11_0 rfl rfl (by omega) (Nat.le_of_ble_eq_true rfl) hcx1 ?_
    exfalso; omega
set_option maxRecDepth 100000 in
set_option maxHeartbeats 4000000 in
theorem c_addStep {G : zG} {ad : Nat → Nat} {d n kd : Nat} {A : As} {M : zM} (hd : 8 ≤ d) (hS : Sa ad M A n) (hn : n < 64) (hkd : kd = 1 ∨ kd = 2)  : zMet G mX11_addStep d [.ref ((ad 0)), .int (nI kd)] M (fun o M' => (aF A = 1 ∧ o = .inr 0 ∧ M' = zthr M) ∨ (aF A = 0 ∧ aK A = [] ∧ o = .inr 1 ∧ M' = zthr M) ∨ (aF A = 0 ∧ aK A ≠ [] ∧ o = .inl none ∧ Fl ad 0 [2, 3] [11, 12] [] M M' ∧ ∃ offs len, Bt ad M' offs len ∧ offs.map (esp (zA M' (ad 11))) = aS A ++ [(kd, aK A, if kd = 1 then aV A else [])])) := by
  obtain ⟨hcb, hcx⟩ := hS.cb (by omega)
  obtain ⟨⟨hL, hrm, hK, hV, ⟨pl, hpl, hpr⟩, ⟨tr, htr, htr9⟩, ⟨lf, ct, du, cn, hP⟩, hMw, hcn⟩, hcase⟩ := id hS
  refine zMet_of (by decide +kernel) (Nat.le_of_ble_eq_true rfl) rfl hcb ?_
  show zw G mX11_addStep d _ _ _ 0 [some (.ref ((ad 0))), some (.int (nI kd))] [] M
  refine zr_aload_n dX11_addStep_0 rfl ?_
  refine zr_callV (md' := mX11_requireOn) (As := []) dX11_addStep_1 mlX11_108 okX11_requireOn rfl inX11_requireOn slX11_requireOn (by decide) (hL.K 0 12) rfl (by omega) (Nat.le_of_ble_eq_true rfl) hcb (c_requireOn (d := d - 1) (on9 := 1 - aF A) (by omega) hcb hcx hL hP.1 (by omega)) (fun k M9 h => zt_out rfl (by rcases h with ⟨_, h, _⟩ | ⟨h0, h, e9⟩; exact absurd h (by simp); cases h; exact Or.inl ⟨by have := hS.on; omega, rfl, e9⟩)) (fun v M9 hq => ?_)
  rcases hq with ⟨h0, e0, e9⟩ | ⟨_, e0, _⟩
  rotate_left
  · cases e0
  cases e0
  rw [e9]
  have hon : aF A = 0 := by have := hS.on; omega
  have hc9 := hcase.resolve_right (fun z => by have := z.1; omega)
  refine zr_aload_n dX11_addStep_4 rfl ?_
  refine zr_getR dX11_addStep_5 lkX11_21 (by decide) (by decide) rfl (hL.K 0 12) (hL.R 353 0 4) ?_
  refine zr_getI dX11_addStep_8 lkX11_172 (by decide) (by decide) rfl (hL.K 4 7) ?_
  refine zr_as (y := (nI ((aK A).length))) hK.1 ?_
  refine zr_if_neN 25 dX11_addStep_11 (by decide) (by have := hK.2.2; omega) (fun h11 => ?_) (fun h11 => ?_)
  · refine zr_aload_n dX11_addStep_25 rfl ?_
    refine zr_getR dX11_addStep_26 lkX11_34 (by decide) (by decide) rfl (hL.K 0 12) (hL.R 356 0 10) ?_
    refine zr_getI dX11_addStep_29 lkX11_111 (by decide) (by decide) rfl (hL.K 10 1) ?_
    refine zr_as (y := (nI (aO A))) hc9.2.2.2.2.1 ?_
    refine zr_if_neN 42 dX11_addStep_32 (by decide) (by have := hS.op; omega) (fun h32 => ?_) (fun h32 => ?_)
    · have hne : aK A ≠ [] := fun z => h11 (by rw [z]; rfl)
      have ho1 : aO A = 1 := by have := hS.op; omega
      obtain ⟨offs, len, hB, hss⟩ := hc9.2.2.2.2.2.2.1 ho1
      obtain ⟨E, Ls, n1, v, a1, a2, hvw, hVs⟩ := id hc9.2.1
      have hlt : offs.length < 64 := by have e := congrArg List.length hss; rw [List.length_map] at e; omega
      exact t_addStep (M := M) (by omega) hcb hL hK hV hne hkd hcx (Fl.refl ad _ _ _ M) hB hss hlt (fun M' z1 z2 => Or.inr (Or.inr ⟨hon, hne, rfl, z1, z2⟩))
    · refine zr_aload_n dX11_addStep_35 rfl ?_
      refine zr_getR dX11_addStep_36 lkX11_34 (by decide) (by decide) rfl (hL.K 0 12) (hL.R 356 0 10) ?_
      refine zr_callV (md' := mX0_start) (As := []) dX11_addStep_39 mlX11_120 okX0_start rfl inX0_start slX0_start (by decide) (hL.K 10 1) rfl (by omega) (Nat.le_of_ble_eq_true rfl) hcb (c_Batch_start (d := d - 1) hcb hL) (fun k M1 h => by cases h.1) (fun v M1 hq => ?_)
      obtain ⟨e0, e1⟩ := hq
      cases e0
      have hF1 : Fl ad 0 [2, 3] [11, 12] [] M M1 := by rw [e1]; exact ((Fl.refl ad _ _ _ M).put hL (f := 2) (i := 10)).put hL (f := 3) (i := 10)
      have hB1 : Bt ad M1 [] 2 := bt_nil (by rw [e1]; exact zput_ms (f := 3) (by decide) (zput_hit _ _ _ _)) (by rw [e1]; exact zput_hit _ _ _ _)
      have hs1 : ([] : List Nat).map (esp (zA M1 (ad 11))) = aS A := (hc9.2.2.2.2.2.2.2 (by have := hS.op; omega)).symm
      have hne : aK A ≠ [] := fun z => h11 (by rw [z]; rfl)
      exact t_addStep (M := M) (by omega) (hF1.cb hcb) (hF1.lay hL) hK hV hne hkd (by have := hF1.cs; omega) hF1 hB1 hs1 (by decide) (fun M' z1 z2 => Or.inr (Or.inr ⟨hon, hne, rfl, z1, z2⟩))
  · refine zr_throwW (k := 1) (sk := 11) dX11_addStep_14 dX11_addStep_17 dX11_addStep_18 dX11_addStep_21 dX11_addStep_24 thX11_1 rfl rfl (by omega) (Nat.le_of_ble_eq_true rfl) hcx ?_
    exact Or.inr (Or.inl ⟨hon, List.length_eq_zero_iff.mp h11, rfl, rfl⟩)
set_option maxRecDepth 100000 in
set_option maxHeartbeats 4000000 in
theorem a_put {G : zG} {ad : Nat → Nat} {d n : Nat} {A : As} {M : zM} (hd : 12 ≤ d) (hS : Sa ad M A n) (hn : n < 64)  : zMet G mX11_put d [.ref ((ad 0))] M (Pst ad M n (sAdd 1 A)) := by
  obtain ⟨hcb, hcx⟩ := hS.cb (by omega)
  obtain ⟨⟨hL, hrm, hK, hV, ⟨pl, hpl, hpr⟩, ⟨tr, htr, htr9⟩, ⟨lf, ct, du, cn, hP⟩, hMw, hcn⟩, hcase⟩ := id hS
  have hx0 : aF A = 1 → Pst ad M n (sAdd 1 A) (.inr 0) (zthr M) := fun z => by
    have e9 : sAdd 1 A = (A, .inr 0) := if_pos z
    rw [e9]
    exact ⟨rfl, hS.thr, 1, thr_fk ad M⟩
  have hx1 : aF A = 0 → aK A = [] → Pst ad M n (sAdd 1 A) (.inr 1) (zthr M) := fun z1 z2 => by
    have e9 : sAdd 1 A = (A, .inr 1) := by unfold sAdd; rw [if_neg (by omega), if_pos z2]
    rw [e9]
    exact ⟨rfl, hS.thr, 1, thr_fk ad M⟩
  refine zMet_of (by decide +kernel) (Nat.le_of_ble_eq_true rfl) rfl hcb ?_
  show zw G mX11_put d _ _ _ 0 [some (.ref ((ad 0)))] [] M
  refine zr_aload_n dX11_put_0 rfl ?_
  refine zr_iconst (v := nI 1) dX11_put_1 (by decide) ?_
  refine zr_callV (md' := mX11_addStep) (As := [.int (nI 1)]) dX11_put_2 mlX11_123 okX11_addStep rfl inX11_addStep slX11_addStep (by decide) (hL.K 0 12) rfl (by omega) (Nat.le_of_ble_eq_true rfl) hcb (c_addStep (d := d - 1) (kd := 1) (by omega) hS hn (by decide)) (fun k M9 h => zt_out rfl (by rcases h with ⟨h0, h, e9⟩ | ⟨h0, h1, h, e9⟩ | ⟨_, _, h, _⟩; cases h; rw [e9]; exact hx0 h0; cases h; rw [e9]; exact hx1 h0 h1; cases h)) (fun v M1 hq => ?_)
  rcases hq with ⟨_, e0, _⟩ | ⟨_, _, e0, _⟩ | ⟨hon, hne, e0, hF0, offs, len, hB1, hs1⟩
  · cases e0
  · cases e0
  cases e0
  have hc9 := hcase.resolve_right (fun z => by have := z.1; omega)
  have hF1 : Fl ad 0 [2, 3, 4] [11, 12] [] M M1 := hF0.mono
  have hL1 := hF1.lay hL
  have hcb1 := hF1.cb hcb
  have h4 : zI M1 4 (ad 10) = nI (aO A) := (hF0.rI (by decide) (by decide)).trans hc9.2.2.2.2.1
  obtain ⟨E, Ls, n1, v, a1, a2, hvw, hVs⟩ := id hc9.2.1
  have hcx1 : zC M1 + 1 ≤ 600128 ∧ zS M1 + 6 ≤ 7301098 := by have := hF1.cs; omega
  have hP1 := hP.fl hF1
  rw [show 1 - aF A = 1 by omega] at hP1
  refine zr_aload_n dX11_put_5 rfl ?_
  refine zr_getR dX11_put_6 lkX11_34 (by decide) (by decide) rfl (hL1.K 0 12) (hL1.R 356 0 10) ?_
  refine zr_getI dX11_put_9 lkX11_111 (by decide) (by decide) rfl (hL1.K 10 1) ?_
  refine zr_as (y := (nI (aO A))) h4 ?_
  refine zr_if_eqN 25 dX11_put_12 (by decide) (by have := hS.op; omega) (fun h12 => ?_) (fun h12 => ?_)
  · have ho0 : aO A = 0 := by have := hS.op; omega
    have hl1 : (aS A).length = 0 := by rw [hc9.2.2.2.2.2.2.2 ho0]; rfl
    have hlo : offs.length = 1 := by have e := congrArg List.length hs1; rw [List.length_map, List.length_append, hl1] at e; exact e
    have hm16 : msz (mset (aM A) (aS A ++ [(1, aK A, if 1 = 1 then aV A else [])])) ≤ 16000 := by
      obtain ⟨ar, us, to, to2, g, cm, rs, hO, hU, hB⟩ := id a1
      have g1 := (sem_mw hU.2.2.2.1 hMw.1).sz
      have g2 := (mset_spec (aS A ++ [(1, aK A, if 1 = 1 then aV A else [])]) hMw.1).szle hMw.1 (by rw [← hs1]; exact hB1.steps)
      have g3 := congrArg List.length hs1
      rw [List.length_map] at g3
      omega
    have hend : ∀ (o : zOut) (M9 : zM), FnA ad M1 M9 E Ls v (aW A) (aC A) (n1 + 1) (600 * n) tr (aM A) (mset (aM A) (aS A ++ [(1, aK A, if 1 = 1 then aV A else [])])) o → Pst ad M n (sAdd 1 A) o M9 := fun o M9 h => by
      have e9 : sAdd 1 A = sFin A (aS A ++ [(1, aK A, if 1 = 1 then aV A else [])]) := by
        unfold sAdd
        rw [if_neg (by omega), if_neg hne, if_neg (by omega), hc9.2.2.2.2.2.2.2 ho0]
        rfl
      rw [e9]
      exact fin_sa hS hon hF1 (by rw [h4, ho0]) hvw hVs (by omega) hMw htr h
    refine zr_aload_n dX11_put_25 rfl ?_
    refine zr_callV (md' := mX11_finish) (As := []) dX11_put_26 mlX11_130 okX11_finish rfl inX11_finish slX11_finish (by decide) (hL1.K 0 12) rfl (by omega) (Nat.le_of_ble_eq_true rfl) hcb1 (c_finish (d := d - 1) (n1 := n1 + 1) (tr := tr) (m1 := mset (aM A) (aS A ++ [(1, aK A, if 1 = 1 then aV A else [])])) (pl := pl) (by omega) hcb1 hcx1 hL1 (a1.fl hF1) hP1 (hvw.fl hF1) (fun i w hi => (hVs.1 i w hi).1) (by omega) (by omega) ((hF1.rI (by decide) (by decide)).trans htr9) hB1 ((hF1.rI (by decide) (by decide)).trans hc9.2.2.1) ((hF1.rI (by decide) (by decide)).trans hc9.2.2.2.1) hpl ((hF1.rI (by decide) (by decide)).trans hpr) (by rw [hs1]; exact mset_spec _ hMw.1) hMw.1 hm16 (by omega) (by omega) (by omega) (by omega)) (fun k M9 h => zt_out rfl (hend _ _ h)) (fun v9 M2 hq => ?_)
    have hqq := hend _ _ hq
    obtain ⟨x9, rfl⟩ : ∃ x, v9 = some (.int x) := by
      rcases hq with ⟨h, _⟩ | ⟨h, _⟩
      · exact ⟨_, by cases h; rfl⟩
      · cases h
    refine zr_iret dX11_put_29 rfl ?_
    exact hqq
  · refine zr_aload_n dX11_put_15 rfl ?_
    refine zr_getR dX11_put_16 lkX11_34 (by decide) (by decide) rfl (hL1.K 0 12) (hL1.R 356 0 10) ?_
    refine zr_getI dX11_put_19 lkX11_126 (by decide) (by decide) rfl (hL1.K 10 1) ?_
    refine zr_as (y := (nI offs.length)) hB1.1 ?_
    refine zr_goto 29 dX11_put_22 (by decide) ?_
    have ho1 : aO A = 1 := by have := hS.op; omega
    refine zr_iret dX11_put_29 rfl ?_
    have e9 : sAdd 1 A = ((aM A, aK A, aV A, aS A ++ [(1, aK A, if 1 = 1 then aV A else [])], 1, 0, aW A, aC A, aN A), .inl (some (.int (nI ((aS A).length + 1))))) := by
      unfold sAdd
      rw [if_neg (by omega), if_neg hne, if_pos ho1]
    rw [e9]
    have hlo : offs.length = (aS A).length + 1 := by have e := congrArg List.length hs1; rw [List.length_map, List.length_append] at e; exact e
    refine ⟨by rw [hlo], ?_, 0, hF0.mono0⟩
    have h9 := hS.bt hon hF0 (by decide) (ss := aS A ++ [(1, aK A, if 1 = 1 then aV A else [])]) (op := 1) (hl := by rw [List.length_append]; exact Nat.le_refl _) (h4 := h4.trans (by rw [ho1])) (ho := by decide) (hb := fun _ => ⟨offs, len, hB1, hs1⟩) (hz := fun z => by cases z)
    rw [hon] at h9
    exact h9
set_option maxRecDepth 100000 in
set_option maxHeartbeats 4000000 in
theorem a_remove {G : zG} {ad : Nat → Nat} {d n : Nat} {A : As} {M : zM} (hd : 12 ≤ d) (hS : Sa ad M A n) (hn : n < 64)  : zMet G mX11_remove d [.ref ((ad 0))] M (Pst ad M n (sAdd 2 A)) := by
  obtain ⟨hcb, hcx⟩ := hS.cb (by omega)
  obtain ⟨⟨hL, hrm, hK, hV, ⟨pl, hpl, hpr⟩, ⟨tr, htr, htr9⟩, ⟨lf, ct, du, cn, hP⟩, hMw, hcn⟩, hcase⟩ := id hS
  have hx0 : aF A = 1 → Pst ad M n (sAdd 2 A) (.inr 0) (zthr M) := fun z => by
    have e9 : sAdd 2 A = (A, .inr 0) := if_pos z
    rw [e9]
    exact ⟨rfl, hS.thr, 1, thr_fk ad M⟩
  have hx1 : aF A = 0 → aK A = [] → Pst ad M n (sAdd 2 A) (.inr 1) (zthr M) := fun z1 z2 => by
    have e9 : sAdd 2 A = (A, .inr 1) := by unfold sAdd; rw [if_neg (by omega), if_pos z2]
    rw [e9]
    exact ⟨rfl, hS.thr, 1, thr_fk ad M⟩
  refine zMet_of (by decide +kernel) (Nat.le_of_ble_eq_true rfl) rfl hcb ?_
  show zw G mX11_remove d _ _ _ 0 [some (.ref ((ad 0)))] [] M
  refine zr_aload_n dX11_remove_0 rfl ?_
  refine zr_iconst (v := nI 2) dX11_remove_1 (by decide) ?_
  refine zr_callV (md' := mX11_addStep) (As := [.int (nI 2)]) dX11_remove_2 mlX11_123 okX11_addStep rfl inX11_addStep slX11_addStep (by decide) (hL.K 0 12) rfl (by omega) (Nat.le_of_ble_eq_true rfl) hcb (c_addStep (d := d - 1) (kd := 2) (by omega) hS hn (by decide)) (fun k M9 h => zt_out rfl (by rcases h with ⟨h0, h, e9⟩ | ⟨h0, h1, h, e9⟩ | ⟨_, _, h, _⟩; cases h; rw [e9]; exact hx0 h0; cases h; rw [e9]; exact hx1 h0 h1; cases h)) (fun v M1 hq => ?_)
  rcases hq with ⟨_, e0, _⟩ | ⟨_, _, e0, _⟩ | ⟨hon, hne, e0, hF0, offs, len, hB1, hs1⟩
  · cases e0
  · cases e0
  cases e0
  have hc9 := hcase.resolve_right (fun z => by have := z.1; omega)
  have hF1 : Fl ad 0 [2, 3, 4] [11, 12] [] M M1 := hF0.mono
  have hL1 := hF1.lay hL
  have hcb1 := hF1.cb hcb
  have h4 : zI M1 4 (ad 10) = nI (aO A) := (hF0.rI (by decide) (by decide)).trans hc9.2.2.2.2.1
  obtain ⟨E, Ls, n1, v, a1, a2, hvw, hVs⟩ := id hc9.2.1
  have hcx1 : zC M1 + 1 ≤ 600128 ∧ zS M1 + 6 ≤ 7301098 := by have := hF1.cs; omega
  have hP1 := hP.fl hF1
  rw [show 1 - aF A = 1 by omega] at hP1
  refine zr_aload_n dX11_remove_5 rfl ?_
  refine zr_getR dX11_remove_6 lkX11_34 (by decide) (by decide) rfl (hL1.K 0 12) (hL1.R 356 0 10) ?_
  refine zr_getI dX11_remove_9 lkX11_111 (by decide) (by decide) rfl (hL1.K 10 1) ?_
  refine zr_as (y := (nI (aO A))) h4 ?_
  refine zr_if_eqN 25 dX11_remove_12 (by decide) (by have := hS.op; omega) (fun h12 => ?_) (fun h12 => ?_)
  · have ho0 : aO A = 0 := by have := hS.op; omega
    have hl1 : (aS A).length = 0 := by rw [hc9.2.2.2.2.2.2.2 ho0]; rfl
    have hlo : offs.length = 1 := by have e := congrArg List.length hs1; rw [List.length_map, List.length_append, hl1] at e; exact e
    have hm16 : msz (mset (aM A) (aS A ++ [(2, aK A, if 2 = 1 then aV A else [])])) ≤ 16000 := by
      obtain ⟨ar, us, to, to2, g, cm, rs, hO, hU, hB⟩ := id a1
      have g1 := (sem_mw hU.2.2.2.1 hMw.1).sz
      have g2 := (mset_spec (aS A ++ [(2, aK A, if 2 = 1 then aV A else [])]) hMw.1).szle hMw.1 (by rw [← hs1]; exact hB1.steps)
      have g3 := congrArg List.length hs1
      rw [List.length_map] at g3
      omega
    have hend : ∀ (o : zOut) (M9 : zM), FnA ad M1 M9 E Ls v (aW A) (aC A) (n1 + 1) (600 * n) tr (aM A) (mset (aM A) (aS A ++ [(2, aK A, if 2 = 1 then aV A else [])])) o → Pst ad M n (sAdd 2 A) o M9 := fun o M9 h => by
      have e9 : sAdd 2 A = sFin A (aS A ++ [(2, aK A, if 2 = 1 then aV A else [])]) := by
        unfold sAdd
        rw [if_neg (by omega), if_neg hne, if_neg (by omega), hc9.2.2.2.2.2.2.2 ho0]
        rfl
      rw [e9]
      exact fin_sa hS hon hF1 (by rw [h4, ho0]) hvw hVs (by omega) hMw htr h
    refine zr_aload_n dX11_remove_25 rfl ?_
    refine zr_callV (md' := mX11_finish) (As := []) dX11_remove_26 mlX11_130 okX11_finish rfl inX11_finish slX11_finish (by decide) (hL1.K 0 12) rfl (by omega) (Nat.le_of_ble_eq_true rfl) hcb1 (c_finish (d := d - 1) (n1 := n1 + 1) (tr := tr) (m1 := mset (aM A) (aS A ++ [(2, aK A, if 2 = 1 then aV A else [])])) (pl := pl) (by omega) hcb1 hcx1 hL1 (a1.fl hF1) hP1 (hvw.fl hF1) (fun i w hi => (hVs.1 i w hi).1) (by omega) (by omega) ((hF1.rI (by decide) (by decide)).trans htr9) hB1 ((hF1.rI (by decide) (by decide)).trans hc9.2.2.1) ((hF1.rI (by decide) (by decide)).trans hc9.2.2.2.1) hpl ((hF1.rI (by decide) (by decide)).trans hpr) (by rw [hs1]; exact mset_spec _ hMw.1) hMw.1 hm16 (by omega) (by omega) (by omega) (by omega)) (fun k M9 h => zt_out rfl (hend _ _ h)) (fun v9 M2 hq => ?_)
    have hqq := hend _ _ hq
    obtain ⟨x9, rfl⟩ : ∃ x, v9 = some (.int x) := by
      rcases hq with ⟨h, _⟩ | ⟨h, _⟩
      · exact ⟨_, by cases h; rfl⟩
      · cases h
    refine zr_iret dX11_remove_29 rfl ?_
    exact hqq
  · refine zr_aload_n dX11_remove_15 rfl ?_
    refine zr_getR dX11_remove_16 lkX11_34 (by decide) (by decide) rfl (hL1.K 0 12) (hL1.R 356 0 10) ?_
    refine zr_getI dX11_remove_19 lkX11_126 (by decide) (by decide) rfl (hL1.K 10 1) ?_
    refine zr_as (y := (nI offs.length)) hB1.1 ?_
    refine zr_goto 29 dX11_remove_22 (by decide) ?_
    have ho1 : aO A = 1 := by have := hS.op; omega
    refine zr_iret dX11_remove_29 rfl ?_
    have e9 : sAdd 2 A = ((aM A, aK A, aV A, aS A ++ [(2, aK A, if 2 = 1 then aV A else [])], 1, 0, aW A, aC A, aN A), .inl (some (.int (nI ((aS A).length + 1))))) := by
      unfold sAdd
      rw [if_neg (by omega), if_neg hne, if_pos ho1]
    rw [e9]
    have hlo : offs.length = (aS A).length + 1 := by have e := congrArg List.length hs1; rw [List.length_map, List.length_append] at e; exact e
    refine ⟨by rw [hlo], ?_, 0, hF0.mono0⟩
    have h9 := hS.bt hon hF0 (by decide) (ss := aS A ++ [(2, aK A, if 2 = 1 then aV A else [])]) (op := 1) (hl := by rw [List.length_append]; exact Nat.le_refl _) (h4 := h4.trans (by rw [ho1])) (ho := by decide) (hb := fun _ => ⟨offs, len, hB1, hs1⟩) (hz := fun z => by cases z)
    rw [hon] at h9
    exact h9
set_option maxRecDepth 100000 in
set_option maxHeartbeats 4000000 in
theorem a_commit {G : zG} {ad : Nat → Nat} {d n : Nat} {A : As} {M : zM} (hd : 12 ≤ d) (hS : Sa ad M A n) (hn : n < 64)  : zMet G mX11_commit d [.ref ((ad 0))] M (Pst ad M n (sCommit A)) := by
  obtain ⟨hcb, hcx⟩ := hS.cb (by omega)
  obtain ⟨⟨hL, hrm, hK, hV, ⟨pl, hpl, hpr⟩, ⟨tr, htr, htr9⟩, ⟨lf, ct, du, cn, hP⟩, hMw, hcn⟩, hcase⟩ := id hS
  have hoff : (1 - aF A = 0 ∨ zI M 4 (ad 10) = nI 0) → Pst ad M n (sCommit A) (.inr 0) (zthr M) := fun z => by
    have hz : aF A = 1 ∨ aO A = 0 := by
      have a1 := hS.on
      rcases z with z | z
      · exact Or.inl (by omega)
      · rcases (show aF A = 1 ∨ aF A = 0 by omega) with y | y
        · exact Or.inl y
        · exact Or.inr (((op_of hS).2 (by omega)).mp z)
    have e9 : (sCommit A) = (A, .inr 0) := if_pos hz
    rw [e9]
    exact ⟨rfl, hS.thr, 1, thr_fk ad M⟩
  refine zMet_of (by decide +kernel) (Nat.le_of_ble_eq_true rfl) rfl hcb ?_
  show zw G mX11_commit d _ _ _ 0 [some (.ref ((ad 0)))] [] M
  refine zr_aload_n dX11_commit_0 rfl ?_
  refine zr_callV (md' := mX11_requireBatch) (As := []) dX11_commit_1 mlX11_134 okX11_requireBatch rfl inX11_requireBatch slX11_requireBatch (by decide) (hL.K 0 12) rfl (by omega) (Nat.le_of_ble_eq_true rfl) hcb (c_requireBatch (d := d - 1) (on9 := 1 - aF A) (by omega) hcb hcx hL hP.1 (by omega) (op_of hS).1) (fun k M9 h => zt_out rfl (by rcases h with ⟨_, _, h, _⟩ | ⟨h0, h, e9⟩; exact absurd h (by simp); cases h; rw [e9]; exact hoff h0)) (fun v M9 hq => ?_)
  rcases hq with ⟨h0, h1, e0, e9⟩ | ⟨_, e0, _⟩
  rotate_left
  · cases e0
  cases e0
  rw [e9]
  have hon : aF A = 0 := by have := hS.on; omega
  have hop : aO A = 1 := by have a1 := hS.op; rcases (show aO A = 0 ∨ aO A = 1 by omega) with z | z; exact absurd (((op_of hS).2 h0).mpr z) h1; exact z
  have hc9 := hcase.resolve_right (fun z => by have := z.1; omega)
  obtain ⟨offs, len, hB, hss⟩ := hc9.2.2.2.2.2.2.1 hop
  refine zr_aload_n dX11_commit_4 rfl ?_
  refine zr_getR dX11_commit_5 lkX11_34 (by decide) (by decide) rfl (hL.K 0 12) (hL.R 356 0 10) ?_
  refine zr_iconst (v := nI 0) dX11_commit_8 (by decide) ?_
  refine zr_putZ dX11_commit_9 lkX11_111 (by decide) (by decide) rfl rfl (Or.inl rfl) (hL.K 10 1) ?_
  obtain ⟨M1, e1⟩ : ∃ z, z = zput M 4 (ad 10) (nI 0) := ⟨_, rfl⟩
  rw [← e1]
  have hF1 : Fl ad 0 [2, 3, 4] [11, 12] [] M M1 := by rw [e1]; exact (Fl.refl ad _ _ _ M).put hL (f := 4) (i := 10)
  have hFb : Fl ad 0 [4] [] [] M M1 := by rw [e1]; exact (Fl.refl ad _ _ _ M).put hL (f := 4) (i := 10)
  have hB1 := hB.fl hFb
  have hs1 : offs.map (esp (zA M1 (ad 11))) = aS A := by rw [hFb.rA (i := 11) (by decide) (by decide)]; exact hss
  have hL1 := hF1.lay hL
  have hcb1 := hF1.cb hcb
  have h4 : zI M1 4 (ad 10) = nI 0 := by rw [e1]; exact zput_hit _ _ _ _
  obtain ⟨E, Ls, n1, v, a1, a2, hvw, hVs⟩ := id hc9.2.1
  have hcx1 : zC M1 + 1 ≤ 600128 ∧ zS M1 + 6 ≤ 7301098 := by have := hF1.cs; omega
  have hP1 := hP.fl hF1
  rw [show 1 - aF A = 1 by omega] at hP1
  have hlo : offs.length = (aS A).length := by have e := congrArg List.length hs1; rw [List.length_map] at e; exact e
  have hm16 : msz (mset (aM A) (aS A)) ≤ 16000 := by
    obtain ⟨ar, us, to, to2, g, cm, rs, hO, hU, hB⟩ := id a1
    have g1 := (sem_mw hU.2.2.2.1 hMw.1).sz
    have g2 := (mset_spec (aS A) hMw.1).szle hMw.1 (by rw [← hs1]; exact hB1.steps)
    have g3 := congrArg List.length hs1
    rw [List.length_map] at g3
    omega
  have hend : ∀ (o : zOut) (M9 : zM), FnA ad M1 M9 E Ls v (aW A) (aC A) (n1 + (aS A).length + 1) (600 * n) tr (aM A) (mset (aM A) (aS A)) o → Pst ad M n (sCommit A) o M9 := fun o M9 h => by
    have e9 : sCommit A = sFin A (aS A) := if_neg (by omega)
    rw [e9]
    exact fin_sa hS hon hF1 h4 hvw hVs (by omega) hMw htr h
  refine zr_aload_n dX11_commit_12 rfl ?_
  refine zr_callV (md' := mX11_finish) (As := []) dX11_commit_13 mlX11_130 okX11_finish rfl inX11_finish slX11_finish (by decide) (hL1.K 0 12) rfl (by omega) (Nat.le_of_ble_eq_true rfl) hcb1 (c_finish (d := d - 1) (n1 := n1 + (aS A).length + 1) (tr := tr) (m1 := mset (aM A) (aS A)) (pl := pl) (by omega) hcb1 hcx1 hL1 (a1.fl hF1) hP1 (hvw.fl hF1) (fun i w hi => (hVs.1 i w hi).1) (by omega) (by omega) ((hF1.rI (by decide) (by decide)).trans htr9) hB1 ((hF1.rI (by decide) (by decide)).trans hc9.2.2.1) ((hF1.rI (by decide) (by decide)).trans hc9.2.2.2.1) hpl ((hF1.rI (by decide) (by decide)).trans hpr) (by rw [hs1]; exact mset_spec _ hMw.1) hMw.1 hm16 (by omega) (by omega) (by omega) (by omega)) (fun k M9 h => zt_out rfl (hend _ _ h)) (fun v9 M2 hq => ?_)
  have hqq := hend _ _ hq
  obtain ⟨x9, rfl⟩ : ∃ x, v9 = some (.int x) := by
    rcases hq with ⟨h, _⟩ | ⟨h, _⟩
    · exact ⟨_, by cases h; rfl⟩
    · cases h
  refine zr_iret dX11_commit_16 rfl ?_
  exact hqq
