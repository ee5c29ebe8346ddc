/-! ===== LsmStore.load, recount ===== -/
/-- while the levels are emptied -/
def LE (ad : Nat → Nat) (M M1 : zM) (k : Nat) : Prop := Fl ad 0 [131, 132, 133] [] [] M M1 ∧ ∀ l, l < k → zI M1 131 (ad (32 + l)) = nI 0
theorem LE.step {ad : Nat → Nat} {M M1 M2 : zM} {k : Nat} (hL : Lay ad M1) (h : LE ad M M1 k) (hk : k < 3) (hM : M2 = pkM ad (zput M1 131 (ad (32 + k)) (nI 0)) k 0 0) : LE ad M M2 (k + 1) := by
  have hF : Fl ad 0 [131, 132, 133] [] [] M1 M2 := by rw [hM]; exact (((Fl.refl ad _ _ _ M1).put hL (f := 131) (i := 32 + k) (by decide) (by omega)).put hL (f := 132) (i := 32 + k) (by decide) (by omega)).put hL (f := 133) (i := 32 + k) (by decide) (by omega)
  refine ⟨h.1.trans0 hF, fun l hl => ?_⟩
  rw [hM]
  refine zput_ms (f := 133) (by decide) (zput_ms (f := 132) (by decide) ?_)
  rcases Nat.lt_or_ge l k with e | e
  · exact zput_ma (f := 131) (hL.ne (by omega)) (h.2 l e)
  · rw [show l = k by omega]; exact zput_hit _ _ _ _
/-- behind the load: on, the end of the log not known to be blank -/
def LdA (ad : Nat → Nat) (M M' : zM) (c n gm : Nat) (m : Mp) : Prop := Fl ad 0 [68, 69, 70, 99, 100, 101, 102, 131, 132, 133, 162, 163, 164, 165, 166, 258, 259, 260, 366] [16, 18, 64] [35, 36, 37] M M' ∧ ∃ (E : List Nat) (Ls : Nat → List zF), Onn ad M' E Ls c n gm 0 m
theorem ids_nd {Fs : Nat → List zF} (h1 : ∀ a b, a < 3 → b < 3 → a ≠ b → ∀ f ∈ Fs a, ∀ g ∈ Fs b, f.1 ≠ g.1) (h2 : ∀ k, k < 3 → ((Fs k).map (·.1)).Nodup) : (idn Fs).Nodup := by
  unfold idn
  show (((([] ++ Fs 0) ++ Fs 1) ++ Fs 2).map (fun f : zF => f.1)).Nodup
  rw [List.nil_append, List.map_append, List.map_append]
  refine List.nodup_append.mpr ⟨List.nodup_append.mpr ⟨h2 0 (by decide), h2 1 (by decide), fun a ha b hb => ?_⟩, h2 2 (by decide), fun a ha b hb => ?_⟩
  · obtain ⟨f, hf, rfl⟩ := List.mem_map.mp ha
    obtain ⟨g, hg, rfl⟩ := List.mem_map.mp hb
    exact h1 0 1 (by decide) (by decide) (by decide) f hf g hg
  · obtain ⟨g, hg, rfl⟩ := List.mem_map.mp hb
    rcases List.mem_append.mp ha with ha | ha
    · obtain ⟨f, hf, rfl⟩ := List.mem_map.mp ha
      exact h1 0 2 (by decide) (by decide) (by decide) f hf g hg
    · obtain ⟨f, hf, rfl⟩ := List.mem_map.mp ha
      exact h1 1 2 (by decide) (by decide) (by decide) f hf g hg
/-- the memory behind Head.load -/
def HL (ad : Nat → Nat) (M M3 : zM) (g ar cm : Nat) (Fs : Nat → List zF) : Prop := Fl ad 0 [68, 69, 70, 99, 100, 101, 102, 131, 132, 133, 258, 259, 260] [18, 64] [35, 36, 37] M M3 ∧ (∀ l, l < 3 → Lv ad M3 l (Fs l)) ∧ (∃ tk, Tk ad M3 tk ∧ tk.Perm (bks Fs 3)) ∧ (∃ uu, Us ad M3 uu ∧ uu.Perm (idn Fs)) ∧ Rt ad M3 [] ∧ zI M3 100 (ad 30) = nI g ∧ zI M3 101 (ad 30) = nI ar ∧ zI M3 102 (ad 30) = nI cm
set_option maxRecDepth 100000 in
set_option maxHeartbeats 4000000 in
theorem t_load44 {G : zG} {ad : Nat → Nat} {d k0 n0 c n gm g ar us cm : Nat} {Ls : Nat → List zF} {rs : List (List Nat)} {E : List Nat} {m : Mp} {M : zM} {Q : zOut → zM → Prop} (hd : 6 ≤ d) (hcb : zC M ≤ 600128 ∧ zS M ≤ 7301098) (hL : Lay ad M) (hU : Dur (zA M (ad 2)) g ar us cm c n gm Ls rs E m) (hm : Msc ad M) (hn : n ≤ 64) (hgm : gm ≤ 2 ^ 28) {i : Nat} {Fs : Nat → List zF} {M3 : zM} (hq0 : ∀ M' : zM, LdA ad M M' c n gm m → Q (.inl none) M') (h2 : ∀ l, l < 3 → (Fs l).map (·.2) = (Ls l).map (·.2)) (hH : HL ad M M3 g ar cm Fs) : zw G mX11_load d k0 n0 Q 44 [some (.ref ((ad 0))), some (.int (nI i))] [] M3 := by
  obtain ⟨hF3, hV3, ⟨tk, t1, t2⟩, ⟨uu, u1, u2⟩, hRt, h100, h101, h102⟩ := id hH
  have hL3 := hF3.lay hL
  have hcb3 := hF3.cb hcb
  have har := hU.1.1
  refine zr_aload_n dX11_load_44 rfl ?_
  refine zr_getR dX11_load_45 lkX11_50 (by decide) (by decide) rfl (hL3.K 0 12) (hL3.R 358 0 15) ?_
  refine zr_aload_n dX11_load_48 rfl ?_
  refine zr_getR dX11_load_49 lkX11_86 (by decide) (by decide) rfl (hL3.K 0 12) (hL3.R 363 0 30) ?_
  refine zr_getI dX11_load_52 lkX11_345 (by decide) (by decide) rfl (hL3.K 30 4) ?_
  refine zr_as (y := (nI ar)) h101 ?_
  refine zr_callV (md' := mX5_open) (As := [.int (nI ar)]) dX11_load_55 mlX11_348 okX5_open rfl inX5_open slX5_open (by decide) (hL3.K 15 6) rfl (by omega) (Nat.le_of_ble_eq_true rfl) hcb3 (c_Log_open (d := d - 1) (ar := ar) hcb3 hL3 har) (fun k M1 h => by cases h.1) (fun v M4 hq => ?_)
  obtain ⟨e0, e4⟩ := hq
  cases e0
  have hF4 : Fl ad 0 [162, 163, 164, 165, 166] [] [] M3 M4 := by rw [e4]; exact (((((Fl.refl ad _ _ _ M3).put hL3 (f := 164) (i := 15)).put hL3 (f := 162) (i := 15)).put hL3 (f := 163) (i := 15)).put hL3 (f := 165) (i := 15)).put hL3 (f := 166) (i := 15)
  have hL4 := hF4.lay hL3
  have hcb4 := hF4.cb hcb3
  have eD4 : zA M4 (ad 2) = zA M (ad 2) := (hF4.rA (by decide) (by decide)).trans (hF3.rA (by decide) (by decide))
  have g164 : zI M4 164 (ad 15) = nI ar := by rw [e4]; exact zput_ms (f := 166) (by decide) (zput_ms (f := 165) (by decide) (zput_ms (f := 163) (by decide) (zput_ms (f := 162) (by decide) (zput_hit _ _ _ _))))
  have g162 : zI M4 162 (ad 15) = nI 0 := by rw [e4]; exact zput_ms (f := 166) (by decide) (zput_ms (f := 165) (by decide) (zput_ms (f := 163) (by decide) (zput_hit _ _ _ _)))
  have g163 : zI M4 163 (ad 15) = nI 0 := by rw [e4]; exact zput_ms (f := 166) (by decide) (zput_ms (f := 165) (by decide) (zput_hit _ _ _ _))
  have g165 : zI M4 165 (ad 15) = nI 36 := by rw [e4]; exact zput_ms (f := 166) (by decide) (zput_hit _ _ _ _)
  have g166 : zI M4 166 (ad 15) = nI 36 := by rw [e4]; exact zput_hit _ _ _ _
  have h102b : zI M4 102 (ad 30) = nI cm := (hF4.rI (by decide) (by decide)).trans h102
  have hlg := hU.2.2.1
  refine zr_aload_n dX11_load_58 rfl ?_
  refine zr_aload_n dX11_load_59 rfl ?_
  refine zr_getR dX11_load_60 lkX11_86 (by decide) (by decide) rfl (hL4.K 0 12) (hL4.R 363 0 30) ?_
  refine zr_getI dX11_load_63 lkX11_350 (by decide) (by decide) rfl (hL4.K 30 4) ?_
  refine zr_as (y := (nI cm)) h102b ?_
  refine zr_aload_n dX11_load_66 rfl ?_
  refine zr_getR dX11_load_67 lkX11_50 (by decide) (by decide) rfl (hL4.K 0 12) (hL4.R 358 0 15) ?_
  refine zr_callV (md' := mX5_replay) (As := []) dX11_load_70 mlX11_351 okX5_replay rfl inX5_replay slX5_replay (by decide) (hL4.K 15 6) rfl (by omega) (Nat.le_of_ble_eq_true rfl) hcb4 (c_Log_replay (d := d - 1) (ar := ar) (e := us) (rs := rs) (E := []) (by omega) hcb4 hL4 ⟨g162, by decide, fun i q hq => by simp at hq⟩ g164 har g163 (fun q hq => by cases hq) List.Pairwise.nil (by rw [eD4]; exact hlg.1) (by rw [eD4]; exact hlg.2.1) (by rw [eD4]; exact hlg.2.2.1) (by have := hlg.2.2.2.2.2.1; simp; omega) (by have := hlg.2.2.2.2.2.2; omega)) (fun k M9 h => by cases h.1) (fun v M5 hq => ?_)
  obtain ⟨e0, gi, E1, e5, v1, v2⟩ := hq
  cases e0
  rw [eD4] at v1
  have hF5 : Fl ad 0 [162, 163] [16] [] M4 M5 := by rw [e5]; exact ((((Fl.refl ad _ _ _ M4).setA hL4 (i := 16)).put hL4 (f := 162) (i := 15)).put hL4 (f := 163) (i := 15))
  have hL5 := hF5.lay hL4
  obtain ⟨f1, f2, f3⟩ := v1.facts (fun q hq => by cases hq) List.Pairwise.nil hlg.2.2.1
  obtain ⟨f4, f5, f6⟩ := hlg.2.2.2.1.facts (fun q hq => by cases hq) List.Pairwise.nil hlg.2.2.1
  have eE : E1 = E := pre_ext f2 f5 (v1.uniq hlg.2.2.2.1 (fun _ => Iff.rfl))
  subst eE
  refine zr_iaddN dX11_load_73 ?_
  refine zr_putI dX11_load_74 lkX11_137 (by decide) (by decide) rfl rfl (hL5.K 0 12) ?_
  refine zr_vret dX11_load_77 rfl ?_
  have e9 : cm + rs.length = c := hU.2.2.2.2.1.symm
  rw [e9]
  obtain ⟨M6, e6⟩ : ∃ z, z = zput M5 366 (ad 0) (nI c) := ⟨_, rfl⟩
  rw [← e6]
  have hF6 : Fl ad 0 [366] [] [] M5 M6 := by rw [e6]; exact (Fl.refl ad _ _ _ M5).put hL5 (f := 366) (i := 0)
  have hF46 : Fl ad 0 [162, 163, 366] [16] [] M4 M6 := hF5.mono.trans0 hF6.mono
  have hF36 : Fl ad 0 [162, 163, 164, 165, 166, 366] [16] [] M3 M6 := hF4.mono.trans0 hF46.mono
  have eD6 : zA M6 (ad 2) = zA M (ad 2) := (hF46.rA (by decide) (by decide)).trans eD4
  have hU6 : Dur (zA M6 (ad 2)) g ar us cm c n gm Fs rs E1 m := by rw [eD6]; exact Dur_2 h2 hU
  refine hq0 M6 ⟨hF3.mono.trans0 hF36.mono, E1, Fs, ar, us, 36, 36, g, cm, rs, ?_, hU6, ⟨fun z => (by cases z), fun _ => rfl, by have := hlg.2.2.2.2.1; omega, fun q h1 h2 => by omega⟩⟩
  refine ⟨⟨?_, by rw [eD6]; exact f1, by rw [eD6]; exact f2, fun l hl => ⟨(hV3 l hl).fl hF36 hl, (hU6.2.1.1 l hl).1⟩⟩, ⟨tk, t1.fl hF36, t2⟩, ⟨uu, u1.fl hF36, u2⟩, hRt.fl hF36, ⟨?_, ?_, fun i hi => ?_, fun l hl => ((hV3 l hl).fl hF36 hl).2.2.2⟩, ?_, (hF46.rI (by decide) (by decide)).trans g164, (hF46.rI (by decide) (by decide)).trans g165, (hF46.rI (by decide) (by decide)).trans g166, (hF36.rI (by decide) (by decide)).trans h100, (hF36.rI (by decide) (by decide)).trans h102, by rw [e6]; exact zput_hit _ _ _ _, by decide, by decide⟩
  · have h9 : Lg ad M5 E1 := by rw [e5]; exact lgM_lg v2 (by have := hlg.2.2.2.2.2.1; simp at f6; omega)
    exact ⟨(hF6.rI (by decide) (by decide)).trans h9.1, h9.2.1, fun i q hq => (congrFun (hF6.rA (i := 16) (by decide) (by decide)) i).trans (h9.2.2 i q hq)⟩
  · obtain ⟨nx, a1, a2⟩ := hm.1
    exact ⟨nx, a1, (hF36.rI (by decide) (by decide)).trans ((hF3.rI (by decide) (by decide)).trans a2)⟩
  · obtain ⟨s, f, a1, a2, a3, a4⟩ := hm.2.1
    exact ⟨s, f, a1, a2, (hF36.rI (by decide) (by decide)).trans ((hF3.rI (by decide) (by decide)).trans a3), (hF36.rI (by decide) (by decide)).trans ((hF3.rI (by decide) (by decide)).trans a4)⟩
  · rw [hF36.rA (i := 3) (by decide) (by decide), hF3.rA (i := 3) (by decide) (by decide)]; exact hm.2.2.1 i hi
  · refine (hF6.rI (by decide) (by decide)).trans ?_
    rw [e5]; exact zput_hit _ _ _ _
set_option maxRecDepth 100000 in
set_option maxHeartbeats 4000000 in
theorem t_load29 {G : zG} {ad : Nat → Nat} {d k0 n0 c n gm g ar us cm : Nat} {Ls : Nat → List zF} {rs : List (List Nat)} {E : List Nat} {m : Mp} {M : zM} {Q : zOut → zM → Prop} (hd : 6 ≤ d) (hcb : zC M ≤ 600128 ∧ zS M ≤ 7301098) (hL : Lay ad M) (hU : Dur (zA M (ad 2)) g ar us cm c n gm Ls rs E m) (hm : Msc ad M) (hn : n ≤ 64) (hgm : gm ≤ 2 ^ 28) (hq0 : ∀ M' : zM, LdA ad M M' c n gm m → Q (.inl none) M') {M2 : zM} (hF2 : Fl ad 0 [68, 69, 70, 131, 132, 133, 260] [18] [] M M2) (hT2 : Tk ad M2 []) (hU2 : Us ad M2 []) (hR2 : Rt ad M2 []) (hV2 : ∀ l, l < 3 → Lv ad M2 l []) {i : Nat} : zw G mX11_load d k0 n0 Q 29 [some (.ref ((ad 0))), some (.int (nI i))] [] M2 := by
  have hL2 := hF2.lay hL
  have hcb2 := hF2.cb hcb
  have eD2 : zA M2 (ad 2) = zA M (ad 2) := hF2.rA (by decide) (by decide)
  have hsz := hU.sz hn
  rcases hU.1.2.2.2 with ⟨z1, z2, z3, z4, z5, z6⟩ | ⟨z1, z2, z3⟩
  · refine zr_aload_n dX11_load_29 rfl ?_
    refine zr_getR dX11_load_30 lkX11_86 (by decide) (by decide) rfl (hL2.K 0 12) (hL2.R 363 0 30) ?_
    refine zr_aload_n dX11_load_33 rfl ?_
    refine zr_getR dX11_load_34 lkX11_63 (by decide) (by decide) rfl (hL2.K 0 12) (hL2.R 360 0 22) ?_
    refine zr_aload_n dX11_load_37 rfl ?_
    refine zr_getR dX11_load_38 lkX11_57 (by decide) (by decide) rfl (hL2.K 0 12) (hL2.R 359 0 17) ?_
    refine zr_callV (md' := mX3_load) (As := [.ref ((ad 22)), .ref ((ad 17))]) dX11_load_41 mlX11_342 okX3_load rfl inX3_load slX3_load (by decide) (hL2.K 30 4) rfl (by omega) (Nat.le_of_ble_eq_true rfl) hcb2 (c_Head_load0 (d := d - 1) (g1 := 0) (g2 := 0) (by omega) hcb2 hL2 (by rw [eD2]; exact z5) (by rw [eD2]; exact z6) (by decide) (by decide) (by rw [eD2]; exact nuN4_lt hU.1.2.1) (by rw [eD2]; exact nuN4_lt hU.1.2.2.1) ⟨rfl, rfl⟩) (fun k M1 h => by cases h.1) (fun v M3 hq => ?_)
    obtain ⟨e0, e3⟩ := hq
    cases e0
    have hF3 : Fl ad 0 [100, 101, 102] [] [] M2 M3 := by rw [e3]; exact (((Fl.refl ad _ _ _ M2).put hL2 (f := 100) (i := 30)).put hL2 (f := 101) (i := 30)).put hL2 (f := 102) (i := 30)
    exact t_load44 (Fs := fun _ => []) hd hcb hL hU hm hn hgm hq0 (fun l hl => by rw [z4 l hl]) ⟨hF2.mono.trans0 hF3.mono, fun l hl => (hV2 l hl).fl hF3 hl, ⟨[], hT2.fl hF3, List.Perm.refl _⟩, ⟨[], hU2.fl hF3, List.Perm.refl _⟩, hR2.fl hF3, by rw [e3, z1]; exact zput_ms (f := 102) (by decide) (zput_ms (f := 101) (by decide) (zput_hit _ _ _ _)), by rw [e3, z2]; exact zput_ms (f := 102) (by decide) (zput_hit _ _ _ _), by rw [e3, z3]; exact zput_hit _ _ _ _⟩
  · have hm2 := Nat.mod_lt g (show 2 > 0 by decide)
    have hgg : g ≤ gm := hU.2.2.2.2.2.2
    have hown := hdB_gn z2 (by omega) hsz.1
    obtain ⟨g1, hg1⟩ : ∃ g1, g1 = gnA (zA M (ad 2)) 0 := ⟨_, rfl⟩
    obtain ⟨g2, hg2⟩ : ∃ g2, g2 = gnA (zA M (ad 2)) 2048 := ⟨_, rfl⟩
    have hcase : (g % 2 = 0 ∧ g1 = g ∧ g2 < g) ∨ (g % 2 = 1 ∧ g2 = g ∧ g1 < g) := by
      rcases (show g % 2 = 0 ∨ g % 2 = 1 by omega) with e | e
      · rw [e, Nat.zero_mul] at hown
        rw [show (g + 1) % 2 = 1 by omega, Nat.one_mul] at z3
        exact Or.inl ⟨e, hg1.trans hown.1, by rw [hg2]; exact z3⟩
      · rw [e, Nat.one_mul] at hown
        rw [show (g + 1) % 2 = 0 by omega, Nat.zero_mul] at z3
        exact Or.inr ⟨e, hg2.trans hown.1, by rw [hg1]; exact z3⟩
    have hse : g % 2 * 2048 = if g1 < g2 then 2048 else 0 := by
      rcases hcase with ⟨e1, e2, e3⟩ | ⟨e1, e2, e3⟩
      · rw [e1, if_neg (by omega)]
      · rw [e1, if_pos (by omega)]
    have hmx : max g1 g2 = g := by rcases hcase with ⟨e1, e2, e3⟩ | ⟨e1, e2, e3⟩ <;> omega
    have hgl1 : g1 ≤ g := by rcases hcase with ⟨e1, e2, e3⟩ | ⟨e1, e2, e3⟩ <;> omega
    have hgl2 : g2 ≤ g := by rcases hcase with ⟨e1, e2, e3⟩ | ⟨e1, e2, e3⟩ <;> omega
    have hcn9 : c ≤ n := hU.2.2.2.2.2.1
    have hcc9 : c = cm + rs.length := hU.2.2.2.2.1
    refine zr_aload_n dX11_load_29 rfl ?_
    refine zr_getR dX11_load_30 lkX11_86 (by decide) (by decide) rfl (hL2.K 0 12) (hL2.R 363 0 30) ?_
    refine zr_aload_n dX11_load_33 rfl ?_
    refine zr_getR dX11_load_34 lkX11_63 (by decide) (by decide) rfl (hL2.K 0 12) (hL2.R 360 0 22) ?_
    refine zr_aload_n dX11_load_37 rfl ?_
    refine zr_getR dX11_load_38 lkX11_57 (by decide) (by decide) rfl (hL2.K 0 12) (hL2.R 359 0 17) ?_
    refine zr_callV (md' := mX3_load) (As := [.ref ((ad 22)), .ref ((ad 17))]) dX11_load_41 mlX11_342 okX3_load rfl inX3_load slX3_load (by decide) (hL2.K 30 4) rfl (by omega) (Nat.le_of_ble_eq_true rfl) hcb2 (c_Head_load (d := d - 1) (st := g % 2 * 2048) (g := g) (ar := ar) (cm := cm) (g1 := g1) (g2 := g2) (Ls := Ls) (by omega) hcb2 hL2 (by omega) (by rw [eD2]; exact z2) hsz.1 hU.2.1.2 (by rw [eD2]; exact fun l hl f hf => ((hU.2.1.1 l hl).2 f hf).1) (by omega) (by rw [eD2]; exact hg1.symm) (by rw [eD2]; exact hg2.symm) (by omega) (by omega) (by rw [eD2]; exact nuN4_lt hU.1.2.1) (by rw [eD2]; exact nuN4_lt hU.1.2.2.1) hse (by omega) (by have := hU.1.1; omega) (by omega) (by omega) hU2 hT2 hV2) (fun k M9 h => by cases h.1) (fun v M3 hq => ?_)
    obtain ⟨e0, M5, w1, ⟨w2, Fs, us9, tk9, d1, d2, d3, d4, d5, d6, d7, d8, d9, d10, d11⟩, w3, w4, w5⟩ := hq
    cases e0
    have hF3 : Fl ad 0 [69, 70, 99, 100, 101, 102, 131, 258, 259, 260] [18, 64] [35, 36, 37] M2 M3 := w1.mono.trans0 w2.mono
    have h2 : ∀ l, l < 3 → (Fs l).map (·.2) = (Ls l).map (·.2) := fun l hl => d7 l hl
    have hbk3 : tk9.Perm (bks Fs 3) := by rw [bks_2 h2 (Nat.le_refl 3)]; have := d4; rw [show bk ((Ls 3).take 0) = [] from rfl, List.append_nil] at this; exact this
    have hid : us9.Perm (idn Fs) := nodup_perm (ids_nd d10 d11) d2.1 (fun x hx => by
      unfold idn at hx
      obtain ⟨f, hf, rfl⟩ := List.mem_map.mp hx
      have hf2 : f ∈ (([] ++ Fs 0) ++ Fs 1) ++ Fs 2 := hf
      simp only [List.nil_append, List.mem_append] at hf2
      rcases hf2 with (z | z) | z
      · exact d6 0 (by decide) f z
      · exact d6 1 (by decide) f z
      · exact d6 2 (by decide) f z) (by rw [idn_len, d5]; have a1 := map2_len (h2 0 (by decide)); have a2 := map2_len (h2 1 (by decide)); have a3 := map2_len (h2 2 (by decide)); show 0 + (Ls 0).length + (Ls 1).length + (Ls 2).length + 0 ≤ 0 + (Fs 0).length + (Fs 1).length + (Fs 2).length; omega)
    exact t_load44 (Fs := Fs) hd hcb hL hU hm hn hgm hq0 h2 ⟨hF2.mono.trans0 hF3.mono, d1, ⟨tk9, d3, hbk3⟩, ⟨us9, d2, hid⟩, hR2.fl hF3, by rw [w3, hmx], w4, w5⟩
set_option maxRecDepth 100000 in
set_option maxHeartbeats 4000000 in
theorem l_load {G : zG} {ad : Nat → Nat} {d k0 n0 c n gm g ar us cm : Nat} {Ls : Nat → List zF} {rs : List (List Nat)} {E : List Nat} {m : Mp} {M : zM} {Q : zOut → zM → Prop} (hd : 6 ≤ d) (hcb : zC M ≤ 600128 ∧ zS M ≤ 7301098) (hL : Lay ad M) (hU : Dur (zA M (ad 2)) g ar us cm c n gm Ls rs E m) (hm : Msc ad M) (hn : n ≤ 64) (hgm : gm ≤ 2 ^ 28) (hq0 : ∀ M' : zM, LdA ad M M' c n gm m → Q (.inl none) M') {M1 : zM} (hF1 : Fl ad 0 [68, 69, 70, 260] [18] [] M M1) (hT1 : Tk ad M1 []) (hU1 : Us ad M1 []) (hR1 : Rt ad M1 []) : ∀ (z i : Nat) (M2 : zM), 3 - i = z → i ≤ 3 → LE ad M1 M2 i → zw G mX11_load d k0 n0 Q 9 [some (.ref ((ad 0))), some (.int (nI i))] [] M2 := by
  intro z
  induction z using Nat.strongRecOn with
  | _ z ih =>
    intro i M2 hz hi hE
    have hL2 := hE.1.lay (hF1.lay hL)
    have hcb2 := hE.1.cb (hF1.cb hcb)
    refine zr_iload_n dX11_load_9 rfl ?_
    refine zr_iconst (v := nI 3) dX11_load_10 (by decide) ?_
    refine zr_icmp_geN 29 dX11_load_11 (by decide) (by omega) (by omega) (fun h11 => ?_) (fun h11 => ?_)
    · have e9 : i = 3 := by omega
      subst e9
      exact t_load29 hd hcb hL hU hm hn hgm hq0 (hF1.mono.trans0 hE.1.mono) (hT1.fl hE.1) (hU1.fl hE.1) (hR1.fl hE.1) (fun l hl => ⟨hE.2 l hl, by decide, fun i f hf => by simp at hf, ((hm.2.2.2 l hl).fl hF1 (by omega)).fl hE.1 (by omega)⟩)
    · refine zr_aload_n dX11_load_14 rfl ?_
      refine zr_getR dX11_load_15 lkX11_63 (by decide) (by decide) rfl (hL2.K 0 12) (hL2.R 360 0 22) ?_
      refine zr_iload_n dX11_load_18 rfl ?_
      refine zr_aaldK dX11_load_19 (Or.inl (hL2.K 22 18)) (hL2.N 22 3) (by omega) (by omega) (hL2.lv (by omega)) ?_
      refine zr_callV (md' := mX4_clear) (As := []) dX11_load_20 mlX11_341 okX4_clear rfl inX4_clear slX4_clear (by decide) (hL2.Kl (by omega)) rfl (by omega) (Nat.le_of_ble_eq_true rfl) hcb2 (c_Level_clear (d := d - 1) (l := i) hcb2 hL2 (by omega)) (fun k M1 h => by cases h.1) (fun v M4 hq => ?_)
      obtain ⟨e0, e4⟩ := hq
      cases e0
      refine zr_iincN (n := 1) (lv' := [some (.ref ((ad 0))), some (.int (nI (i + 1)))]) dX11_load_23 (Nat.le_of_ble_eq_true rfl) (Nat.le_of_ble_eq_true rfl) rfl rfl rfl ?_
      refine zr_goto 9 dX11_load_26 (by decide) ?_
      exact ih _ (by omega) (i + 1) M4 rfl (by omega) (hE.step hL2 (by omega) e4)
set_option maxRecDepth 100000 in
set_option maxHeartbeats 4000000 in
theorem c_load {G : zG} {ad : Nat → Nat} {d c n gm g ar us cm : Nat} {Ls : Nat → List zF} {rs : List (List Nat)} {E : List Nat} {m : Mp} {M : zM} (hd : 6 ≤ d) (hcb : zC M ≤ 600128 ∧ zS M ≤ 7301098) (hL : Lay ad M) (hU : Dur (zA M (ad 2)) g ar us cm c n gm Ls rs E m) (hm : Msc ad M) (hn : n ≤ 64) (hgm : gm ≤ 2 ^ 28)  : zMet G mX11_load d [.ref ((ad 0))] M (fun o M' => o = .inl none ∧ LdA ad M M' c n gm m) := by
  refine zMet_of (by decide +kernel) (Nat.le_of_ble_eq_true rfl) rfl hcb ?_
  show zw G mX11_load d _ _ _ 0 [some (.ref ((ad 0))), none] [] M
  refine zr_aload_n dX11_load_0 rfl ?_
  refine zr_getR dX11_load_1 lkX11_57 (by decide) (by decide) rfl (hL.K 0 12) (hL.R 359 0 17) ?_
  refine zr_callV (md' := mX2_clear) (As := []) dX11_load_4 mlX11_340 okX2_clear rfl inX2_clear slX2_clear (by decide) (hL.K 17 3) rfl (by omega) (Nat.le_of_ble_eq_true rfl) hcb (c_Files_clear (d := d - 1) hcb hL) (fun k M9 h => by cases h.1) (fun v M1 hq => ?_)
  obtain ⟨e0, hF1, hT1, hU1, hR1⟩ := hq
  cases e0
  refine zr_iconst (v := nI 0) dX11_load_7 (by decide) ?_
  refine zr_istore_n (lv' := [some (.ref ((ad 0))), some (.int (nI 0))]) dX11_load_8 (Nat.le_of_ble_eq_true rfl) (Nat.le_of_ble_eq_true rfl) rfl rfl ?_
  exact l_load hd hcb hL hU hm hn hgm (fun M' h => ⟨rfl, h⟩) hF1 hT1 hU1 hR1 _ 0 M1 rfl (by omega) ⟨Fl.refl _ _ _ _ _, fun l hl => by omega⟩
