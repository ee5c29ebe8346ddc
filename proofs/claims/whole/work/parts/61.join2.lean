/-! ===== LsmStore.join: from the start ===== -/
theorem zVw.fl {ad : Nat → Nat} {c : Nat} {LF LA LB : List Nat} {M M1 : zM} {v : Nat → Option Nat} (h : zVw M (ad 13) (ad 14) v) (hF : Fl ad c LF LA LB M M1) (h1 : 14 ∉ LA := by decide) : zVw M1 (ad 13) (ad 14) v := by
  obtain ⟨a1, a2, a3, a4, a5, a6⟩ := h
  obtain ⟨-, -, -, f4, -, f6, f7, -, -⟩ := id hF
  exact ⟨by rw [f6]; exact a1, by rw [f4]; exact a2, by rw [f6]; exact a3, by rw [f7]; exact a4, fun i hi => (congrFun (hF.rA (i := 14) h1 (by decide)) i).trans (a5 i hi), a6⟩
set_option maxRecDepth 100000 in
set_option maxHeartbeats 4000000 in
theorem t_join89 {G : zG} {ad : Nat → Nat} {d k0 n0 on wh lf0 ct du cn0 wl t low c n gm fl ar us to to2 g cm : Nat} {E P T tk uu : List Nat} {Ls : Nat → List zF} {lo hi : Nat → Nat} {rs : List (List Nat)} {m : Mp} {v : Nat → Option Nat} {M : zM} {Q : zOut → zM → Prop} (hd : 9 ≤ d) (hcb : zC M ≤ 600128 ∧ zS M ≤ 7301098) (hcx : zC M + 1 ≤ 600128 ∧ zS M + 6 ≤ 7301098) (hL : Lay ad M) (hO : Om ad M E Ls ar us to to2 g cm c) (hU : Dur (zA M (ad 2)) g ar us cm c n gm Ls rs E m) (hB : Blk (zA M (ad 2)) ar us to to2 fl) (hP : Pw ad M on wh lf0 ct du cn0) (hn : n ≤ 64) (hgm : gm ≤ 2 ^ 28) (hwl : wl ≤ 1) (ht : t < 3) (hlh : ∀ l, l < 3 → lo l ≤ hi l) (hhl : ∀ l, l < 3 → hi l ≤ (Ls l).length) (hPs : P.Pairwise (pre (zA M (ad 2)))) (hPp : P.Perm (pks wl E Ls lo hi 3)) (hT : Thn (zA M (ad 2)) P v low T) (hlow : low = 1 → t = 2) (hok : Pok (zA M (ad 2)) Ls lo hi t P) (htk : tk.Perm (bks Ls 3)) (huu : uu.Perm (idn Ls)) (hqB : ∀ (M' : zM) (E' : List Nat) (Ls' : Nat → List zF) (fl' : Nat), Fl ad 0 [34, 35, 36, 39, 68, 69, 70, 71, 98, 100, 101, 102, 131, 133, 162, 163, 164, 165, 166, 227, 228, 258, 259, 260, 325, 326, 327] [2, 18, 24, 25, 27, 28, 31, 64] [21, 29, 35, 36, 37] M M' → (∃ lf cn, Pw ad M' on wh lf ct du cn ∧ (cn = 1 ↔ cn0 = 1)) → Onn ad M' E' Ls' c n (gm + 1) fl' m → Vsm (zA M (ad 2)) (zA M' (ad 2)) E E' Ls Ls' v → (fl = 1 → fl' = 1) → (wl = 1 → fl' = 1) → Q (.inl (some (.int (nI 1)))) M') (hqX : ∀ M' : zM, cn0 = 1 → Fl ad 1 [34, 35, 36, 39, 68, 69, 70, 71, 98, 100, 101, 102, 131, 133, 162, 163, 164, 165, 166, 227, 228, 258, 259, 260, 325, 326, 327] [2, 18, 24, 25, 27, 28, 31, 64] [21, 29, 35, 36, 37] M M' → Ofn ad M' c n (gm + 1) m → (∃ lf cn, Pw ad M' 0 3 lf ct du cn) → Q (.inr 2) M') {ns : List zF} {nbs : List Nat} {M4 : zM} {M5 : zM} {i : Nat} (h4 : J4 ad M M4 on wh ct du cn0 Ls T tk uu ns nbs) (h5 : J5 ad M4 M5 Ls lo hi 3) : zw G mX11_join d k0 n0 Q 89 [some (.ref ((ad 0))), some (.int (nI t)), some (.int (nI wl)), some (.int (nI i))] [] M5 := by
  obtain ⟨o1, o2, o3, o4, o5, o163, o164, o165, o166, o100, o102, o366, oto, oto2⟩ := id hO
  obtain ⟨b1, ⟨lf4, cn4, hP4, hcn4⟩, b3, b4, b5, b6, b7, hX, hent, b10⟩ := id h4
  have hF5 : Fl ad 0 [34, 35, 36, 39, 68, 69, 70, 71, 131, 133, 227, 228, 258, 259, 260, 325, 326, 327] [2, 18, 24, 25, 27, 28, 64] [21, 29, 35, 36, 37] M M5 := b1.mono.trans0 h5.1.mono
  have hL5 := hF5.lay hL
  have hcb5 := hF5.cb hcb
  have hsz9 := (hU.sz hn).2.1
  have hV5 : Lv ad M5 t (cutL Ls lo hi t) := by have := h5.2.1 t ht; rw [if_pos ht] at this; exact this
  have hns5 : ∀ (i : Nat) (f : zF), ns[i]? = some f → f.1 < 256 ∧ zB M5 (ad 29) i = some (ad (tA f.1)) ∧ Tb ad M5 f.1 f.2.1 (fE f).getLast? := fun i f hf => by
    obtain ⟨y1, y2, y3⟩ := b6 i f hf
    exact ⟨y1, by rw [h5.1.rB (i := 29) (by decide) (by decide)]; exact y2, y3.fl h5.1 (by omega)⟩
  have h1l := hlh t ht
  have h2l := hhl t ht
  have hcl : (cutL Ls lo hi t).length = lo t + ((Ls t).length - hi t) := by unfold cutL; rw [List.length_append, List.length_take, List.length_drop]; omega
  have hlf5 : lo t ≤ (cutL Ls lo hi t).length := by omega
  have hul := us_len b4.1 b4.2.1
  rw [List.length_append, List.length_reverse, List.length_map, huu.length_eq, idn_len] at hul
  have hlt := lv_len (Ls := Ls) ht
  have hsz5 : (cutL Ls lo hi t).length + ns.length ≤ 256 := by omega
  have h325 : zI M5 325 (ad 26) = nI ns.length := (h5.1.rI (by decide) (by decide)).trans b7
  refine zr_aload_n dX11_join_89 rfl ?_
  refine zr_getR dX11_join_90 lkX11_63 (by decide) (by decide) rfl (hL5.K 0 12) (hL5.R 360 0 22) ?_
  refine zr_iload_n dX11_join_93 rfl ?_
  refine zr_aaldK dX11_join_94 (Or.inl (hL5.K 22 18)) (hL5.N 22 3) (by omega) (by omega) (hL5.lv ht) ?_
  refine zr_aload_n dX11_join_95 rfl ?_
  refine zr_getR dX11_join_96 lkX11_79 (by decide) (by decide) rfl (hL5.K 0 12) (hL5.R 362 0 26) ?_
  refine zr_getR dX11_join_99 lkX11_418 (by decide) (by decide) rfl (hL5.K 26 11) (hL5.R 324 26 29) ?_
  refine zr_aload_n dX11_join_102 rfl ?_
  refine zr_getR dX11_join_103 lkX11_79 (by decide) (by decide) rfl (hL5.K 0 12) (hL5.R 362 0 26) ?_
  refine zr_getI dX11_join_106 lkX11_422 (by decide) (by decide) rfl (hL5.K 26 11) ?_
  refine zr_as (y := (nI ns.length)) h325 ?_
  refine zr_callV (md' := mX4_insert) (As := [.ref ((ad 29)), .int (nI ns.length)]) dX11_join_109 mlX11_423 okX4_insert rfl inX4_insert slX4_insert (by decide) (hL5.Kl ht) rfl (by omega) (Nat.le_of_ble_eq_true rfl) hcb5 (c_Level_insert (d := d - 1) (l := t) (lo := lo t) (fs := cutL Ls lo hi t) (ns := ns) hcb5 hL5 ht hV5 hns5 (h5.2.2.2.1 t ht) hlf5 hsz5) (fun k M1 h => by cases h.1) (fun v M6 hq => ?_)
  obtain ⟨e0, g1, g2, g3⟩ := hq
  cases e0
  have h6 := J6.of h5 ht (Nat.le_trans (hlh t ht) (hhl t ht)) g1 g2 g3
  rcases (show wl = 1 ∨ wl = 0 by omega) with e9 | e9
  · subst e9
    exact t_join112_1 hd hcb hcx hL hO hU hB hP hn hgm ht hlh hhl hPs hPp hT hlow hok htk huu hqB hqX h4 h6
  · subst e9
    exact t_join112_0 hd hcb hcx hL hO hU hB hP hn hgm ht hlh hhl hPs hPp hT hlow hok htk huu hqB hqX h4 h6
set_option maxRecDepth 100000 in
set_option maxHeartbeats 4000000 in
theorem l_join {G : zG} {ad : Nat → Nat} {d k0 n0 on wh lf0 ct du cn0 wl t low c n gm fl ar us to to2 g cm : Nat} {E P T tk uu : List Nat} {Ls : Nat → List zF} {lo hi : Nat → Nat} {rs : List (List Nat)} {m : Mp} {v : Nat → Option Nat} {M : zM} {Q : zOut → zM → Prop} (hd : 9 ≤ d) (hcb : zC M ≤ 600128 ∧ zS M ≤ 7301098) (hcx : zC M + 1 ≤ 600128 ∧ zS M + 6 ≤ 7301098) (hL : Lay ad M) (hO : Om ad M E Ls ar us to to2 g cm c) (hU : Dur (zA M (ad 2)) g ar us cm c n gm Ls rs E m) (hB : Blk (zA M (ad 2)) ar us to to2 fl) (hP : Pw ad M on wh lf0 ct du cn0) (hn : n ≤ 64) (hgm : gm ≤ 2 ^ 28) (hwl : wl ≤ 1) (ht : t < 3) (hlh : ∀ l, l < 3 → lo l ≤ hi l) (hhl : ∀ l, l < 3 → hi l ≤ (Ls l).length) (hPs : P.Pairwise (pre (zA M (ad 2)))) (hPp : P.Perm (pks wl E Ls lo hi 3)) (hT : Thn (zA M (ad 2)) P v low T) (hlow : low = 1 → t = 2) (hok : Pok (zA M (ad 2)) Ls lo hi t P) (htk : tk.Perm (bks Ls 3)) (huu : uu.Perm (idn Ls)) (hqB : ∀ (M' : zM) (E' : List Nat) (Ls' : Nat → List zF) (fl' : Nat), Fl ad 0 [34, 35, 36, 39, 68, 69, 70, 71, 98, 100, 101, 102, 131, 133, 162, 163, 164, 165, 166, 227, 228, 258, 259, 260, 325, 326, 327] [2, 18, 24, 25, 27, 28, 31, 64] [21, 29, 35, 36, 37] M M' → (∃ lf cn, Pw ad M' on wh lf ct du cn ∧ (cn = 1 ↔ cn0 = 1)) → Onn ad M' E' Ls' c n (gm + 1) fl' m → Vsm (zA M (ad 2)) (zA M' (ad 2)) E E' Ls Ls' v → (fl = 1 → fl' = 1) → (wl = 1 → fl' = 1) → Q (.inl (some (.int (nI 1)))) M') (hqX : ∀ M' : zM, cn0 = 1 → Fl ad 1 [34, 35, 36, 39, 68, 69, 70, 71, 98, 100, 101, 102, 131, 133, 162, 163, 164, 165, 166, 227, 228, 258, 259, 260, 325, 326, 327] [2, 18, 24, 25, 27, 28, 31, 64] [21, 29, 35, 36, 37] M M' → Ofn ad M' c n (gm + 1) m → (∃ lf cn, Pw ad M' 0 3 lf ct du cn) → Q (.inr 2) M') {ns : List zF} {nbs : List Nat} {M4 : zM} (h4 : J4 ad M M4 on wh ct du cn0 Ls T tk uu ns nbs) : ∀ (z i : Nat) (M5 : zM), 3 - i = z → i ≤ 3 → J5 ad M4 M5 Ls lo hi i → zw G mX11_join d k0 n0 Q 65 [some (.ref ((ad 0))), some (.int (nI t)), some (.int (nI wl)), some (.int (nI i))] [] M5 := by
  intro z
  induction z using Nat.strongRecOn with
  | _ z ih =>
    intro i M5 hz hi0 h5
    obtain ⟨o1, o2, o3, o4, o5, o163, o164, o165, o166, o100, o102, o366, oto, oto2⟩ := id hO
    obtain ⟨b1, ⟨lf4, cn4, hP4, hcn4⟩, b3, b4, b5, b6, b7, hX, hent, b10⟩ := id h4
    have hF5 : Fl ad 0 [34, 35, 36, 39, 68, 69, 70, 71, 131, 133, 227, 228, 258, 259, 260, 325, 326, 327] [2, 18, 24, 25, 27, 28, 64] [21, 29, 35, 36, 37] M M5 := b1.mono.trans0 h5.1.mono
    have hL5 := hF5.lay hL
    have hcb5 := hF5.cb hcb
    have hsz9 := (hU.sz hn).2.1
    refine zr_iload_n dX11_join_65 rfl ?_
    refine zr_iconst (v := nI 3) dX11_join_66 (by decide) ?_
    refine zr_icmp_geN 89 dX11_join_67 (by decide) (by omega) (by omega) (fun h67 => ?_) (fun h67 => ?_)
    · have e9 : i = 3 := by omega
      subst e9
      exact t_join89 hd hcb hcx hL hO hU hB hP hn hgm hwl ht hlh hhl hPs hPp hT hlow hok htk huu hqB hqX h4 h5
    · have hi3 : i < 3 := by omega
      have hV5 : Lv ad M5 i (Ls i) := by have := h5.2.1 i hi3; rw [if_neg (Nat.lt_irrefl _)] at this; exact this
      have hsz5 : ((pkf Ls lo hi i).map (·.1)).length + (hi i - lo i) ≤ 256 := by
        have a1 := pkf_len (Ls := Ls) (lo := lo) (hi := hi) i
        have a2 := bks'_le (Ls := Ls) (show i ≤ 3 by omega)
        have a3 := lv_len (Ls := Ls) hi3
        have a4 := hhl i hi3
        rw [List.length_map]
        omega
      refine zr_aload_n dX11_join_70 rfl ?_
      refine zr_getR dX11_join_71 lkX11_63 (by decide) (by decide) rfl (hL5.K 0 12) (hL5.R 360 0 22) ?_
      refine zr_iload_n dX11_join_74 rfl ?_
      refine zr_aaldK dX11_join_75 (Or.inl (hL5.K 22 18)) (hL5.N 22 3) (by omega) (by omega) (hL5.lv hi3) ?_
      refine zr_aload_n dX11_join_76 rfl ?_
      refine zr_getR dX11_join_77 lkX11_57 (by decide) (by decide) rfl (hL5.K 0 12) (hL5.R 359 0 17) ?_
      refine zr_callV (md' := mX4_cut) (As := [.ref ((ad 17))]) dX11_join_80 mlX11_414 okX4_cut rfl inX4_cut slX4_cut (by decide) (hL5.Kl hi3) rfl (by omega) (Nat.le_of_ble_eq_true rfl) hcb5 (c_Level_cut (d := d - 1) (l := i) (lo := lo i) (hi := hi i) (fs := Ls i) (rt := (pkf Ls lo hi i).map (·.1)) (by omega) hcb5 hL5 hi3 hV5 h5.2.2.1 (h5.2.2.2.2 i (Nat.le_refl _) hi3) (hlh i hi3) (hhl i hi3) hsz5) (fun k M1 h => by cases h.1) (fun v M6 hq => ?_)
      obtain ⟨e0, g1, g2, g3, g4, g5⟩ := hq
      cases e0
      refine zr_iincN (n := 1) (lv' := [some (.ref ((ad 0))), some (.int (nI t)), some (.int (nI wl)), some (.int (nI (i + 1)))]) dX11_join_83 (Nat.le_of_ble_eq_true rfl) (Nat.le_of_ble_eq_true rfl) rfl rfl rfl ?_
      refine zr_goto 65 dX11_join_86 (by decide) ?_
      exact ih _ (by omega) (i + 1) M6 rfl (by omega) (h5.step hL5 hi3 g1 g2 g4 g5)
set_option maxRecDepth 100000 in
set_option maxHeartbeats 4000000 in
theorem t_join52 {G : zG} {ad : Nat → Nat} {d k0 n0 on wh lf0 ct du cn0 wl t low c n gm fl ar us to to2 g cm : Nat} {E P T tk uu : List Nat} {Ls : Nat → List zF} {lo hi : Nat → Nat} {rs : List (List Nat)} {m : Mp} {v : Nat → Option Nat} {M : zM} {Q : zOut → zM → Prop} (hd : 9 ≤ d) (hcb : zC M ≤ 600128 ∧ zS M ≤ 7301098) (hcx : zC M + 1 ≤ 600128 ∧ zS M + 6 ≤ 7301098) (hL : Lay ad M) (hO : Om ad M E Ls ar us to to2 g cm c) (hU : Dur (zA M (ad 2)) g ar us cm c n gm Ls rs E m) (hB : Blk (zA M (ad 2)) ar us to to2 fl) (hP : Pw ad M on wh lf0 ct du cn0) (hn : n ≤ 64) (hgm : gm ≤ 2 ^ 28) (hwl : wl ≤ 1) (ht : t < 3) (hlh : ∀ l, l < 3 → lo l ≤ hi l) (hhl : ∀ l, l < 3 → hi l ≤ (Ls l).length) (hPs : P.Pairwise (pre (zA M (ad 2)))) (hPp : P.Perm (pks wl E Ls lo hi 3)) (hT : Thn (zA M (ad 2)) P v low T) (hlow : low = 1 → t = 2) (hok : Pok (zA M (ad 2)) Ls lo hi t P) (htk : tk.Perm (bks Ls 3)) (huu : uu.Perm (idn Ls)) (hqB : ∀ (M' : zM) (E' : List Nat) (Ls' : Nat → List zF) (fl' : Nat), Fl ad 0 [34, 35, 36, 39, 68, 69, 70, 71, 98, 100, 101, 102, 131, 133, 162, 163, 164, 165, 166, 227, 228, 258, 259, 260, 325, 326, 327] [2, 18, 24, 25, 27, 28, 31, 64] [21, 29, 35, 36, 37] M M' → (∃ lf cn, Pw ad M' on wh lf ct du cn ∧ (cn = 1 ↔ cn0 = 1)) → Onn ad M' E' Ls' c n (gm + 1) fl' m → Vsm (zA M (ad 2)) (zA M' (ad 2)) E E' Ls Ls' v → (fl = 1 → fl' = 1) → (wl = 1 → fl' = 1) → Q (.inl (some (.int (nI 1)))) M') (hqX : ∀ M' : zM, cn0 = 1 → Fl ad 1 [34, 35, 36, 39, 68, 69, 70, 71, 98, 100, 101, 102, 131, 133, 162, 163, 164, 165, 166, 227, 228, 258, 259, 260, 325, 326, 327] [2, 18, 24, 25, 27, 28, 31, 64] [21, 29, 35, 36, 37] M M' → Ofn ad M' c n (gm + 1) m → (∃ lf cn, Pw ad M' 0 3 lf ct du cn) → Q (.inr 2) M') {M3 : zM} (hF3 : Fl ad 0 [227, 228, 326, 327] [24, 25] [] M M3) (hRs3 : Rs ad M3 T) (hM3 : Msc ad M3) (hpk : ∀ l, l < 3 → Pk ad M l (lo l) (hi l)) (hTk : Tk ad M tk) (hUs : Us ad M uu) (hRm : Rm (zA M (ad 2)) T (512 - tk.length) (256 - uu.length)) : zw G mX11_join d k0 n0 Q 52 [some (.ref ((ad 0))), some (.int (nI t)), some (.int (nI wl)), none] [] M3 := by
  obtain ⟨o1, o2, o3, o4, o5, o163, o164, o165, o166, o100, o102, o366, oto, oto2⟩ := id hO
  have hL3 := hF3.lay hL
  have hcb3 := hF3.cb hcb
  have hcx3 : zC M3 + 1 ≤ 600128 ∧ zS M3 + 6 ≤ 7301098 := by have := hF3.cs; omega
  have eD3 : zA M3 (ad 2) = zA M (ad 2) := hF3.rA (by decide) (by decide)
  have hP3 := hP.fl hF3
  have hWR : WR (zA M (ad 2)) tk T := wr_of hU hn (fun q hq => (up_eb o1 (Nat.le_refl _) hq).1) hPs hPp hT htk
  obtain ⟨⟨nx, m1, m2⟩, ⟨s, f, m3, m4, m5, m6⟩, m7, m8⟩ := id hM3
  have hbt : Br tk := hTk.1
  have hcr : ∀ M9 : zM, cn0 = 1 → Wcr ad tk (zA M3 (ad 2)) M3 M9 → Q (.inr 2) M9 := by
    intro M9 hc0 hc
    obtain ⟨y1, y2, y3, y4, y5, y6, y7, ⟨lf, cn, y8, y9, y10, y11⟩⟩ := hc
    rw [eD3] at y4
    refine hqX _ hc0 (hF3.mono.trans0 y1.mono) ⟨⟨g, ar, us, cm, Ls, rs, E, ?_⟩, ⟨y6, y7, fun i hi => (congrFun (y1.rA (i := 3) (by decide) (by decide)) i).trans (m7 i hi), fun l hl => y5 _ _ _ (by omega) (by omega) (m8 l hl)⟩, (y1.rI (by decide) (by decide)).trans ((hF3.rI (by decide) (by decide)).trans o366)⟩ ⟨lf, cn, hP3.off (y1.rI (by decide) (by decide)) (y1.rI (by decide) (by decide)) y2 y3 y10 y11 y8 y9⟩
    have har := hU.1.1
    exact (hU.keep hn (fun q hq => y4 q (Or.inl (by omega))) (fun q h1 h2 => y4 q (Or.inl (by omega))) (fun q hq => y4 q (Or.inr (htk.mem_iff.mpr hq)))).mono (Nat.le_refl _) (by omega)
  refine zr_aload_n dX11_join_52 rfl ?_
  refine zr_getR dX11_join_53 lkX11_79 (by decide) (by decide) rfl (hL3.K 0 12) (hL3.R 362 0 26) ?_
  refine zr_aload_n dX11_join_56 rfl ?_
  refine zr_getR dX11_join_57 lkX11_70 (by decide) (by decide) rfl (hL3.K 0 12) (hL3.R 361 0 23) ?_
  refine zr_callV (md' := mX10_store) (As := [.ref ((ad 23))]) dX11_join_60 mlX11_410 okX10_store rfl inX10_store slX10_store (by decide) (hL3.K 26 11) rfl (by omega) (Nat.le_of_ble_eq_true rfl) hcb3 (c_Writer_store (d := d - 1) (R := T) (us := uu) (tk := tk) (by omega) hcb3 hcx3 hL3 hRs3 (by rw [eD3]; exact hWR) (by rw [eD3]; exact hRm) hbt hP3 (hTk.fl hF3) (hUs.fl hF3) m2 m1 m5 m6 m3 m4) (fun k M9 h => zt_out rfl (by rcases h with ⟨h, -⟩ | ⟨h, hc0, hc⟩; exact absurd h (by simp); cases h; exact hcr _ hc0 hc)) (fun v M4 hq => ?_)
  rcases hq with ⟨e0, hW⟩ | ⟨e0, -, -⟩
  rotate_left
  · cases e0
  cases e0
  rw [eD3] at hW
  obtain ⟨ns, nbs, h4⟩ := J4.of hO huu hF3 hW
  have b1 := h4.1
  refine zr_iconst (v := nI 0) dX11_join_63 (by decide) ?_
  refine zr_istore_n (lv' := [some (.ref ((ad 0))), some (.int (nI t)), some (.int (nI wl)), some (.int (nI 0))]) dX11_join_64 (Nat.le_of_ble_eq_true rfl) (Nat.le_of_ble_eq_true rfl) rfl rfl ?_
  exact l_join hd hcb hcx hL hO hU hB hP hn hgm hwl ht hlh hhl hPs hPp hT hlow hok htk huu hqB hqX h4 _ 0 M4 rfl (by omega) ⟨Fl.refl _ _ _ _ _, fun l hl => h4.2.2.2.2.2.2.2.2.2 l hl, o4.fl b1, fun l hl => (b1.rI (by decide) (by omega)).trans (hpk l hl).1, fun l _ hl => (hpk l hl).fl b1 hl⟩
set_option maxRecDepth 100000 in
set_option maxHeartbeats 4000000 in
theorem t_join23 {G : zG} {ad : Nat → Nat} {d k0 n0 on wh lf0 ct du cn0 wl t low c n gm fl ar us to to2 g cm : Nat} {E P : List Nat} {Ls : Nat → List zF} {lo hi : Nat → Nat} {rs : List (List Nat)} {m : Mp} {v : Nat → Option Nat} {M : zM} {Q : zOut → zM → Prop} (hd : 9 ≤ d) (hcb : zC M ≤ 600128 ∧ zS M ≤ 7301098) (hcx : zC M + 1 ≤ 600128 ∧ zS M + 6 ≤ 7301098) (hL : Lay ad M) (hO : Om ad M E Ls ar us to to2 g cm c) (hU : Dur (zA M (ad 2)) g ar us cm c n gm Ls rs E m) (hB : Blk (zA M (ad 2)) ar us to to2 fl) (hP : Pw ad M on wh lf0 ct du cn0) (hn : n ≤ 64) (hgm : gm ≤ 2 ^ 28) (hwl : wl ≤ 1) (ht : t < 3) (hlh : ∀ l, l < 3 → lo l ≤ hi l) (hhl : ∀ l, l < 3 → hi l ≤ (Ls l).length) (hPs : P.Pairwise (pre (zA M (ad 2)))) (hPp : P.Perm (pks wl E Ls lo hi 3)) (hlow : low = 1 → t = 2) (hlw : low ≤ 1) (hok : Pok (zA M (ad 2)) Ls lo hi t P) (hpk : ∀ l, l < 3 → Pk ad M l (lo l) (hi l)) (hvw : zVw M (ad 13) (ad 14) v) (hqA : ∀ M' : zM, Fl ad 0 [227, 228, 326, 327] [24, 25] [] M M' → Msc ad M' → (∃ (T9 : List Nat) (low9 : Nat), Thn (zA M (ad 2)) P v low9 T9 ∧ ¬ Rm (zA M (ad 2)) T9 (512 - (bks Ls 3).length) (256 - (idn Ls).length)) → Q (.inl (some (.int (nI 0)))) M') (hqB : ∀ (M' : zM) (E' : List Nat) (Ls' : Nat → List zF) (fl' : Nat), Fl ad 0 [34, 35, 36, 39, 68, 69, 70, 71, 98, 100, 101, 102, 131, 133, 162, 163, 164, 165, 166, 227, 228, 258, 259, 260, 325, 326, 327] [2, 18, 24, 25, 27, 28, 31, 64] [21, 29, 35, 36, 37] M M' → (∃ lf cn, Pw ad M' on wh lf ct du cn ∧ (cn = 1 ↔ cn0 = 1)) → Onn ad M' E' Ls' c n (gm + 1) fl' m → Vsm (zA M (ad 2)) (zA M' (ad 2)) E E' Ls Ls' v → (fl = 1 → fl' = 1) → (wl = 1 → fl' = 1) → Q (.inl (some (.int (nI 1)))) M') (hqX : ∀ M' : zM, cn0 = 1 → Fl ad 1 [34, 35, 36, 39, 68, 69, 70, 71, 98, 100, 101, 102, 131, 133, 162, 163, 164, 165, 166, 227, 228, 258, 259, 260, 325, 326, 327] [2, 18, 24, 25, 27, 28, 31, 64] [21, 29, 35, 36, 37] M M' → Ofn ad M' c n (gm + 1) m → (∃ lf cn, Pw ad M' 0 3 lf ct du cn) → Q (.inr 2) M') {M1 : zM} (hG : GA ad M M1 wl E Ls lo hi 3 P) : zw G mX11_join d k0 n0 Q 23 [some (.ref ((ad 0))), some (.int (nI t)), some (.int (nI wl)), none] [.int (nI low), .ref ((ad 13)), .ref ((ad 23))] M1 := by
  obtain ⟨o1, o2, o3, o4, o5, o163, o164, o165, o166, o100, o102, o366, oto, oto2⟩ := id hO
  obtain ⟨tk, hTk, htk⟩ := o2
  obtain ⟨uu, hUs, huu⟩ := o3
  have hF1 := hG.1
  have hL1 := hF1.lay hL
  have hcb1 := hF1.cb hcb
  have eD1 : zA M1 (ad 2) = zA M (ad 2) := hF1.rA (by decide) (by decide)
  have hvw1 := hvw.fl hF1
  have hEb : Eb (zA M (ad 2)) P := fun q hq => up_eb o1 (Nat.le_refl _) ((pks_sub 3).subset (hPp.mem_iff.mp hq))
  have hul := us_len hUs.1 hUs.2.1
  have htl := hTk.1.len
  refine zr_callV (md' := mX7_thin) (As := [.ref ((ad 13)), .int (nI low)]) dX11_join_23 mlX11_400 okX7_thin rfl inX7_thin slX7_thin (by decide) (hL1.K 23 8) rfl (by omega) (Nat.le_of_ble_eq_true rfl) hcb1 (c_Rows_thin (d := d - 1) (P := P) (v := v) (low := low) (by omega) hcb1 hL1 hvw1 hG.2.1 (by rw [eD1]; exact hEb) (by rw [eD1]; exact hPs) hlw) (fun k M9 h => by cases h.1) (fun v M2 hq => ?_)
  obtain ⟨e0, g2, T, e2, hg2, hT⟩ := hq
  cases e0
  rw [eD1] at hT
  have hF2 : Fl ad 0 [227] [24] [] M1 M2 := by rw [e2]; exact rsM_fl hL1 _ _
  have hL2 := hF2.lay hL1
  have hcb2 := hF2.cb hcb1
  have hPl := hG.2.1.2.1
  have hTl := hT.1.length_le
  have hRs2 : Rs ad M2 T := by rw [e2]; exact rsM_rs hg2 (by omega)
  have eD2 : zA M2 (ad 2) = zA M (ad 2) := (hF2.rA (by decide) (by decide)).trans eD1
  have h228 : zI M2 228 (ad 23) = nI 1 := (hF2.rI (by decide) (by decide)).trans hG.2.2.2.2
  have hM2 := (o5.fl hF1).fl hF2
  obtain ⟨⟨nx, m1, m2⟩, ⟨s, f, m3, m4, m5, m6⟩, m7, m8⟩ := id hM2
  have h69 : zI M2 69 (ad 17) = nI (512 - tk.length) := ((hTk.fl hF1).fl hF2).2.2
  have h70 : zI M2 70 (ad 17) = nI (256 - uu.length) := ((hUs.fl hF1).fl hF2).2.2.2
  refine zr_aload_n dX11_join_26 rfl ?_
  refine zr_getR dX11_join_27 lkX11_70 (by decide) (by decide) rfl (hL2.K 0 12) (hL2.R 361 0 23) ?_
  refine zr_getI dX11_join_30 lkX11_404 (by decide) (by decide) rfl (hL2.K 23 8) ?_
  refine zr_as (y := (nI 1)) h228 ?_
  refine zr_if_eq 50 dX11_join_33 (by decide) (fun h33 => absurd h33 (by decide)) (fun h33 => ?_)
  refine zr_aload_n dX11_join_36 rfl ?_
  refine zr_getR dX11_join_37 lkX11_79 (by decide) (by decide) rfl (hL2.K 0 12) (hL2.R 362 0 26) ?_
  refine zr_aload_n dX11_join_40 rfl ?_
  refine zr_getR dX11_join_41 lkX11_70 (by decide) (by decide) rfl (hL2.K 0 12) (hL2.R 361 0 23) ?_
  refine zr_callV (md' := mX10_hasRoom) (As := [.ref ((ad 23))]) dX11_join_44 mlX11_407 okX10_hasRoom rfl inX10_hasRoom slX10_hasRoom (by decide) (hL2.K 26 11) rfl (by omega) (Nat.le_of_ble_eq_true rfl) hcb2 (c_Writer_hasRoom (d := d - 1) (R := T) (fb := 512 - tk.length) (ft := 256 - uu.length) (by omega) hcb2 hL2 m5 m6 m3 m4 hRs2 (by rw [eD2]; exact fun q hq => hEb q (hT.1.subset hq)) h69 h70 (by omega) (by omega)) (fun k M9 h => by obtain ⟨_, _, _, h, _⟩ := h; cases h) (fun v M3 hq => ?_)
  obtain ⟨b3, s3, f3, e0, e3, y1, y2, y3, y4⟩ := hq
  cases e0
  rw [eD2] at y4
  have hF23 : Fl ad 0 [326, 327] [] [] M2 M3 := by rw [e3]; exact ((Fl.refl ad _ _ _ M2).put hL2 (f := 326) (i := 26)).put hL2 (f := 327) (i := 26)
  have hF3 : Fl ad 0 [227, 228, 326, 327] [24, 25] [] M M3 := (hF1.mono.trans0 hF2.mono).trans0 hF23.mono
  have hM3 : Msc ad M3 := ⟨⟨nx, m1, (hF23.rI (by decide) (by decide)).trans m2⟩, ⟨s3, f3, y2, y3, by rw [e3]; exact zput_ms (f := 327) (by decide) (zput_hit _ _ _ _), by rw [e3]; exact zput_hit _ _ _ _⟩, fun i hi => (congrFun (hF23.rA (i := 3) (by decide) (by decide)) i).trans (m7 i hi), fun l hl => (m8 l hl).fl hF23 (by omega)⟩
  refine zr_if_neN 52 dX11_join_47 (by decide) (by omega) (fun h47 => ?_) (fun h47 => ?_)
  · exact t_join52 hd hcb hcx hL hO hU hB hP hn hgm hwl ht hlh hhl hPs hPp hT hlow hok htk huu hqB hqX hF3 (hRs2.fl hF23) hM3 hpk hTk hUs (y4.mp (by omega))
  · refine zr_iconst (v := nI 0) dX11_join_50 (by decide) ?_
    refine zr_zret dX11_join_51 rfl (Or.inl rfl) ?_
    exact hqA M3 hF3 hM3 ⟨T, low, hT, by rw [← htk.length_eq, ← huu.length_eq]; exact fun z => by have := y4.mpr z; omega⟩
set_option maxRecDepth 100000 in
set_option maxHeartbeats 4000000 in
theorem c_join0 {G : zG} {ad : Nat → Nat} {d on wh lf0 ct du cn0 wl t c n gm fl ar us to to2 g cm : Nat} {E : List Nat} {Ls : Nat → List zF} {lo hi : Nat → Nat} {rs : List (List Nat)} {m : Mp} {v : Nat → Option Nat} {M : zM} (hd : 9 ≤ d) (hcb : zC M ≤ 600128 ∧ zS M ≤ 7301098) (hcx : zC M + 1 ≤ 600128 ∧ zS M + 6 ≤ 7301098) (hL : Lay ad M) (hO : Om ad M E Ls ar us to to2 g cm c) (hU : Dur (zA M (ad 2)) g ar us cm c n gm Ls rs E m) (hB : Blk (zA M (ad 2)) ar us to to2 fl) (hP : Pw ad M on wh lf0 ct du cn0) (hn : n ≤ 64) (hgm : gm ≤ 2 ^ 28) (hwl : wl ≤ 1) (ht : t < 3) (hlh : ∀ l, l < 3 → lo l ≤ hi l) (hhl : ∀ l, l < 3 → hi l ≤ (Ls l).length) (hpk : ∀ l, l < 3 → Pk ad M l (lo l) (hi l)) (hok : ∀ P, P.Perm (pks wl E Ls lo hi 3) → Pok (zA M (ad 2)) Ls lo hi t P) (hvw : zVw M (ad 13) (ad 14) v)  : zMet G mX11_join d [.ref ((ad 0)), .int (nI t), .int (nI wl)] M (fun o M' => (∃ (r : Nat) (E' : List Nat) (Ls' : Nat → List zF) (fl' : Nat), o = .inl (some (.int (nI r))) ∧ r ≤ 1 ∧ Fl ad 0 [34, 35, 36, 39, 68, 69, 70, 71, 98, 100, 101, 102, 131, 133, 162, 163, 164, 165, 166, 227, 228, 258, 259, 260, 325, 326, 327] [2, 18, 24, 25, 27, 28, 31, 64] [21, 29, 35, 36, 37] M M' ∧ (∃ lf cn, Pw ad M' on wh lf ct du cn ∧ (cn = 1 ↔ cn0 = 1)) ∧ Onn ad M' E' Ls' c n (gm + 1) fl' m ∧ Vsm (zA M (ad 2)) (zA M' (ad 2)) E E' Ls Ls' v ∧ (fl = 1 → fl' = 1) ∧ (r = 1 → wl = 1 → fl' = 1) ∧ (r = 0 → ∃ (P T : List Nat) (low : Nat), P.Pairwise (pre (zA M (ad 2))) ∧ P.Perm (pks wl E Ls lo hi 3) ∧ Thn (zA M (ad 2)) P v low T ∧ ¬ Rm (zA M (ad 2)) T (512 - (bks Ls 3).length) (256 - (idn Ls).length))) ∨ (o = .inr 2 ∧ cn0 = 1 ∧ Fl ad 1 [34, 35, 36, 39, 68, 69, 70, 71, 98, 100, 101, 102, 131, 133, 162, 163, 164, 165, 166, 227, 228, 258, 259, 260, 325, 326, 327] [2, 18, 24, 25, 27, 28, 31, 64] [21, 29, 35, 36, 37] M M' ∧ Ofn ad M' c n (gm + 1) m ∧ ∃ lf cn, Pw ad M' 0 3 lf ct du cn)) := by
  refine zMet_of (by decide +kernel) (Nat.le_of_ble_eq_true rfl) rfl hcb ?_
  show zw G mX11_join d _ _ _ 0 [some (.ref ((ad 0))), some (.int (nI t)), some (.int (nI wl)), none] [] M
  obtain ⟨o1, o2, o3, o4, o5, o163, o164, o165, o166, o100, o102, o366, oto, oto2⟩ := id hO
  have hpl : (pks wl E Ls lo hi 3).length ≤ 2048 := by
    have a1 := (pks_sub (wl := wl) (E := E) (Ls := Ls) (lo := lo) (hi := hi) 3).length_le
    have a2 := hU.2.2.2.1.2.2.2.1
    omega
  refine zr_aload_n dX11_join_0 rfl ?_
  refine zr_iload_n dX11_join_1 rfl ?_
  refine zr_callV (md' := mX11_gather) (As := [.int (nI wl)]) dX11_join_2 mlX11_397 okX11_gather rfl inX11_gather slX11_gather (by decide) (hL.K 0 12) rfl (by omega) (Nat.le_of_ble_eq_true rfl) hcb (c_gather (d := d - 1) (E := E) (Ls := Ls) (lo := lo) (hi := hi) (by omega) hcb hL o1 hU.2.2.2.1.1 (fun l hl => ⟨hpk l hl, hlh l hl, hhl l hl⟩) hwl hpl) (fun k M9 h => by cases h.1) (fun v M1 hq => ?_)
  obtain ⟨e0, P, hG⟩ := hq
  cases e0
  have hF1 := hG.1
  have hL1 := hF1.lay hL
  have hPp := hG.2.2.2.1
  refine zr_aload_n dX11_join_5 rfl ?_
  refine zr_getR dX11_join_6 lkX11_70 (by decide) (by decide) rfl (hL1.K 0 12) (hL1.R 361 0 23) ?_
  refine zr_aload_n dX11_join_9 rfl ?_
  refine zr_getR dX11_join_10 lkX11_41 (by decide) (by decide) rfl (hL1.K 0 12) (hL1.R 357 0 13) ?_
  refine zr_iload_n dX11_join_13 rfl ?_
  refine zr_iconst (v := nI 2) dX11_join_14 (by decide) ?_
  refine zr_icmp_neN 22 dX11_join_15 (by decide) (by omega) (by omega) (fun h15 => ?_) (fun h15 => ?_)
  · refine zr_iconst (v := nI 0) dX11_join_22 (by decide) ?_
    refine t_join23 (P := P) (low := 0) hd hcb hcx hL hO hU hB hP hn hgm hwl ht hlh hhl hG.2.2.1 hPp (fun z => by cases z) (by decide) (hok P hPp) hpk hvw (fun M' y1 y2 y3 => ?_) (fun M' E' Ls' fl' y1 y2 y3 y4 y5 y6 => ?_) (fun M' y0 y1 y2 y3 => ?_) hG
    · obtain ⟨T9, low9, y4, y5⟩ := y3
      have eD9 : zA M' (ad 2) = zA M (ad 2) := y1.rA (by decide) (by decide)
      exact Or.inl ⟨0, E, Ls, fl, rfl, by decide, y1.mono, ⟨lf0, cn0, hP.fl y1, Iff.rfl⟩, ⟨ar, us, to, to2, g, cm, rs, hO.fl y1 (hm := y2), by rw [eD9]; exact hU.mono (Nat.le_refl _) (by omega), by rw [eD9]; exact hB⟩, by rw [eD9]; exact Vsm.refl _ _ _ _, id, fun z => (by cases z), fun _ => ⟨P, T9, low9, hG.2.2.1, hPp, y4, y5⟩⟩
    · exact Or.inl ⟨1, E', Ls', fl', rfl, by decide, y1, y2, y3, y4, y5, fun _ => y6, fun z => (by cases z)⟩
    · exact Or.inr ⟨rfl, y0, y1, y2, y3⟩
  · refine zr_iconst (v := nI 1) dX11_join_18 (by decide) ?_
    refine zr_goto 23 dX11_join_19 (by decide) ?_
    refine t_join23 (P := P) (low := 1) hd hcb hcx hL hO hU hB hP hn hgm hwl ht hlh hhl hG.2.2.1 hPp (fun _ => by omega) (by decide) (hok P hPp) hpk hvw (fun M' y1 y2 y3 => ?_) (fun M' E' Ls' fl' y1 y2 y3 y4 y5 y6 => ?_) (fun M' y0 y1 y2 y3 => ?_) hG
    · obtain ⟨T9, low9, y4, y5⟩ := y3
      have eD9 : zA M' (ad 2) = zA M (ad 2) := y1.rA (by decide) (by decide)
      exact Or.inl ⟨0, E, Ls, fl, rfl, by decide, y1.mono, ⟨lf0, cn0, hP.fl y1, Iff.rfl⟩, ⟨ar, us, to, to2, g, cm, rs, hO.fl y1 (hm := y2), by rw [eD9]; exact hU.mono (Nat.le_refl _) (by omega), by rw [eD9]; exact hB⟩, by rw [eD9]; exact Vsm.refl _ _ _ _, id, fun z => (by cases z), fun _ => ⟨P, T9, low9, hG.2.2.1, hPp, y4, y5⟩⟩
    · exact Or.inl ⟨1, E', Ls', fl', rfl, by decide, y1, y2, y3, y4, y5, fun _ => y6, fun z => (by cases z)⟩
    · exact Or.inr ⟨rfl, y0, y1, y2, y3⟩
