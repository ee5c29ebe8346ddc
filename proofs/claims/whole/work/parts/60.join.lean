/-! ===== LsmStore.join ===== -/
theorem Pw.off {ad : Nat → Nat} {M M' : zM} {on wh lf0 ct du cn0 lf cn : Nat} (hP : Pw ad M on wh lf0 ct du cn0) (h37 : zI M' 37 (ad 1) = zI M 37 (ad 1)) (h38 : zI M' 38 (ad 1) = zI M 38 (ad 1)) (h34 : zI M' 34 (ad 1) = nI 0) (h35 : zI M' 35 (ad 1) = nI 3) (h36 : zI M' 36 (ad 1) = nI lf) (h39 : zI M' 39 (ad 1) = nI cn) (h1 : lf ≤ 400) (h2 : cn ≤ 1) : Pw ad M' 0 3 lf ct du cn :=
  ⟨h34, h35, h36, h37.trans hP.2.2.2.1, h38.trans hP.2.2.2.2.1, h39, by decide, by decide, h1, hP.2.2.2.2.2.2.2.2.2.1, hP.2.2.2.2.2.2.2.2.2.2.1, h2⟩
theorem pkf_mem {Ls : Nat → List zF} {lo hi : Nat → Nat} {f : zF} : ∀ {n : Nat}, f ∈ pkf Ls lo hi n → ∃ l, l < n ∧ f ∈ Ls l
  | 0, h => by cases h
  | n + 1, h => by
    rcases List.mem_append.mp h with z | z
    · obtain ⟨l, h1, h2⟩ := pkf_mem z
      exact ⟨l, by omega, h2⟩
    · exact ⟨n, by omega, List.mem_of_mem_take (List.mem_of_mem_drop z)⟩
/-- rows that are to be written -/
theorem wr_of {D : Nat → Int32} {g ar us cm c n gm : Nat} {Ls : Nat → List zF} {rs : List (List Nat)} {E P T tk : List Nat} {m : Mp} {v : Nat → Option Nat} {low wl : Nat} {lo hi : Nat → Nat} (hU : Dur D g ar us cm c n gm Ls rs E m) (hn : n ≤ 64) (hEb : ∀ p ∈ up E Ls 3, p < 303096) (hPs : P.Pairwise (pre D)) (hPp : P.Perm (pks wl E Ls lo hi 3)) (hT : Thn D P v low T) (htk : tk.Perm (bks Ls 3)) : WR D tk T := by
  have hu : ∀ q ∈ T, q ∈ up E Ls 3 := fun q hq => (pks_sub 3).subset (hPp.mem_iff.mp (hT.1.subset hq))
  have hS := hU.2.2.2.1
  refine ⟨fun q hq => ⟨hEb q (hu q hq), (hS.2.1.1 q (hu q hq)).2⟩, hPs.sublist hT.1, fun q hq => (hS.2.2.1 q (hu q hq)).1, fun q hq j h1 h2 => ?_⟩
  rcases up_mem.mp (hu q hq) with z | ⟨l, hl, z⟩
  · have h3 := hU.2.2.1.in q z
    have h4 := hU.2.2.1.2.2.2.2.1
    have h5 := hU.1.1
    exact Or.inl (by omega)
  · obtain ⟨f, hf, hqf⟩ := lvE_cases z
    have hTF := (hU.2.1.1 l hl).2 f hf
    have hw : q % 512 + eln D q ≤ 512 := hTF.2 q hqf
    have hb := hTF.1.blk hqf
    refine Or.inr (htk.mem_iff.mpr (bks_mem hl hf ?_))
    rw [show j / 512 = q / 512 by omega]
    exact hb
set_option maxRecDepth 100000 in
set_option maxHeartbeats 4000000 in
theorem t_join112_1 {G : zG} {ad : Nat → Nat} {d k0 n0 on wh lf0 ct du cn0 t low c n gm fl ar us to to2 g cm : Nat} {E P T tk uu : List Nat} {Ls : Nat → List zF} {lo hi : Nat → Nat} {rs : List (List Nat)} {m : Mp} {v : Nat → Option Nat} {M : zM} {Q : zOut → zM → Prop} (hd : 9 ≤ d) (hcb : zC M ≤ 600128 ∧ zS M ≤ 7301098) (hcx : zC M + 1 ≤ 600128 ∧ zS M + 6 ≤ 7301098) (hL : Lay ad M) (hO : Om ad M E Ls ar us to to2 g cm c) (hU : Dur (zA M (ad 2)) g ar us cm c n gm Ls rs E m) (hB : Blk (zA M (ad 2)) ar us to to2 fl) (hP : Pw ad M on wh lf0 ct du cn0) (hn : n ≤ 64) (hgm : gm ≤ 2 ^ 28) (ht : t < 3) (hlh : ∀ l, l < 3 → lo l ≤ hi l) (hhl : ∀ l, l < 3 → hi l ≤ (Ls l).length) (hPs : P.Pairwise (pre (zA M (ad 2)))) (hPp : P.Perm (pks 1 E Ls lo hi 3)) (hT : Thn (zA M (ad 2)) P v low T) (hlow : low = 1 → t = 2) (hok : Pok (zA M (ad 2)) Ls lo hi t P) (htk : tk.Perm (bks Ls 3)) (huu : uu.Perm (idn Ls)) (hqB : ∀ (M' : zM) (E' : List Nat) (Ls' : Nat → List zF) (fl' : Nat), Fl ad 0 [34, 35, 36, 39, 68, 69, 70, 71, 98, 100, 101, 102, 131, 133, 162, 163, 164, 165, 166, 227, 228, 258, 259, 260, 325, 326, 327] [2, 18, 24, 25, 27, 28, 31, 64] [21, 29, 35, 36, 37] M M' → (∃ lf cn, Pw ad M' on wh lf ct du cn ∧ (cn = 1 ↔ cn0 = 1)) → Onn ad M' E' Ls' c n (gm + 1) fl' m → Vsm (zA M (ad 2)) (zA M' (ad 2)) E E' Ls Ls' v → (fl = 1 → fl' = 1) → (1 = 1 → fl' = 1) → Q (.inl (some (.int (nI 1)))) M') (hqX : ∀ M' : zM, cn0 = 1 → Fl ad 1 [34, 35, 36, 39, 68, 69, 70, 71, 98, 100, 101, 102, 131, 133, 162, 163, 164, 165, 166, 227, 228, 258, 259, 260, 325, 326, 327] [2, 18, 24, 25, 27, 28, 31, 64] [21, 29, 35, 36, 37] M M' → Ofn ad M' c n (gm + 1) m → (∃ lf cn, Pw ad M' 0 3 lf ct du cn) → Q (.inr 2) M') {ns : List zF} {nbs : List Nat} {M4 M6 : zM} {i : Nat} (h4 : J4 ad M M4 on wh ct du cn0 Ls T tk uu ns nbs) (h6 : J6 ad M4 M6 Ls lo hi t ns) : zw G mX11_join d k0 n0 Q 112 [some (.ref ((ad 0))), some (.int (nI t)), some (.int (nI 1)), some (.int (nI i))] [] M6 := by
  obtain ⟨o1, o2, o3, o4, o5, o163, o164, o165, o166, o100, o102, o366, oto, oto2⟩ := id hO
  obtain ⟨b1, ⟨lf4, cn4, hP4, hcn4⟩, b3, b4, b5, b6, b7, hX, hent, b10⟩ := id h4
  have hF6 : Fl ad 0 [34, 35, 36, 39, 68, 69, 70, 71, 131, 133, 227, 228, 258, 259, 260, 325, 326, 327] [2, 18, 24, 25, 27, 28, 64] [21, 29, 35, 36, 37] M M6 := b1.mono.trans0 h6.1.mono
  have hL6 := hF6.lay hL
  have hcb6 := hF6.cb hcb
  have hcx6 : zC M6 + 1 ≤ 600128 ∧ zS M6 + 6 ≤ 7301098 := by have := hF6.cs; omega
  have hP6 := hP4.fl h6.1
  have eD6 : zA M6 (ad 2) = zA M4 (ad 2) := h6.1.rA (by decide) (by decide)
  have hM6 : Msc ad M6 := b5.fl h6.1
  have h163 : zI M6 163 (ad 15) = nI us := (hF6.rI (by decide) (by decide)).trans o163
  have h164 : zI M6 164 (ad 15) = nI ar := (hF6.rI (by decide) (by decide)).trans o164
  have h165 : zI M6 165 (ad 15) = nI to := (hF6.rI (by decide) (by decide)).trans o165
  have h166 : zI M6 166 (ad 15) = nI to2 := (hF6.rI (by decide) (by decide)).trans o166
  have h100 : zI M6 100 (ad 30) = nI g := (hF6.rI (by decide) (by decide)).trans o100
  have h102 : zI M6 102 (ad 30) = nI cm := (hF6.rI (by decide) (by decide)).trans o102
  have h366 : zI M6 366 (ad 0) = nI c := (hF6.rI (by decide) (by decide)).trans o366
  have har : ar ≤ 1 := hU.1.1
  have hbl6 := hM6.2.2.1
  have hcn9 : c ≤ n := hU.2.2.2.2.2.1
  have hgg : g ≤ gm := hU.2.2.2.2.2.2
  have hcm9 : c = cm + rs.length := hU.2.2.2.2.1
  have hnb : nbs.Perm (bk ns) := by have := hX.2.1; rwa [List.append_nil] at this
  have hxc : ∀ r lf cn : Nat, cn0 = 1 → r ≤ 512 * to2 → lf ≤ 400 → cn ≤ 1 → Q (.inr 2) (cutM ad M6 (zer (zA M6 (ad 2)) (4096 + (1 - ar) * 18432) r) lf cn) := by
    intro r lf cn h0 h1 h2 h3
    have hFc := cutM_fl hL6 (zer (zA M6 (ad 2)) (4096 + (1 - ar) * 18432) r) lf cn
    refine hqX _ h0 (hF6.mono.trans0 hFc.mono) ⟨⟨g, ar, us, cm, Ls, rs, E, ?_⟩, hM6.fl hFc, (hFc.rI (by decide) (by decide)).trans h366⟩ ⟨lf, cn, hP6.off (hFc.rI (by decide) (by decide)) (hFc.rI (by decide) (by decide)) (cutM_off _ _ _ _ _).1 (cutM_off _ _ _ _ _).2 (cutM_lf _ _ _ _ _).1 (cutM_lf _ _ _ _ _).2 h2 h3⟩
    rw [cutM_D]
    exact (jn_old (D4 := zA M4 (ad 2)) (r := r) hU hn htk hX har oto2 h1 (by rw [eD6])).mono (Nat.le_refl _) (by omega)
  refine zr_iload_n dX11_join_112 rfl ?_
  refine zr_if_eq 123 dX11_join_113 (by decide) (fun h113 => absurd h113 (by decide)) (fun h113 => ?_)
  refine zr_aload_n dX11_join_116 rfl ?_
  refine zr_getR dX11_join_117 lkX11_50 (by decide) (by decide) rfl (hL6.K 0 12) (hL6.R 358 0 15) ?_
  refine zr_callV (md' := mX5_clearOther) (As := []) dX11_join_120 mlX11_427 okX5_clearOther rfl inX5_clearOther slX5_clearOther (by decide) (hL6.K 15 6) rfl (by omega) (Nat.le_of_ble_eq_true rfl) hcb6 (c_Log_clearOther (d := d - 1) (ar := ar) (to := to2) (by omega) hcb6 hcx6 hL6 h164 har h166 oto2 hbl6 hP6) (fun k M9 h => zt_out rfl (by rcases h with ⟨l9, c9, v1, v2, v3, h, v5⟩ | ⟨r9, l9, c9, v1, v2, v3, v4, h, v5⟩; exact absurd h (by simp); cases h; rw [v5]; exact hxc _ _ _ (hcn4.mp v4) v1 v2 v3)) (fun v M7 hq => ?_)
  rcases hq with ⟨lf7, cn7, v1, v2, v3, e0, e7⟩ | ⟨r9, l9, c9, v1, v2, v3, v4, e0, e7⟩
  rotate_left
  · cases e0
  cases e0
  have hF7 : Fl ad 0 [36, 39] [2] [] M6 M7 := by rw [e7]; exact pwM_fl hL6 _ _ _
  have hL7 := hF7.lay hL6
  have hcb7 := hF7.cb hcb6
  have hcx7 : zC M7 + 1 ≤ 600128 ∧ zS M7 + 6 ≤ 7301098 := by have := hF7.cs; omega
  have eD7 : zA M7 (ad 2) = zer (zA M4 (ad 2)) (4096 + (1 - ar) * 18432) (512 * to2) := by rw [e7, pwM_hit, eD6]
  have hP7 : Pw ad M7 on wh lf7 ct du cn7 := by rw [e7]; exact hP6.pw _ v1 v2
  have hFa7 : Fl ad 0 [34, 35, 36, 39, 68, 69, 70, 71, 131, 133, 227, 228, 258, 259, 260, 325, 326, 327] [2, 18, 24, 25, 27, 28, 64] [21, 29, 35, 36, 37] M M7 := hF6.trans0 hF7.mono
  have hM7 := hM6.fl hF7
  have hV7 : ∀ l, l < 3 → Lv ad M7 l ((newL Ls lo hi t ns) l) := fun l hl => (h6.2.1 l hl).fl hF7 hl
  have h100b := (hF7.rI (by decide) (by decide)).trans h100
  have h366b := (hF7.rI (by decide) (by decide)).trans h366
  have h164b := (hF7.rI (f := 164) (i := 15) (by decide) (by decide)).trans h164
  have h165b := (hF7.rI (f := 165) (i := 15) (by decide) (by decide)).trans h165
  have hsz := jn_sz1 (Z := zA M7 (ad 2)) (r := (512 * to2)) hU hn ht hlh hPs hPp hT hlow hok htk hX hent har oto2 (Nat.le_refl _) eD7
  have hbk : ∀ l, l < 3 → ∀ f ∈ (newL Ls lo hi t ns) l, ∀ b ∈ f.2.1, b < 65536 := fun l hl f hf b hb => by have := (hsz.2.1 b (bks_mem hl hf hb)).2; omega
  have hUZ : Dur (zA M7 (ad 2)) g ar us cm c n gm Ls rs E m := jn_old (r := (512 * to2)) hU hn htk hX har oto2 (Nat.le_refl _) eD7
  have hxi : ∀ M9 : zM, cn0 = 1 → HdCut ad M7 M9 ((g + 1) % 2 * 2048) (g + 1) (1 - ar) c (newL Ls lo hi t ns) → Q (.inr 2) M9 := by
    intro M9 hc0 hc
    obtain ⟨q1, q2, q3, ⟨lf, cn, q4, q5, q6, q7⟩, q8, q9⟩ := hc
    refine hqX _ hc0 (hFa7.mono.trans0 q1.mono) ⟨?_, hM7.fl q1, (q1.rI (by decide) (by decide)).trans h366b⟩ ⟨lf, cn, hP7.off (q1.rI (by decide) (by decide)) (q1.rI (by decide) (by decide)) q2 q3 q6 q7 q4 q5⟩
    rcases hUZ.1.cut (hU.sz hn).1 hsz.1 (by omega) q8 q9 with z | z
    · exact ⟨g, ar, us, cm, Ls, rs, E, (jn_oldH hUZ hn q8 z).mono (Nat.le_refl _) (by omega)⟩
    · exact ⟨g + 1, (1 - ar), 0, c, (newL Ls lo hi t ns), [], [], (jn_new1 (r := (512 * to2)) hU hn ht hlh hPs hPp hT hlow hok htk hX hent hB hgm har oto2 (Nat.le_refl _) eD7 rfl q8 z).1⟩
  refine zr_aload_n dX11_join_123 rfl ?_
  refine zr_getR dX11_join_124 lkX11_86 (by decide) (by decide) rfl (hL7.K 0 12) (hL7.R 363 0 30) ?_
  refine zr_iload_n dX11_join_127 rfl ?_
  refine zr_if_eq 141 dX11_join_128 (by decide) (fun h128 => absurd h128 (by decide)) (fun h128 => ?_)
  refine zr_aload_n dX11_join_131 rfl ?_
  refine zr_getR dX11_join_132 lkX11_50 (by decide) (by decide) rfl (hL7.K 0 12) (hL7.R 358 0 15) ?_
  refine zr_callV (md' := mX5_other) (As := []) dX11_join_135 mlX11_430 okX5_other rfl inX5_other slX5_other (by decide) (hL7.K 15 6) rfl (by omega) (Nat.le_of_ble_eq_true rfl) hcb7 (c_Log_other (d := d - 1) (ar := ar) hcb7 hL7 h164b har) (fun k M1 h => by cases h.1) (fun v M9 hq => ?_)
  obtain ⟨e0, e9⟩ := hq
  cases e0
  rw [e9]
  refine zr_goto 148 dX11_join_138 (by decide) ?_
  refine zr_iload_n dX11_join_148 rfl ?_
  refine zr_if_eq 159 dX11_join_149 (by decide) (fun h149 => absurd h149 (by decide)) (fun h149 => ?_)
  refine zr_aload_n dX11_join_152 rfl ?_
  refine zr_getI dX11_join_153 lkX11_137 (by decide) (by decide) rfl (hL7.K 0 12) ?_
  refine zr_as (y := (nI c)) h366b ?_
  refine zr_goto 166 dX11_join_156 (by decide) ?_
  refine zr_aload_n dX11_join_166 rfl ?_
  refine zr_getR dX11_join_167 lkX11_63 (by decide) (by decide) rfl (hL7.K 0 12) (hL7.R 360 0 22) ?_
  refine zr_callV (md' := mX3_install) (As := [.int (nI (1 - ar)), .int (nI c), .ref ((ad 22))]) dX11_join_170 mlX11_434 okX3_install rfl inX3_install slX3_install (by decide) (hL7.K 30 4) rfl (by omega) (Nat.le_of_ble_eq_true rfl) hcb7 (c_Head_install (d := d - 1) (Ls := (newL Ls lo hi t ns)) (ar := (1 - ar)) (cm := c) (g0 := g) (by omega) hcb7 hcx7 hL7 hV7 hbk hsz.1 h100b (by omega) (by omega) (by omega) hP7 hM7.2.2.1) (fun k M9 h => zt_out rfl (by rcases h with ⟨h, -⟩ | ⟨h, hc0, hc⟩; exact absurd h (by simp); cases h; exact hxi _ ((v3.trans hcn4).mp hc0) hc)) (fun v M8 hq => ?_)
  rcases hq with ⟨e0, hk8⟩ | ⟨e0, -, -⟩
  rotate_left
  · cases e0
  cases e0
  obtain ⟨q1, ⟨lf8, cn8, hP8, hcn8⟩, q3, q4, q5, q6, q7, q8⟩ := hk8
  have hL8 := q1.lay hL7
  have hcb8 := q1.cb hcb7
  obtain ⟨n1, n2, n3⟩ := jn_new1 (r := (512 * to2)) hU hn ht hlh hPs hPp hT hlow hok htk hX hent hB hgm har oto2 (Nat.le_refl _) eD7 rfl q6 q7
  have hRt8 : Rt ad M8 ((pkf Ls lo hi 3).map (·.1)) := (h6.2.2.fl hF7).fl q1
  have hTb8 : ∀ f ∈ pkf Ls lo hi 3, Tb ad M8 f.1 f.2.1 (fE f).getLast? := fun f hf => by
    obtain ⟨l, hl, hfl⟩ := pkf_mem hf
    obtain ⟨x, hx⟩ := List.getElem?_of_mem hfl
    obtain ⟨y1, -, y3⟩ := (b10 l hl).2.2.1 x f hx
    exact (((y3.fl h6.1 (by omega)).fl hF7 (by omega)).fl q1 (by omega))
  have hTk8 : Tk ad M8 (bk (pkf Ls lo hi 3) ++ bks (newL Ls lo hi t ns) 3) := (((b3.perm (blk_perm hlh ht htk hnb)).fl h6.1).fl hF7).fl q1
  have hU8 : Us ad M8 ((pkf Ls lo hi 3).map (·.1) ++ idn (newL Ls lo hi t ns)) := (((b4.perm (ids_perm hlh ht huu)).fl h6.1).fl hF7).fl q1
  refine zr_aload_n dX11_join_173 rfl ?_
  refine zr_getR dX11_join_174 lkX11_57 (by decide) (by decide) rfl (hL8.K 0 12) (hL8.R 359 0 17) ?_
  refine zr_callV (md' := mX2_freeRetired) (As := []) dX11_join_177 mlX11_438 okX2_freeRetired rfl inX2_freeRetired slX2_freeRetired (by decide) (hL8.K 17 3) rfl (by omega) (Nat.le_of_ble_eq_true rfl) hcb8 (c_Files_freeRetired (d := d - 1) (rs := pkf Ls lo hi 3) (tk := bks (newL Ls lo hi t ns) 3) (us := idn (newL Ls lo hi t ns)) (by omega) hcb8 hL8 hRt8 hTb8 hTk8 hU8) (fun k M1 h => by cases h.1) (fun v M9 hq => ?_)
  obtain ⟨e0, r1, r2, r3, r4⟩ := hq
  cases e0
  have hL9 := r1.lay hL8
  have hcb9 := r1.cb hcb8
  refine zr_iload_n dX11_join_180 rfl ?_
  refine zr_if_eq 191 dX11_join_181 (by decide) (fun h181 => absurd h181 (by decide)) (fun h181 => ?_)
  refine zr_aload_n dX11_join_184 rfl ?_
  refine zr_getR dX11_join_185 lkX11_50 (by decide) (by decide) rfl (hL9.K 0 12) (hL9.R 358 0 15) ?_
  refine zr_callV (md' := mX5_change) (As := []) dX11_join_188 mlX11_441 okX5_change rfl inX5_change slX5_change (by decide) (hL9.K 15 6) rfl (by omega) (Nat.le_of_ble_eq_true rfl) hcb9 (c_Log_change (d := d - 1) (ar := ar) (to := to) hcb9 hL9 ((r1.rI (by decide) (by decide)).trans ((q1.rI (by decide) (by decide)).trans h164b)) har ((r1.rI (by decide) (by decide)).trans ((q1.rI (by decide) (by decide)).trans h165b))) (fun k M1 h => by cases h.1) (fun v M10 hq => ?_)
  obtain ⟨e0, e10⟩ := hq
  cases e0
  have hF10 : Fl ad 0 [162, 163, 164, 165, 166] [] [] M9 M10 := by rw [e10]; exact (((((Fl.refl ad _ _ _ M9).put hL9 (f := 164) (i := 15)).put hL9 (f := 166) (i := 15)).put hL9 (f := 165) (i := 15)).put hL9 (f := 162) (i := 15)).put hL9 (f := 163) (i := 15)
  refine zr_iconst (v := nI 1) dX11_join_191 (by decide) ?_
  refine zr_zret dX11_join_192 rfl (Or.inr rfl) ?_
  have eD10 : zA M10 (ad 2) = zA M8 (ad 2) := (hF10.rA (by decide) (by decide)).trans (r1.rA (by decide) (by decide))
  refine hqB M10 [] (newL Ls lo hi t ns) 1 ((((hFa7.mono).trans0 q1.mono).trans0 r1.mono).trans0 hF10.mono) ⟨lf8, cn8, (hP8.fl r1).fl hF10, hcn8.trans (v3.trans hcn4)⟩ ⟨1 - ar, 0, 0, to, g + 1, c, [], ?_, by rw [eD10]; exact n1, by rw [eD10]; exact n3⟩ (by rw [eD10]; exact n2) (fun _ => rfl) (fun _ => rfl)
  refine ⟨⟨⟨?_, by decide, fun i q hq => by simp at hq⟩, fun q hq => (by cases hq), List.Pairwise.nil, fun l hl => ⟨(((hV7 l hl).fl q1 hl).fl r1 hl).fl hF10 hl, by rw [eD10]; exact (n1.2.1.1 l hl).1⟩⟩, ⟨bks (newL Ls lo hi t ns) 3, r2.fl hF10, List.Perm.refl _⟩, ⟨idn (newL Ls lo hi t ns), r3.fl hF10, List.Perm.refl _⟩, r4.fl hF10, ((hM7.fl q1).fl r1).fl hF10, ?_, ?_, ?_, ?_, (hF10.rI (by decide) (by decide)).trans ((r1.rI (by decide) (by decide)).trans q3), (hF10.rI (by decide) (by decide)).trans ((r1.rI (by decide) (by decide)).trans q5), (hF10.rI (by decide) (by decide)).trans ((r1.rI (by decide) (by decide)).trans ((q1.rI (by decide) (by decide)).trans h366b)), by decide, oto⟩
  · rw [e10]; exact zput_ms (f := 163) (by decide) (zput_hit _ _ _ _)
  · rw [e10]; exact zput_hit _ _ _ _
  · rw [e10]; exact zput_ms (f := 163) (by decide) (zput_ms (f := 162) (by decide) (zput_ms (f := 165) (by decide) (zput_ms (f := 166) (by decide) (zput_hit _ _ _ _))))
  · rw [e10]; exact zput_ms (f := 163) (by decide) (zput_ms (f := 162) (by decide) (zput_hit _ _ _ _))
  · rw [e10]; exact zput_ms (f := 163) (by decide) (zput_ms (f := 162) (by decide) (zput_ms (f := 165) (by decide) (zput_hit _ _ _ _)))
set_option maxRecDepth 100000 in
set_option maxHeartbeats 4000000 in
theorem t_join112_0 {G : zG} {ad : Nat → Nat} {d k0 n0 on wh lf0 ct du cn0 t low c n gm fl ar us to to2 g cm : Nat} {E P T tk uu : List Nat} {Ls : Nat → List zF} {lo hi : Nat → Nat} {rs : List (List Nat)} {m : Mp} {v : Nat → Option Nat} {M : zM} {Q : zOut → zM → Prop} (hd : 9 ≤ d) (hcb : zC M ≤ 600128 ∧ zS M ≤ 7301098) (hcx : zC M + 1 ≤ 600128 ∧ zS M + 6 ≤ 7301098) (hL : Lay ad M) (hO : Om ad M E Ls ar us to to2 g cm c) (hU : Dur (zA M (ad 2)) g ar us cm c n gm Ls rs E m) (hB : Blk (zA M (ad 2)) ar us to to2 fl) (hP : Pw ad M on wh lf0 ct du cn0) (hn : n ≤ 64) (hgm : gm ≤ 2 ^ 28) (ht : t < 3) (hlh : ∀ l, l < 3 → lo l ≤ hi l) (hhl : ∀ l, l < 3 → hi l ≤ (Ls l).length) (hPs : P.Pairwise (pre (zA M (ad 2)))) (hPp : P.Perm (pks 0 E Ls lo hi 3)) (hT : Thn (zA M (ad 2)) P v low T) (hlow : low = 1 → t = 2) (hok : Pok (zA M (ad 2)) Ls lo hi t P) (htk : tk.Perm (bks Ls 3)) (huu : uu.Perm (idn Ls)) (hqB : ∀ (M' : zM) (E' : List Nat) (Ls' : Nat → List zF) (fl' : Nat), Fl ad 0 [34, 35, 36, 39, 68, 69, 70, 71, 98, 100, 101, 102, 131, 133, 162, 163, 164, 165, 166, 227, 228, 258, 259, 260, 325, 326, 327] [2, 18, 24, 25, 27, 28, 31, 64] [21, 29, 35, 36, 37] M M' → (∃ lf cn, Pw ad M' on wh lf ct du cn ∧ (cn = 1 ↔ cn0 = 1)) → Onn ad M' E' Ls' c n (gm + 1) fl' m → Vsm (zA M (ad 2)) (zA M' (ad 2)) E E' Ls Ls' v → (fl = 1 → fl' = 1) → (0 = 1 → fl' = 1) → Q (.inl (some (.int (nI 1)))) M') (hqX : ∀ M' : zM, cn0 = 1 → Fl ad 1 [34, 35, 36, 39, 68, 69, 70, 71, 98, 100, 101, 102, 131, 133, 162, 163, 164, 165, 166, 227, 228, 258, 259, 260, 325, 326, 327] [2, 18, 24, 25, 27, 28, 31, 64] [21, 29, 35, 36, 37] M M' → Ofn ad M' c n (gm + 1) m → (∃ lf cn, Pw ad M' 0 3 lf ct du cn) → Q (.inr 2) M') {ns : List zF} {nbs : List Nat} {M4 M6 : zM} {i : Nat} (h4 : J4 ad M M4 on wh ct du cn0 Ls T tk uu ns nbs) (h6 : J6 ad M4 M6 Ls lo hi t ns) : zw G mX11_join d k0 n0 Q 112 [some (.ref ((ad 0))), some (.int (nI t)), some (.int (nI 0)), some (.int (nI i))] [] M6 := by
  obtain ⟨o1, o2, o3, o4, o5, o163, o164, o165, o166, o100, o102, o366, oto, oto2⟩ := id hO
  obtain ⟨b1, ⟨lf4, cn4, hP4, hcn4⟩, b3, b4, b5, b6, b7, hX, hent, b10⟩ := id h4
  have hF6 : Fl ad 0 [34, 35, 36, 39, 68, 69, 70, 71, 131, 133, 227, 228, 258, 259, 260, 325, 326, 327] [2, 18, 24, 25, 27, 28, 64] [21, 29, 35, 36, 37] M M6 := b1.mono.trans0 h6.1.mono
  have hL6 := hF6.lay hL
  have hcb6 := hF6.cb hcb
  have hcx6 : zC M6 + 1 ≤ 600128 ∧ zS M6 + 6 ≤ 7301098 := by have := hF6.cs; omega
  have hP6 := hP4.fl h6.1
  have eD6 : zA M6 (ad 2) = zA M4 (ad 2) := h6.1.rA (by decide) (by decide)
  have hM6 : Msc ad M6 := b5.fl h6.1
  have h163 : zI M6 163 (ad 15) = nI us := (hF6.rI (by decide) (by decide)).trans o163
  have h164 : zI M6 164 (ad 15) = nI ar := (hF6.rI (by decide) (by decide)).trans o164
  have h165 : zI M6 165 (ad 15) = nI to := (hF6.rI (by decide) (by decide)).trans o165
  have h166 : zI M6 166 (ad 15) = nI to2 := (hF6.rI (by decide) (by decide)).trans o166
  have h100 : zI M6 100 (ad 30) = nI g := (hF6.rI (by decide) (by decide)).trans o100
  have h102 : zI M6 102 (ad 30) = nI cm := (hF6.rI (by decide) (by decide)).trans o102
  have h366 : zI M6 366 (ad 0) = nI c := (hF6.rI (by decide) (by decide)).trans o366
  have har : ar ≤ 1 := hU.1.1
  have hbl6 := hM6.2.2.1
  have hcn9 : c ≤ n := hU.2.2.2.2.2.1
  have hgg : g ≤ gm := hU.2.2.2.2.2.2
  have hcm9 : c = cm + rs.length := hU.2.2.2.2.1
  have hnb : nbs.Perm (bk ns) := by have := hX.2.1; rwa [List.append_nil] at this
  have hFa6 := hF6
  have hV6 := h6.2.1
  have eD6z : zA M6 (ad 2) = zer (zA M4 (ad 2)) (4096 + (1 - ar) * 18432) 0 := by rw [zer_0]; exact eD6
  have hsz := jn_sz0 (Z := zA M6 (ad 2)) (r := 0) hU hn ht hlh hPs hPp hT hlow hok htk hX hent har oto2 (Nat.zero_le _) eD6z
  have hbk : ∀ l, l < 3 → ∀ f ∈ (newL Ls lo hi t ns) l, ∀ b ∈ f.2.1, b < 65536 := fun l hl f hf b hb => by have := (hsz.2.1 b (bks_mem hl hf hb)).2; omega
  have hUZ : Dur (zA M6 (ad 2)) g ar us cm c n gm Ls rs E m := jn_old (r := 0) hU hn htk hX har oto2 (Nat.zero_le _) eD6z
  have hxi : ∀ M9 : zM, cn0 = 1 → HdCut ad M6 M9 ((g + 1) % 2 * 2048) (g + 1) ar cm (newL Ls lo hi t ns) → Q (.inr 2) M9 := by
    intro M9 hc0 hc
    obtain ⟨q1, q2, q3, ⟨lf, cn, q4, q5, q6, q7⟩, q8, q9⟩ := hc
    refine hqX _ hc0 (hFa6.mono.trans0 q1.mono) ⟨?_, hM6.fl q1, (q1.rI (by decide) (by decide)).trans h366⟩ ⟨lf, cn, hP6.off (q1.rI (by decide) (by decide)) (q1.rI (by decide) (by decide)) q2 q3 q6 q7 q4 q5⟩
    rcases hUZ.1.cut (hU.sz hn).1 hsz.1 (by omega) q8 q9 with z | z
    · exact ⟨g, ar, us, cm, Ls, rs, E, (jn_oldH hUZ hn q8 z).mono (Nat.le_refl _) (by omega)⟩
    · exact ⟨g + 1, ar, us, cm, (newL Ls lo hi t ns), rs, E, (jn_new0 (r := 0) hU hn ht hlh hPs hPp hT hlow hok htk hX hent hB hgm har oto2 (Nat.zero_le _) eD6z rfl q8 z).1⟩
  refine zr_iload_n dX11_join_112 rfl ?_
  refine zr_if_eq 123 dX11_join_113 (by decide) (fun h113 => ?_) (fun h113 => absurd rfl h113)
  refine zr_aload_n dX11_join_123 rfl ?_
  refine zr_getR dX11_join_124 lkX11_86 (by decide) (by decide) rfl (hL6.K 0 12) (hL6.R 363 0 30) ?_
  refine zr_iload_n dX11_join_127 rfl ?_
  refine zr_if_eq 141 dX11_join_128 (by decide) (fun h128 => ?_) (fun h128 => absurd rfl h128)
  refine zr_aload_n dX11_join_141 rfl ?_
  refine zr_getR dX11_join_142 lkX11_50 (by decide) (by decide) rfl (hL6.K 0 12) (hL6.R 358 0 15) ?_
  refine zr_getI dX11_join_145 lkX11_433 (by decide) (by decide) rfl (hL6.K 15 6) ?_
  refine zr_as (y := (nI ar)) h164 ?_
  refine zr_iload_n dX11_join_148 rfl ?_
  refine zr_if_eq 159 dX11_join_149 (by decide) (fun h149 => ?_) (fun h149 => absurd rfl h149)
  refine zr_aload_n dX11_join_159 rfl ?_
  refine zr_getR dX11_join_160 lkX11_86 (by decide) (by decide) rfl (hL6.K 0 12) (hL6.R 363 0 30) ?_
  refine zr_getI dX11_join_163 lkX11_350 (by decide) (by decide) rfl (hL6.K 30 4) ?_
  refine zr_as (y := (nI cm)) h102 ?_
  refine zr_aload_n dX11_join_166 rfl ?_
  refine zr_getR dX11_join_167 lkX11_63 (by decide) (by decide) rfl (hL6.K 0 12) (hL6.R 360 0 22) ?_
  refine zr_callV (md' := mX3_install) (As := [.int (nI ar), .int (nI cm), .ref ((ad 22))]) dX11_join_170 mlX11_434 okX3_install rfl inX3_install slX3_install (by decide) (hL6.K 30 4) rfl (by omega) (Nat.le_of_ble_eq_true rfl) hcb6 (c_Head_install (d := d - 1) (Ls := (newL Ls lo hi t ns)) (ar := ar) (cm := cm) (g0 := g) (by omega) hcb6 hcx6 hL6 hV6 hbk hsz.1 h100 (by omega) (by omega) (by omega) hP6 hM6.2.2.1) (fun k M9 h => zt_out rfl (by rcases h with ⟨h, -⟩ | ⟨h, hc0, hc⟩; exact absurd h (by simp); cases h; exact hxi _ (hcn4.mp hc0) hc)) (fun v M8 hq => ?_)
  rcases hq with ⟨e0, hk8⟩ | ⟨e0, -, -⟩
  rotate_left
  · cases e0
  cases e0
  obtain ⟨q1, ⟨lf8, cn8, hP8, hcn8⟩, q3, q4, q5, q6, q7, q8⟩ := hk8
  have hL8 := q1.lay hL6
  have hcb8 := q1.cb hcb6
  obtain ⟨n1, n2, n3⟩ := jn_new0 (r := 0) hU hn ht hlh hPs hPp hT hlow hok htk hX hent hB hgm har oto2 (Nat.zero_le _) eD6z rfl q6 q7
  have hRt8 : Rt ad M8 ((pkf Ls lo hi 3).map (·.1)) := h6.2.2.fl q1
  have hTb8 : ∀ f ∈ pkf Ls lo hi 3, Tb ad M8 f.1 f.2.1 (fE f).getLast? := fun f hf => by
    obtain ⟨l, hl, hfl⟩ := pkf_mem hf
    obtain ⟨x, hx⟩ := List.getElem?_of_mem hfl
    obtain ⟨y1, -, y3⟩ := (b10 l hl).2.2.1 x f hx
    exact ((y3.fl h6.1 (by omega)).fl q1 (by omega))
  have hTk8 : Tk ad M8 (bk (pkf Ls lo hi 3) ++ bks (newL Ls lo hi t ns) 3) := ((b3.perm (blk_perm hlh ht htk hnb)).fl h6.1).fl q1
  have hU8 : Us ad M8 ((pkf Ls lo hi 3).map (·.1) ++ idn (newL Ls lo hi t ns)) := ((b4.perm (ids_perm hlh ht huu)).fl h6.1).fl q1
  refine zr_aload_n dX11_join_173 rfl ?_
  refine zr_getR dX11_join_174 lkX11_57 (by decide) (by decide) rfl (hL8.K 0 12) (hL8.R 359 0 17) ?_
  refine zr_callV (md' := mX2_freeRetired) (As := []) dX11_join_177 mlX11_438 okX2_freeRetired rfl inX2_freeRetired slX2_freeRetired (by decide) (hL8.K 17 3) rfl (by omega) (Nat.le_of_ble_eq_true rfl) hcb8 (c_Files_freeRetired (d := d - 1) (rs := pkf Ls lo hi 3) (tk := bks (newL Ls lo hi t ns) 3) (us := idn (newL Ls lo hi t ns)) (by omega) hcb8 hL8 hRt8 hTb8 hTk8 hU8) (fun k M1 h => by cases h.1) (fun v M9 hq => ?_)
  obtain ⟨e0, r1, r2, r3, r4⟩ := hq
  cases e0
  have hL9 := r1.lay hL8
  have hcb9 := r1.cb hcb8
  refine zr_iload_n dX11_join_180 rfl ?_
  refine zr_if_eq 191 dX11_join_181 (by decide) (fun h181 => ?_) (fun h181 => absurd rfl h181)
  refine zr_iconst (v := nI 1) dX11_join_191 (by decide) ?_
  refine zr_zret dX11_join_192 rfl (Or.inr rfl) ?_
  have eD9 : zA M9 (ad 2) = zA M8 (ad 2) := r1.rA (by decide) (by decide)
  have hF9 : Fl ad 0 [34, 35, 36, 39, 68, 69, 70, 71, 98, 100, 101, 102, 131, 133, 162, 163, 164, 165, 166, 227, 228, 258, 259, 260, 325, 326, 327] [2, 18, 24, 25, 27, 28, 31, 64] [21, 29, 35, 36, 37] M M9 := ((hFa6.mono).trans0 q1.mono).trans0 r1.mono
  obtain ⟨f1, f2, f3⟩ := n1.2.2.1.2.2.2.1.facts (fun q hq => by cases hq) List.Pairwise.nil n1.2.2.1.2.2.1
  refine hqB M9 E (newL Ls lo hi t ns) fl hF9 ⟨lf8, cn8, hP8.fl r1, hcn8.trans hcn4⟩ ⟨ar, us, to, to2, g + 1, cm, rs, ?_, by rw [eD9]; exact n1, by rw [eD9]; exact n3⟩ (by rw [eD9]; exact n2) id (fun z => by cases z)
  exact ⟨⟨⟨(r1.rI (by decide) (by decide)).trans ((q1.rI (by decide) (by decide)).trans ((hF6.rI (by decide) (by decide)).trans o1.1.1)), o1.1.2.1, fun i q hq => (congrFun (r1.rA (i := 16) (by decide) (by decide)) i).trans ((congrFun (q1.rA (i := 16) (by decide) (by decide)) i).trans ((congrFun (hF6.rA (i := 16) (by decide) (by decide)) i).trans (o1.1.2.2 i q hq)))⟩, by rw [eD9]; exact f1, by rw [eD9]; exact f2, fun l hl => ⟨((h6.2.1 l hl).fl q1 hl).fl r1 hl, by rw [eD9]; exact (n1.2.1.1 l hl).1⟩⟩, ⟨bks (newL Ls lo hi t ns) 3, r2, List.Perm.refl _⟩, ⟨idn (newL Ls lo hi t ns), r3, List.Perm.refl _⟩, r4, (hM6.fl q1).fl r1, (r1.rI (by decide) (by decide)).trans ((q1.rI (by decide) (by decide)).trans h163), (r1.rI (by decide) (by decide)).trans ((q1.rI (by decide) (by decide)).trans h164), (r1.rI (by decide) (by decide)).trans ((q1.rI (by decide) (by decide)).trans h165), (r1.rI (by decide) (by decide)).trans ((q1.rI (by decide) (by decide)).trans h166), (r1.rI (by decide) (by decide)).trans q3, (r1.rI (by decide) (by decide)).trans q5, (r1.rI (by decide) (by decide)).trans ((q1.rI (by decide) (by decide)).trans h366), oto, oto2⟩
