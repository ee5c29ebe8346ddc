/-! ===== LsmStore$Head: install ===== -/
set_option maxRecDepth 100000 in
set_option maxHeartbeats 4000000 in
theorem l_Head_inst1 {G : zG} {ad : Nat → Nat} {d k0 n0 on wh lf0 ct du cn0 st : Nat} {M : zM} {Q : zOut → zM → Prop} (hd : 8 ≤ d) (hcb : zC M ≤ 600128 ∧ zS M ≤ 7301098) (hcx : zC M + 1 ≤ 600128 ∧ zS M + 6 ≤ 7301098) (hL : Lay ad M) (hP : Pw ad M on wh lf0 ct du cn0) (hbl : ∀ i, i < 512 → zA M (ad 3) i = 0) (hst : st + 2048 ≤ 4096) {ar cm : Nat} (hk : ∀ lf cn : Nat, lf ≤ 400 → cn ≤ 1 → (cn = 1 ↔ cn0 = 1) → zw G mX3_install d k0 n0 Q 54 [some (.ref ((ad 30))), some (.int (nI ar)), some (.int (nI cm)), some (.ref ((ad 22))), some (.int (nI st)), some (.int (nI 4))] [] (pwM ad M (zer (zA M (ad 2)) st (512 * 4)) lf cn)) (hx : ∀ r lf cn : Nat, r ≤ 2048 → lf ≤ 400 → cn ≤ 1 → cn0 = 1 → Q (.inr 2) (cutM ad M (zer (zA M (ad 2)) st r) lf cn)) : ∀ (m i lf cn : Nat), 4 - i = m → i ≤ 4 → lf ≤ 400 → cn ≤ 1 → (cn = 1 ↔ cn0 = 1) → zw G mX3_install d k0 n0 Q 26 [some (.ref ((ad 30))), some (.int (nI ar)), some (.int (nI cm)), some (.ref ((ad 22))), some (.int (nI st)), some (.int (nI i))] [] (pwM ad M (zer (zA M (ad 2)) st (512 * i)) lf cn) := by
  intro m
  induction m using Nat.strongRecOn with
  | _ m ih =>
    intro i lf cn hm hi hlf hcn hcn2
    refine zr_iload dX3_install_26 rfl ?_
    refine zr_iconst (v := nI 4) dX3_install_28 (by decide) ?_
    refine zr_icmp_geN 54 dX3_install_29 (by decide) (by omega) (by omega) (fun h29 => ?_) (fun h29 => ?_)
    · have e9 : i = 4 := by omega
      subst e9
      exact hk lf cn hlf hcn hcn2
    · refine zr_aload_n dX3_install_32 rfl ?_
      refine zr_getR dX3_install_33 lkX3_15 (by decide) (by decide) rfl (hL.K 30 4) (hL.R 96 30 1) ?_
      refine zr_iload dX3_install_36 rfl ?_
      refine zr_iload dX3_install_38 rfl ?_
      refine zr_sipush (v := nI 512) dX3_install_40 (by decide) ?_
      refine zr_imulN dX3_install_43 ?_
      refine zr_iaddN dX3_install_44 ?_
      refine zr_callV (md' := mX1_erase) (As := [.int (nI (st + (i * 512)))]) dX3_install_45 mlX3_33 okX1_erase rfl inX1_erase slX1_erase (by decide) (hL.K 1 2) rfl (by omega) (Nat.le_of_ble_eq_true rfl) hcb (c_Disk_erase (d := d - 1) (by omega) hcb hcx (hL.pw _ _ _) (hP.pw _ hlf hcn) (by omega)) (fun k M1 h => zt_out rfl (by rcases h with ⟨lf', cn', h2, h3, h4, h5, h6, h7⟩ | ⟨r, h1, h2, h3, h4⟩; exact absurd h6 (by simp); cases h3; rw [h4, wCut_pw, pwM_A hL _ _ _ (by decide) (by decide), zer_cpy (fun i hi => hbl i (by omega)), show st + i * 512 = st + 512 * i by omega, zer_app]; exact hx (512 * i + r) lf cn (by omega) hlf hcn (hcn2.mp h2))) (fun v M1 hq => ?_)
      rcases hq with ⟨lf', cn', h2, h3, h4, h5, h6, h7⟩ | ⟨r, h1, h2, h3, h4⟩
      case inr => cases h3
      cases h6
      rw [h7, wOk_pw, pwM_pwM, pwM_hit, pwM_A hL _ _ _ (by decide) (by decide), zer_cpy (fun i hi => hbl i (by omega)), show st + i * 512 = st + 512 * i by omega, zer_app, show 512 * i + 512 = 512 * (i + 1) by omega]
      refine zr_iincN (n := 1) (lv' := [some (.ref ((ad 30))), some (.int (nI ar)), some (.int (nI cm)), some (.ref ((ad 22))), some (.int (nI st)), some (.int (nI (i + 1)))]) dX3_install_48 (Nat.le_of_ble_eq_true rfl) (Nat.le_of_ble_eq_true rfl) rfl rfl rfl ?_
      refine zr_goto 26 dX3_install_51 (by decide) ?_
      exact ih _ (by omega) (i + 1) lf' cn' rfl (by omega) (by omega) h4 (by omega)
set_option maxRecDepth 100000 in
set_option maxHeartbeats 4000000 in
theorem l_Head_inst2 {G : zG} {ad : Nat → Nat} {d k0 n0 on wh lf0 ct du cn0 st : Nat} {M : zM} {Q : zOut → zM → Prop} (hd : 8 ≤ d) (hcb : zC M ≤ 600128 ∧ zS M ≤ 7301098) (hcx : zC M + 1 ≤ 600128 ∧ zS M + 6 ≤ 7301098) (hL : Lay ad M) (hP : Pw ad M on wh lf0 ct du cn0) (hbl : ∀ i, i < 512 → zA M (ad 3) i = 0) (hst : st + 2048 ≤ 4096) {ar cm len : Nat} {E : Nat → Int32} (hlen : zI M 98 (ad 30) = nI len) (hl2 : len ≤ 2048) (hk : ∀ lf cn i : Nat, lf ≤ 400 → cn ≤ 1 → (cn = 1 ↔ cn0 = 1) → zw G mX3_install d k0 n0 Q 107 [some (.ref ((ad 30))), some (.int (nI ar)), some (.int (nI cm)), some (.ref ((ad 22))), some (.int (nI st)), some (.int (nI i))] [] (pwM ad M (va_cpy (zA M (ad 31)) E 0 st len) lf cn)) (hx : ∀ r lf cn : Nat, r ≤ len → lf ≤ 400 → cn ≤ 1 → cn0 = 1 → Q (.inr 2) (cutM ad M (va_cpy (zA M (ad 31)) E 0 st r) lf cn)) : ∀ (m i dn lf cn : Nat), len - dn = m → dn = min i len → i ≤ 4096 → lf ≤ 400 → cn ≤ 1 → (cn = 1 ↔ cn0 = 1) → zw G mX3_install d k0 n0 Q 57 [some (.ref ((ad 30))), some (.int (nI ar)), some (.int (nI cm)), some (.ref ((ad 22))), some (.int (nI st)), some (.int (nI i))] [] (pwM ad M (va_cpy (zA M (ad 31)) E 0 st dn) lf cn) := by
  intro m
  induction m using Nat.strongRecOn with
  | _ m ih =>
    intro i dn lf cn hm hdi hi4 hlf hcn hcn2
    refine zr_iload dX3_install_57 rfl ?_
    refine zr_aload_n dX3_install_59 rfl ?_
    refine zr_getI dX3_install_60 lkX3_39 (by decide) (by decide) rfl (hL.K 30 4) ?_
    refine zr_as (y := (nI len)) ((pwM_I _ _ _ (by decide) (by decide)).trans hlen) ?_
    refine zr_icmp_geN 107 dX3_install_63 (by decide) (by omega) (by omega) (fun h63 => ?_) (fun h63 => ?_)
    · have e9 : dn = len := by omega
      subst e9
      exact hk lf cn i hlf hcn hcn2
    · have hdn : dn = i := by omega
      subst hdn
      refine zr_aload_n dX3_install_66 rfl ?_
      refine zr_getR dX3_install_67 lkX3_15 (by decide) (by decide) rfl (hL.K 30 4) (hL.R 96 30 1) ?_
      refine zr_iload dX3_install_70 rfl ?_
      refine zr_iload dX3_install_72 rfl ?_
      refine zr_iaddN dX3_install_74 ?_
      refine zr_aload_n dX3_install_75 rfl ?_
      refine zr_getR dX3_install_76 lkX3_9 (by decide) (by decide) rfl (hL.K 30 4) (hL.R 97 30 31) ?_
      refine zr_iload dX3_install_79 rfl ?_
      refine zr_sipush (v := nI 512) dX3_install_81 (by decide) ?_
      refine zr_aload_n dX3_install_84 rfl ?_
      refine zr_getI dX3_install_85 lkX3_39 (by decide) (by decide) rfl (hL.K 30 4) ?_
      refine zr_as (y := (nI len)) ((pwM_I _ _ _ (by decide) (by decide)).trans hlen) ?_
      refine zr_iload dX3_install_88 rfl ?_
      refine zr_isubN dX3_install_90 (by omega) ?_
      refine zr_callS (md' := mJ9_min_7cf53) (As := [.int (nI 512), .int (nI (len - dn))]) dX3_install_91 mlX3_42 okJ9_min_7cf53 rfl stJ9_min_7cf53 rfl (by omega) (Nat.le_of_ble_eq_true rfl) hcb (c_min (d := d - 1) (M := (pwM ad M (va_cpy (zA M (ad 31)) E 0 st dn) lf cn)) hcb (by omega) (by omega)) (fun k M1 h => by cases h.1) (fun v M9 hq => ?_)
      obtain ⟨e0, e9⟩ := hq
      cases e0
      rw [e9]
      refine zr_iconst (v := nI 0) dX3_install_94 (by decide) ?_
      refine zr_callV (md' := mX1_write) (As := [.int (nI (st + dn)), .ref ((ad 31)), .int (nI dn), .int (nI (min 512 (len - dn))), .int (nI 0)]) dX3_install_95 mlX3_45 okX1_write rfl inX1_write slX1_write (by decide) (hL.K 1 2) rfl (by omega) (Nat.le_of_ble_eq_true rfl) hcb (c_Disk_write (d := d - 1) (ls := 0) (by omega) hcb hcx (hL.pw _ _ _) (hP.pw _ hlf hcn) (hL.K 31 14) (hL.N 31 2048) (by decide) (by decide) (by omega) (by omega) (by omega)) (fun k M1 h => zt_out rfl (by rcases h with ⟨lf', cn', h1, h2, h3, h4, h5, h6, h7⟩ | ⟨r, h1, h2, h3, h4⟩; exact absurd h6 (by simp); cases h3; rw [h4, wCut_pw, pwM_A hL _ _ _ (by decide) (by decide), show va_cpy (zA M (ad 31)) (va_cpy (zA M (ad 31)) E 0 st dn) dn (st + dn) r = va_cpy (zA M (ad 31)) E 0 st (dn + r) from by rw [← va_cpy_app, Nat.zero_add]]; exact hx (dn + r) lf cn (by omega) hlf hcn (hcn2.mp (h2.elim (fun z => absurd z.2.1 (by decide)) id)))) (fun v M1 hq => ?_)
      rcases hq with ⟨lf', cn', h1, h2, h3, h4, h5, h6, h7⟩ | ⟨r, h1, h2, h3, h4⟩
      case inr => cases h3
      cases h6
      have h5' : cn' = 1 ↔ cn = 1 := h5.trans ⟨fun z => z.elim id (fun y => absurd y.2 (by decide)), Or.inl⟩
      rw [h7, wOk_pw, pwM_pwM, pwM_hit, pwM_A hL _ _ _ (by decide) (by decide), show va_cpy (zA M (ad 31)) (va_cpy (zA M (ad 31)) E 0 st dn) dn (st + dn) (min 512 (len - dn)) = va_cpy (zA M (ad 31)) E 0 st (dn + min 512 (len - dn)) from by rw [← va_cpy_app, Nat.zero_add]]
      refine zr_iincW (w := nI (dn + 512)) (lv' := [some (.ref ((ad 30))), some (.int (nI ar)), some (.int (nI cm)), some (.ref ((ad 22))), some (.int (nI st)), some (.int (nI (dn + 512)))]) dX3_install_98 (Nat.le_of_ble_eq_true rfl) (Nat.le_of_ble_eq_true rfl) rfl rfl (by rw [show Int32.ofInt 512 = nI 512 from by decide, nI_add]) rfl ?_
      refine zr_goto 57 dX3_install_104 (by decide) ?_
      exact ih _ (by omega) (dn + 512) (dn + min 512 (len - dn)) lf' cn' rfl (by omega) (by omega) (by omega) h4 (h5'.trans hcn2)
theorem pwM_fl {ad : Nat → Nat} {M : zM} (hL : Lay ad M) (D : Nat → Int32) (lf cn : Nat) : Fl ad 0 [36, 39] [2] [] M (pwM ad M D lf cn) := (((Fl.refl ad _ _ _ M).setA hL (i := 2)).put hL (f := 36) (i := 1)).put hL (f := 39) (i := 1)
theorem cutM_fl {ad : Nat → Nat} {M : zM} (hL : Lay ad M) (D : Nat → Int32) (lf cn : Nat) : Fl ad 1 [34, 35, 36, 39] [2] [] M (cutM ad M D lf cn) := Fr.thr ((((((Fl.refl ad [34, 35, 36, 39] [2] [] M).setA hL (i := 2)).put hL (f := 36) (i := 1)).put hL (f := 39) (i := 1)).put hL (f := 34) (i := 1)).put hL (f := 35) (i := 1))
theorem cutM_D (ad : Nat → Nat) (M : zM) (D : Nat → Int32) (lf cn : Nat) : zA (cutM ad M D lf cn) (ad 2) = D := pwM_hit ad M D lf cn
theorem cutM_off (ad : Nat → Nat) (M : zM) (D : Nat → Int32) (lf cn : Nat) : zI (cutM ad M D lf cn) 34 (ad 1) = nI 0 ∧ zI (cutM ad M D lf cn) 35 (ad 1) = nI 3 := ⟨show zI (zput (zput (pwM ad M D lf cn) 34 (ad 1) (nI 0)) 35 (ad 1) (nI 3)) 34 (ad 1) = nI 0 from zput_ms (f := 35) (by decide) (zput_hit _ _ _ _), show zI (zput (zput (pwM ad M D lf cn) 34 (ad 1) (nI 0)) 35 (ad 1) (nI 3)) 35 (ad 1) = nI 3 from zput_hit _ _ _ _⟩
theorem cutM_lf (ad : Nat → Nat) (M : zM) (D : Nat → Int32) (lf cn : Nat) : zI (cutM ad M D lf cn) 36 (ad 1) = nI lf ∧ zI (cutM ad M D lf cn) 39 (ad 1) = nI cn := ⟨show zI (zput (zput (pwM ad M D lf cn) 34 (ad 1) (nI 0)) 35 (ad 1) (nI 3)) 36 (ad 1) = nI lf from zput_ms (f := 35) (by decide) (zput_ms (f := 34) (by decide) (show zI (zput (zput (zsetA M (ad 2) D) 36 (ad 1) (nI lf)) 39 (ad 1) (nI cn)) 36 (ad 1) = nI lf from zput_ms (f := 39) (by decide) (zput_hit _ _ _ _))), show zI (zput (zput (pwM ad M D lf cn) 34 (ad 1) (nI 0)) 35 (ad 1) (nI 3)) 39 (ad 1) = nI cn from zput_ms (f := 35) (by decide) (zput_ms (f := 34) (by decide) (show zI (zput (zput (zsetA M (ad 2) D) 36 (ad 1) (nI lf)) 39 (ad 1) (nI cn)) 39 (ad 1) = nI cn from zput_hit _ _ _ _))⟩
/-- behind the writing of a head -/
def HdOk (ad : Nat → Nat) (M M' : zM) (on wh ct du cn0 st g ar cm : Nat) (Ls : Nat → List zF) : Prop :=
  Fl ad 0 [36, 39, 98, 100, 101, 102] [2, 31] [] M M' ∧ (∃ lf cn, Pw ad M' on wh lf ct du cn ∧ (cn = 1 ↔ cn0 = 1)) ∧ zI M' 100 (ad 30) = nI g ∧ zI M' 101 (ad 30) = nI ar ∧ zI M' 102 (ad 30) = nI cm ∧ (∀ p, (p < st ∨ st + 2048 ≤ p) → zA M' (ad 2) p = zA M (ad 2) p) ∧ Rc (fun i => zA M' (ad 2) (st + i)) (hdB g ar cm Ls) ∧ ∀ i, (hdB g ar cm Ls).length ≤ i → i < 2048 → zA M' (ad 2) (st + i) = 0
/-- a head that was cut -/
def HdCut (ad : Nat → Nat) (M M' : zM) (st g ar cm : Nat) (Ls : Nat → List zF) : Prop :=
  Fl ad 1 [34, 35, 36, 39, 98] [2, 31] [] M M' ∧ zI M' 34 (ad 1) = nI 0 ∧ zI M' 35 (ad 1) = nI 3 ∧ (∃ lf cn, lf ≤ 400 ∧ cn ≤ 1 ∧ zI M' 36 (ad 1) = nI lf ∧ zI M' 39 (ad 1) = nI cn) ∧ (∀ p, (p < st ∨ st + 2048 ≤ p) → zA M' (ad 2) p = zA M (ad 2) p) ∧ ((∃ r, r ≤ 2048 ∧ ∀ i, i < 2048 → zA M' (ad 2) (st + i) = if i < r then 0 else zA M (ad 2) (st + i)) ∨ (∃ r, r ≤ (hdB g ar cm Ls).length ∧ Rc (fun i => zA M' (ad 2) (st + i)) ((hdB g ar cm Ls).take r) ∧ ∀ i, r ≤ i → i < 2048 → zA M' (ad 2) (st + i) = 0))
set_option maxRecDepth 100000 in
set_option maxHeartbeats 4000000 in
theorem c_Head_install {G : zG} {ad : Nat → Nat} {d g0 ar cm on wh lf0 ct du cn0 : Nat} {Ls : Nat → List zF} {M : zM} (hd : 8 ≤ d) (hcb : zC M ≤ 600128 ∧ zS M ≤ 7301098) (hcx : zC M + 1 ≤ 600128 ∧ zS M + 6 ≤ 7301098) (hL : Lay ad M) (hV : ∀ l, l < 3 → Lv ad M l (Ls l)) (hbk : ∀ l, l < 3 → ∀ f ∈ Ls l, ∀ b ∈ f.2.1, b < 65536) (hsz : (eLs Ls 3).length ≤ 1900) (hg : zI M 100 (ad 30) = nI g0) (hg2 : g0 < 2 ^ 30) (har : ar ≤ 1) (hcm : cm < 2 ^ 31) (hP : Pw ad M on wh lf0 ct du cn0) (hbl : ∀ i, i < 512 → zA M (ad 3) i = 0)  : zMet G mX3_install d [.ref ((ad 30)), .int (nI ar), .int (nI cm), .ref ((ad 22))] M (fun o M' => (o = .inl none ∧ HdOk ad M M' on wh ct du cn0 ((g0 + 1) % 2 * 2048) (g0 + 1) ar cm Ls) ∨ (o = .inr 2 ∧ cn0 = 1 ∧ HdCut ad M M' ((g0 + 1) % 2 * 2048) (g0 + 1) ar cm Ls)) := by
  refine zMet_of (by decide +kernel) (Nat.le_of_ble_eq_true rfl) rfl hcb ?_
  show zw G mX3_install d _ _ _ 0 [some (.ref ((ad 30))), some (.int (nI ar)), some (.int (nI cm)), some (.ref ((ad 22))), none, none] [] M
  refine zr_aload_n dX3_install_0 rfl ?_
  refine zr_iload_n dX3_install_1 rfl ?_
  refine zr_iload_n dX3_install_2 rfl ?_
  refine zr_aload_n dX3_install_3 rfl ?_
  refine zr_callV (md' := mX3_describe) (As := [.int (nI ar), .int (nI cm), .ref ((ad 22))]) dX3_install_4 mlX3_19 okX3_describe rfl inX3_describe slX3_describe (by decide) (hL.K 30 4) rfl (by omega) (Nat.le_of_ble_eq_true rfl) hcb (c_Head_describe (d := d - 1) (by omega) hcb hL hV hbk hsz hg hg2 har hcm) (fun k M9 h => by cases h.1) (fun v M1 hq => ?_)
  obtain ⟨e0, r, e1, hr⟩ := hq
  cases e0
  have hF1 : Fl ad 0 [98] [31] [] M M1 := by rw [e1]; exact hrM_fl hL _ _
  have hL1 := hF1.lay hL
  have hcb1 := hF1.cb hcb
  have hcx1 : zC M1 + 1 ≤ 600128 ∧ zS M1 + 6 ≤ 7301098 := by have := hF1.cs; omega
  have hP1 := hP.fl hF1
  have hbl1 : ∀ i, i < 512 → zA M1 (ad 3) i = 0 := fun i hi => (congrFun (hF1.rA (by decide) (by decide)) i).trans (hbl i hi)
  have eD1 : zA M1 (ad 2) = zA M (ad 2) := hF1.rA (by decide) (by decide)
  have e31 : zA M1 (ad 31) = r := by rw [e1]; exact hrM_r _ _ _ _
  have h98 : zI M1 98 (ad 30) = nI (hdB (g0 + 1) ar cm Ls).length := by rw [e1]; exact hrM_n _ _ _ _
  have hLl := hdB_len (g0 + 1) ar cm Ls
  have hgm : (g0 + 1) % 2 < 2 := Nat.mod_lt _ (by decide)
  refine zr_aload_n dX3_install_7 rfl ?_
  refine zr_getI dX3_install_8 lkX3_23 (by decide) (by decide) rfl (hL1.K 30 4) ?_
  refine zr_as (y := (nI g0)) ((hF1.rI (by decide) (by decide)).trans hg) ?_
  refine zr_iconst (v := nI 1) dX3_install_11 (by decide) ?_
  refine zr_iaddN dX3_install_12 ?_
  refine zr_iconst (v := nI 2) dX3_install_13 (by decide) ?_
  refine zr_callS (md' := mJ9_floorMod_7cf53) (As := [.int (nI (g0 + 1)), .int (nI 2)]) dX3_install_14 mlX3_27 okJ9_floorMod_7cf53 rfl stJ9_floorMod_7cf53 rfl (by omega) (Nat.le_of_ble_eq_true rfl) hcb1 (c_floorMod (d := d - 1) hcb1 (by omega) (by decide) (by decide)) (fun k M1 h => by cases h.1) (fun v M9 hq => ?_)
  obtain ⟨e0, e9⟩ := hq
  cases e0
  rw [e9]
  refine zr_sipush (v := nI 2048) dX3_install_17 (by decide) ?_
  refine zr_imulN dX3_install_20 ?_
  refine zr_istore (lv' := [some (.ref ((ad 30))), some (.int (nI ar)), some (.int (nI cm)), some (.ref ((ad 22))), some (.int (nI (((g0 + 1) % 2) * 2048))), none]) dX3_install_21 (Nat.le_of_ble_eq_true rfl) (Nat.le_of_ble_eq_true rfl) rfl rfl ?_
  refine zr_iconst (v := nI 0) dX3_install_23 (by decide) ?_
  refine zr_istore (lv' := [some (.ref ((ad 30))), some (.int (nI ar)), some (.int (nI cm)), some (.ref ((ad 22))), some (.int (nI (((g0 + 1) % 2) * 2048))), some (.int (nI 0))]) dX3_install_24 (Nat.le_of_ble_eq_true rfl) (Nat.le_of_ble_eq_true rfl) rfl rfl ?_
  refine zr_asM (M' := pwM ad M1 (zer (zA M1 (ad 2)) ((g0 + 1) % 2 * 2048) (512 * 0)) lf0 cn0) (by rw [Nat.mul_zero, zer_0, pwM_self hP1]) ?_
  refine l_Head_inst1 (M := M1) hd hcb1 hcx1 hL1 hP1 hbl1 (by omega) (fun lf1 cn1 a1 a2 a3 => ?_) (fun rr lf1 cn1 c1 c2 c3 c4 => ?_) _ 0 lf0 cn0 rfl (by omega) hP.2.2.2.2.2.2.2.2.1 hP.2.2.2.2.2.2.2.2.2.2.2 Iff.rfl
  · refine zr_iconst (v := nI 0) dX3_install_54 (by decide) ?_
    refine zr_istore (lv' := [some (.ref ((ad 30))), some (.int (nI ar)), some (.int (nI cm)), some (.ref ((ad 22))), some (.int (nI ((g0 + 1) % 2 * 2048))), some (.int (nI 0))]) dX3_install_55 (Nat.le_of_ble_eq_true rfl) (Nat.le_of_ble_eq_true rfl) rfl rfl ?_
    refine zr_asM (M' := pwM ad M1 (va_cpy (zA M1 (ad 31)) (zer (zA M1 (ad 2)) ((g0 + 1) % 2 * 2048) (512 * 4)) 0 ((g0 + 1) % 2 * 2048) 0) lf1 cn1) (by rw [va_cpy0]) ?_
    refine l_Head_inst2 (M := M1) (E := (zer (zA M1 (ad 2)) ((g0 + 1) % 2 * 2048) (512 * 4))) (len := (hdB (g0 + 1) ar cm Ls).length) hd hcb1 hcx1 hL1 hP1 hbl1 (by omega) h98 (by omega) (fun lf2 cn2 i2 b1 b2 b3 => ?_) (fun rr lf2 cn2 c1 c2 c3 c4 => ?_) _ 0 0 lf1 cn1 rfl (by omega) (by omega) a1 a2 a3
    · refine zr_aload_n dX3_install_107 rfl ?_
      refine zr_dup dX3_install_108 rfl ?_
      refine zr_getI dX3_install_109 lkX3_23 (by decide) (by decide) rfl (hL1.K 30 4) ?_
      refine zr_as (y := (nI g0)) ((pwM_I _ _ _ (by decide) (by decide)).trans ((hF1.rI (by decide) (by decide)).trans hg)) ?_
      refine zr_iconst (v := nI 1) dX3_install_112 (by decide) ?_
      refine zr_iaddN dX3_install_113 ?_
      refine zr_putI dX3_install_114 lkX3_23 (by decide) (by decide) rfl rfl (hL1.K 30 4) ?_
      refine zr_aload_n dX3_install_117 rfl ?_
      refine zr_iload_n dX3_install_118 rfl ?_
      refine zr_putI dX3_install_119 lkX3_49 (by decide) (by decide) rfl rfl (hL1.K 30 4) ?_
      refine zr_aload_n dX3_install_122 rfl ?_
      refine zr_iload_n dX3_install_123 rfl ?_
      refine zr_putI dX3_install_124 lkX3_52 (by decide) (by decide) rfl rfl (hL1.K 30 4) ?_
      refine zr_vret dX3_install_127 rfl ?_
      refine Or.inl ⟨rfl, ?_⟩
      have hF2 := pwM_fl hL1 (va_cpy (zA M1 (ad 31)) (zer (zA M1 (ad 2)) ((g0 + 1) % 2 * 2048) (512 * 4)) 0 ((g0 + 1) % 2 * 2048) (hdB (g0 + 1) ar cm Ls).length) lf2 cn2
      have hD : ∀ p, zA (pwM ad M1 (va_cpy (zA M1 (ad 31)) (zer (zA M1 (ad 2)) ((g0 + 1) % 2 * 2048) (512 * 4)) 0 ((g0 + 1) % 2 * 2048) (hdB (g0 + 1) ar cm Ls).length) lf2 cn2) (ad 2) p = va_cpy r (zer (zA M (ad 2)) ((g0 + 1) % 2 * 2048) 2048) 0 ((g0 + 1) % 2 * 2048) (hdB (g0 + 1) ar cm Ls).length p := fun p => by rw [pwM_hit, e31, eD1]
      refine ⟨((((hF1.mono).trans0 hF2.mono).put hL (f := 100) (i := 30)).put hL (f := 101) (i := 30)).put hL (f := 102) (i := 30), ⟨lf2, cn2, (hP1.pw _ b1 b2).fl ((((Fl.refl ad [100, 101, 102] [] [] _).put (hL1.pw _ _ _) (f := 100) (i := 30)).put (hL1.pw _ _ _) (f := 101) (i := 30)).put (hL1.pw _ _ _) (f := 102) (i := 30)), b3⟩, zput_ms (f := 102) (by decide) (zput_ms (f := 101) (by decide) (zput_hit _ _ _ _)), zput_ms (f := 102) (by decide) (zput_hit _ _ _ _), zput_hit _ _ _ _, fun p hp => ?_, ?_, fun i h1 h2 => ?_⟩
      · refine (hD p).trans ?_
        rw [pk_cpy_out (by omega)]
        unfold zer
        rw [if_neg (by omega)]
      · refine hr.congr (fun i hi => ?_)
        refine (hD _).trans ?_
        rw [pk_cpy_in (by omega) (by omega), Nat.zero_add, Nat.add_sub_cancel_left]
      · refine (hD _).trans ?_
        rw [pk_cpy_out (by omega)]
        unfold zer
        rw [if_pos (by omega)]
    · refine Or.inr ⟨rfl, c4, (hF1.mono).trans0 (cutM_fl hL1 _ _ _).mono, (cutM_off _ _ _ _ _).1, (cutM_off _ _ _ _ _).2, ⟨lf2, cn2, c2, c3, (cutM_lf _ _ _ _ _).1, (cutM_lf _ _ _ _ _).2⟩, fun p hp => ?_, Or.inr ⟨rr, c1, ?_, fun i h1 h2 => ?_⟩⟩
      · rw [cutM_D, eD1, pk_cpy_out (by omega)]
        unfold zer
        rw [if_neg (by omega)]
      · refine (Rc.left (B := (hdB (g0 + 1) ar cm Ls).drop rr) (by rw [List.take_append_drop]; exact hr)).congr (fun i hi => ?_)
        rw [List.length_take] at hi
        rw [cutM_D, e31, pk_cpy_in (by omega) (by omega), Nat.zero_add, Nat.add_sub_cancel_left]
      · rw [cutM_D, pk_cpy_out (by omega)]
        unfold zer
        rw [if_pos (by omega)]
  · refine Or.inr ⟨rfl, c4, (hF1.mono).trans0 (cutM_fl hL1 _ _ _).mono, (cutM_off _ _ _ _ _).1, (cutM_off _ _ _ _ _).2, ⟨lf1, cn1, c2, c3, (cutM_lf _ _ _ _ _).1, (cutM_lf _ _ _ _ _).2⟩, fun p hp => ?_, Or.inl ⟨rr, c1, fun i h2 => ?_⟩⟩
    · rw [cutM_D, eD1]
      unfold zer
      rw [if_neg (by omega)]
    · rw [cutM_D, eD1]
      unfold zer
      by_cases hh : i < rr
      · rw [if_pos (by omega), if_pos hh]
      · rw [if_neg (by omega), if_neg hh]
