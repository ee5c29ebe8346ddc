/-! ===== LsmStore$Head: install ===== -/
set_option maxRecDepth 100000 in
set_option maxHeartbeats 4000000 in
theorem l_Head_inst1 {G : zG} {ad : Nat → Nat} {d k0 n0 on wh lf0 ct du cn0 st : Nat} {M : zM} {Q : zOut → zM → Prop} (hd : 8 ≤ d) (hcb : zC M ≤ 600128 ∧ zS M ≤ 7301098) (hcx : zC M + 1 ≤ 600128 ∧ zS M + 6 ≤ 7301098) (hL : Lay ad M) (hP : Pw ad M on wh lf0 ct du cn0) (hbl : ∀ i, i < 512 → zA M (ad 3) i = 0) (hst : st + 2048 ≤ 4096) {ar cm : Nat} (hk : ∀ lf cn : Nat, lf ≤ 400 → cn ≤ 1 → (cn = 1 ↔ cn0 = 1) → zw G mX3_install d k0 n0 Q 54 [some (.ref ((ad 30))), some (.int (nI ar)), some (.int (nI cm)), some (.ref ((ad 22))), some (.int (nI st)), some (.int (nI 4))] [] (pwM ad M (zer (zA M (ad 2)) st (512 * 4)) lf cn)) (hx : ∀ r lf cn : Nat, r ≤ 2048 → lf ≤ 400 → cn ≤ 1 → cn = 1 → Q (.inr 2) (cutM ad M (zer (zA M (ad 2)) st r) lf cn)) : ∀ (m i lf cn : Nat), 4 - i = m → i ≤ 4 → lf ≤ 400 → cn ≤ 1 → (cn = 1 ↔ cn0 = 1) → zw G mX3_install d k0 n0 Q 26 [some (.ref ((ad 30))), some (.int (nI ar)), some (.int (nI cm)), some (.ref ((ad 22))), some (.int (nI st)), some (.int (nI i))] [] (pwM ad M (zer (zA M (ad 2)) st (512 * i)) lf cn) := by
  intro m
  induction m using Nat.strongRecOn with
  | _ m ih =>
    intro i lf cn hm hi hlf hcn hcn2
    refine zr_iload dX3_install_26 rfl ?_
    refine zr_iconst (v := nI 4) dX3_install_28 (by decide) ?_
    refine zr_icmp_geN 54 dX3_install_29 (by decide) (by omega) (by omega) (fun h29 => ?_) (fun h29 => ?_)
    · have e9 : i = 4 := by omega
      subst e9
      exact hk lf cn hlf hcn hcn2
    · refine zr_aload_n dX3_install_32 rfl ?_
      refine zr_getR dX3_install_33 lkX3_15 (by decide) (by decide) rfl (hL.K 30 4) (hL.R 96 30 1) ?_
      refine zr_iload dX3_install_36 rfl ?_
      refine zr_iload dX3_install_38 rfl ?_
      refine zr_sipush (v := nI 512) dX3_install_40 (by decide) ?_
      refine zr_imulN dX3_install_43 ?_
      refine zr_iaddN dX3_install_44 ?_
      refine zr_callV (md' := mX1_erase) (As := [.int (nI (st + (i * 512)))]) dX3_install_45 mlX3_33 okX1_erase rfl inX1_erase slX1_erase (by decide) (hL.K 1 2) rfl (by omega) (Nat.le_of_ble_eq_true rfl) hcb (c_Disk_erase (d := d - 1) (by omega) hcb hcx (hL.pw _ _ _) (hP.pw _ hlf hcn) (by omega)) (fun k M1 h => zt_out rfl (by rcases h with ⟨lf', cn', h2, h3, h4, h5, h6, h7⟩ | ⟨r, h1, h2, h3, h4⟩; exact absurd h6 (by simp); cases h3; rw [h4, wCut_pw, pwM_A hL _ _ _ (by decide) (by decide), zer_cpy (fun i hi => hbl i (by omega)), show st + i * 512 = st + 512 * i by omega, zer_app]; exact hx (512 * i + r) lf cn (by omega) hlf hcn h2)) (fun v M1 hq => ?_)
      rcases hq with ⟨lf', cn', h2, h3, h4, h5, h6, h7⟩ | ⟨r, h1, h2, h3, h4⟩
      case inr => cases h3
      cases h6
      rw [h7, wOk_pw, pwM_pwM, pwM_hit, pwM_A hL _ _ _ (by decide) (by decide), zer_cpy (fun i hi => hbl i (by omega)), show st + i * 512 = st + 512 * i by omega, zer_app, show 512 * i + 512 = 512 * (i + 1) by omega]
      refine zr_iincN (n := 1) (lv' := [some (.ref ((ad 30))), some (.int (nI ar)), some (.int (nI cm)), some (.ref ((ad 22))), some (.int (nI st)), some (.int (nI (i + 1)))]) dX3_install_48 (Nat.le_of_ble_eq_true rfl) (Nat.le_of_ble_eq_true rfl) rfl rfl rfl ?_
      refine zr_goto 26 dX3_install_51 (by decide) ?_
      exact ih _ (by omega) (i + 1) lf' cn' rfl (by omega) (by omega) h4 (by omega)
set_option maxRecDepth 100000 in
set_option maxHeartbeats 4000000 in
theorem l_Head_inst2 {G : zG} {ad : Nat → Nat} {d k0 n0 on wh lf0 ct du cn0 st : Nat} {M : zM} {Q : zOut → zM → Prop} (hd : 8 ≤ d) (hcb : zC M ≤ 600128 ∧ zS M ≤ 7301098) (hcx : zC M + 1 ≤ 600128 ∧ zS M + 6 ≤ 7301098) (hL : Lay ad M) (hP : Pw ad M on wh lf0 ct du cn0) (hbl : ∀ i, i < 512 → zA M (ad 3) i = 0) (hst : st + 2048 ≤ 4096) {ar cm len : Nat} {E : Nat → Int32} (hlen : zI M 98 (ad 30) = nI len) (hl2 : len ≤ 2048) (hk : ∀ lf cn i : Nat, lf ≤ 400 → cn ≤ 1 → (cn = 1 ↔ cn0 = 1) → zw G mX3_install d k0 n0 Q 107 [some (.ref ((ad 30))), some (.int (nI ar)), some (.int (nI cm)), some (.ref ((ad 22))), some (.int (nI st)), some (.int (nI i))] [] (pwM ad M (va_cpy (zA M (ad 31)) E 0 st len) lf cn)) (hx : ∀ r lf cn : Nat, r ≤ len → lf ≤ 400 → cn ≤ 1 → cn = 1 → Q (.inr 2) (cutM ad M (va_cpy (zA M (ad 31)) E 0 st r) lf cn)) : ∀ (m i dn lf cn : Nat), len - dn = m → dn = min i len → i ≤ 4096 → lf ≤ 400 → cn ≤ 1 → (cn = 1 ↔ cn0 = 1) → zw G mX3_install d k0 n0 Q 57 [some (.ref ((ad 30))), some (.int (nI ar)), some (.int (nI cm)), some (.ref ((ad 22))), some (.int (nI st)), some (.int (nI i))] [] (pwM ad M (va_cpy (zA M (ad 31)) E 0 st dn) lf cn) := by
  intro m
  induction m using Nat.strongRecOn with
  | _ m ih =>
    intro i dn lf cn hm hdi hi4 hlf hcn hcn2
    refine zr_iload dX3_install_57 rfl ?_
    refine zr_aload_n dX3_install_59 rfl ?_
    refine zr_getI dX3_install_60 lkX3_39 (by decide) (by decide) rfl (hL.K 30 4) ?_
    refine zr_as (y := (nI len)) ((pwM_I _ _ _ (by decide) (by decide)).trans hlen) ?_
    refine zr_icmp_geN 107 dX3_install_63 (by decide) (by omega) (by omega) (fun h63 => ?_) (fun h63 => ?_)
    · have e9 : dn = len := by omega
      subst e9
      exact hk lf cn i hlf hcn hcn2
    · have hdn : dn = i := by omega
      subst hdn
      refine zr_aload_n dX3_install_66 rfl ?_
      refine zr_getR dX3_install_67 lkX3_15 (by decide) (by decide) rfl (hL.K 30 4) (hL.R 96 30 1) ?_
      refine zr_iload dX3_install_70 rfl ?_
      refine zr_iload dX3_install_72 rfl ?_
      refine zr_iaddN dX3_install_74 ?_
      refine zr_aload_n dX3_install_75 rfl ?_
      refine zr_getR dX3_install_76 lkX3_9 (by decide) (by decide) rfl (hL.K 30 4) (hL.R 97 30 31) ?_
      refine zr_iload dX3_install_79 rfl ?_
      refine zr_sipush (v := nI 512) dX3_install_81 (by decide) ?_
      refine zr_aload_n dX3_install_84 rfl ?_
      refine zr_getI dX3_install_85 lkX3_39 (by decide) (by decide) rfl (hL.K 30 4) ?_
      refine zr_as (y := (nI len)) ((pwM_I _ _ _ (by decide) (by decide)).trans hlen) ?_
      refine zr_iload dX3_install_88 rfl ?_
      refine zr_isubN dX3_install_90 (by omega) ?_
      refine zr_callS (md' := mJ9_min_7cf53) (As := [.int (nI 512), .int (nI (len - dn))]) dX3_install_91 mlX3_42 okJ9_min_7cf53 rfl stJ9_min_7cf53 rfl (by omega) (Nat.le_of_ble_eq_true rfl) hcb (c_min (d := d - 1) (M := (pwM ad M (va_cpy (zA M (ad 31)) E 0 st dn) lf cn)) hcb (by omega) (by omega)) (fun k M1 h => by cases h.1) (fun v M9 hq => ?_)
      obtain ⟨e0, e9⟩ := hq
      cases e0
      rw [e9]
      refine zr_iconst (v := nI 0) dX3_install_94 (by decide) ?_
      refine zr_callV (md' := mX1_write) (As := [.int (nI (st + dn)), .ref ((ad 31)), .int (nI dn), .int (nI (min 512 (len - dn))), .int (nI 0)]) dX3_install_95 mlX3_45 okX1_write rfl inX1_write slX1_write (by decide) (hL.K 1 2) rfl (by omega) (Nat.le_of_ble_eq_true rfl) hcb (c_Disk_write (d := d - 1) (ls := 0) (by omega) hcb hcx (hL.pw _ _ _) (hP.pw _ hlf hcn) (hL.K 31 14) (hL.N 31 2048) (by decide) (by decide) (by omega) (by omega) (by omega)) (fun k M1 h => zt_out rfl (by rcases h with ⟨lf', cn', h1, h2, h3, h4, h5, h6, h7⟩ | ⟨r, h1, h2, h3, h4⟩; exact absurd h6 (by simp); cases h3; rw [h4, wCut_pw, pwM_A hL _ _ _ (by decide) (by decide), show va_cpy (zA M (ad 31)) (va_cpy (zA M (ad 31)) E 0 st dn) dn (st + dn) r = va_cpy (zA M (ad 31)) E 0 st (dn + r) from by rw [← va_cpy_app, Nat.zero_add]]; exact hx (dn + r) lf cn (by omega) hlf hcn (h2.elim (fun z => absurd z.2.1 (by decide)) id))) (fun v M1 hq => ?_)
      rcases hq with ⟨lf', cn', h1, h2, h3, h4, h5, h6, h7⟩ | ⟨r, h1, h2, h3, h4⟩
      case inr => cases h3
      cases h6
      have h5' : cn' = 1 ↔ cn = 1 := h5.trans ⟨fun z => z.elim id (fun y => absurd y.2 (by decide)), Or.inl⟩
      rw [h7, wOk_pw, pwM_pwM, pwM_hit, pwM_A hL _ _ _ (by decide) (by decide), show va_cpy (zA M (ad 31)) (va_cpy (zA M (ad 31)) E 0 st dn) dn (st + dn) (min 512 (len - dn)) = va_cpy (zA M (ad 31)) E 0 st (dn + min 512 (len - dn)) from by rw [← va_cpy_app, Nat.zero_add]]
      refine zr_iincW (w := nI (dn + 512)) (lv' := [some (.ref ((ad 30))), some (.int (nI ar)), some (.int (nI cm)), some (.ref ((ad 22))), some (.int (nI st)), some (.int (nI (dn + 512)))]) dX3_install_98 (Nat.le_of_ble_eq_true rfl) (Nat.le_of_ble_eq_true rfl) rfl rfl (by rw [show Int32.ofInt 512 = nI 512 from by decide, nI_add]) rfl ?_
      refine zr_goto 57 dX3_install_104 (by decide) ?_
      exact ih _ (by omega) (dn + 512) (dn + min 512 (len - dn)) lf' cn' rfl (by omega) (by omega) (by omega) h4 (h5'.trans hcn2)
