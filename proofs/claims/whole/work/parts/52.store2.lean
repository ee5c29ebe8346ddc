/-! ===== LsmStore: nearest, nearestBefore ===== -/
theorem pr_copy {ad : Nat → Nat} {M M' : zM} {F : Nat → Int32} {sp n : Nat} (hL : Lay ad M) (hn : n ≤ 32) (h : M' = zput (zsetA M (ad 9) (va_cpy F (zA M (ad 9)) sp 0 n)) 193 (ad 8) (nI n)) : Fp ad M M' ∧ zRw M' (ad 8) (ad 9) n 32 ∧ rwl (zA M' (ad 9)) n = rwl (fun i => F (sp + i)) n := by
  have hF : Fp ad M M' := by rw [h]; exact ⟨Fr.put (F := fun f i => f = 193 ∧ i = 8) (Fr.setA (A := fun i => i = 9) (Fr.refl ad M _ _ _) hL (i := 9) _ rfl) hL (f := 193) (i := 8) _ ⟨rfl, rfl⟩, fun _ => ⟨n, hn, zput_hit _ _ _ _⟩⟩
  have hL' := hF.lay hL
  refine ⟨hF, ⟨hL'.K 8 7, hL'.R 192 8 9, hL'.K 9 14, hL'.N 9 32, by rw [h]; exact zput_hit _ _ _ _, hn, by decide⟩, ?_⟩
  rw [h]
  refine rwl_congr (fun i hi => ?_)
  rw [show zA (zput (zsetA M (ad 9) (va_cpy F (zA M (ad 9)) sp 0 n)) 193 (ad 8) (nI n)) (ad 9) = va_cpy F (zA M (ad 9)) sp 0 n from zsetA_hit _ _ _, pk_cpy_in (by omega) (by omega), Nat.sub_zero]
set_option maxRecDepth 100000 in
set_option maxHeartbeats 4000000 in
theorem l_nearest {G : zG} {ad : Nat → Nat} {d k0 n0 w e : Nat} {K0 : List Nat} {E : List Nat} {Ls : Nat → List zF} {M : zM} {Q : zOut → zM → Prop} (hd : 5 ≤ d) (hcb : zC M ≤ 600128 ∧ zS M ≤ 7301098) (hL : Lay ad M) (hS : Sto ad M E Ls) (hN : Nwr (zA M (ad 2)) E Ls) (hU : Ud (zA M (ad 2)) (up E Ls 3)) (hE : ∀ p ∈ (up E Ls 3), Ewf (zA M (ad 2)) p) (hul : (up E Ls 3).length ≤ 4096) (hwb : w < 2 ^ 31) (he : Edg e) (hq0 : ∀ (M' : zM) (x : Option Nat), Fp ad M M' → Nea (zA M (ad 2)) (up E Ls 3) w K0 e x → Q (.inl (some (.int (zvi x)))) M') : ∀ (m : Nat) (V : List Nat) (i fr len : Nat) (M1 : zM), V.length = m → i + V.length ≤ 5000 → Edg fr → Fp ad M M1 → zRw M1 (ad 8) (ad 9) len 32 → NS (zA M (ad 2)) (up E Ls 3) w K0 e (rwl (zA M1 (ad 9)) len) fr → (∀ q ∈ (up E Ls 3), ¬ bef (zA M (ad 2)) q (rwl (zA M1 (ad 9)) len) fr → q ∈ V) → zw G mX11_nearest d k0 n0 Q 27 [some (.ref ((ad 0))), some (.int (nI w)), some (.int (nI e)), some (.int (nI fr)), some (.int (nI i)), none, none] [] M1 := by
  intro m
  induction m using Nat.strongRecOn with
  | _ m ih =>
    intro V i fr len M1 hm hi hfr hF1 hw1 hNS hV
    have hfr31 : fr < 2 ^ 31 := by rcases hfr with z | z <;> omega
    have hL1 := hF1.lay hL
    have hcb1 := hF1.cb hcb
    have hS1 := hS.fl hF1.fl
    have eD1 : zA M1 (ad 2) = zA M (ad 2) := hF1.fl.rA (by decide) (by decide)
    refine zr_iload dX11_nearest_27 rfl ?_
    refine zr_ldcw dX11_nearest_29 ctX11_323 ?_
    refine zr_as (y := nI 1000000) (by decide) ?_
    refine zr_icmp_geN 102 dX11_nearest_32 (by decide) (by omega) (by omega) (fun h32 => ?_) (fun h32 => ?_)
    · refine zr_iconst (v := -1) dX11_nearest_102 (by decide) ?_
      refine zr_iret dX11_nearest_103 rfl ?_
      exfalso; omega
    · refine zr_aload_n dX11_nearest_35 rfl ?_
      refine zr_aload_n dX11_nearest_36 rfl ?_
      refine zr_getR dX11_nearest_37 lkX11_28 (by decide) (by decide) rfl (hL1.K 0 12) (hL1.R 355 0 8) ?_
      refine zr_iload_n dX11_nearest_40 rfl ?_
      refine zr_callV (md' := mX11_firstFrom) (As := [.ref ((ad 8)), .int (nI fr)]) dX11_nearest_41 mlX11_324 okX11_firstFrom rfl inX11_firstFrom slX11_firstFrom (by decide) (hL1.K 0 12) rfl (by omega) (Nat.le_of_ble_eq_true rfl) hcb1 (c_firstFrom (d := d - 1) (by omega) hcb1 hL1 hS1 hw1 hfr31) (fun k M9 h => by obtain ⟨-, t, h, -⟩ := h; cases h) (fun v M9 hq => ?_)
      obtain ⟨e9, x, e0, hx⟩ := hq
      cases e0
      rw [e9]
      rw [eD1] at hx
      have hbx : ∀ c, x = some c → c < 2 ^ 31 := fun c hc => by have := (up_eb hS (Nat.le_refl 3) (hx.1 c hc).1).1; omega
      refine zr_istore (lv' := [some (.ref ((ad 0))), some (.int (nI w)), some (.int (nI e)), some (.int (nI fr)), some (.int (nI i)), some (.int (zvi x)), none]) dX11_nearest_44 (Nat.le_of_ble_eq_true rfl) (Nat.le_of_ble_eq_true rfl) rfl rfl ?_
      refine zr_iload dX11_nearest_46 rfl ?_
      refine zr_iconst (v := -1) dX11_nearest_48 (by decide) ?_
      refine zr_icmp_neO 54 dX11_nearest_49 (by decide) hbx (fun xv h49 => ?_) (fun h49 => ?_)
      · subst h49
        refine zr_aload_n dX11_nearest_54 rfl ?_
        refine zr_getR dX11_nearest_55 lkX11_12 (by decide) (by decide) rfl (hL1.K 0 12) (hL1.R 352 0 1) ?_
        refine zr_iload dX11_nearest_58 rfl ?_
        refine zr_aload_n dX11_nearest_60 rfl ?_
        refine zr_getR dX11_nearest_61 lkX11_28 (by decide) (by decide) rfl (hL1.K 0 12) (hL1.R 355 0 8) ?_
        refine zr_callV (md' := mX1_copyKey) (As := [.int (nI xv), .ref ((ad 8))]) dX11_nearest_64 mlX11_312 okX1_copyKey rfl inX1_copyKey slX1_copyKey (by decide) (hL1.K 1 2) rfl (by omega) (Nat.le_of_ble_eq_true rfl) hcb1 (c_Disk_copyKey (d := d - 1) (by omega) hcb1 (Lay.dk hL1) hw1 (by have := (up_eb hS (Nat.le_refl 3) (hx.1 xv rfl).1).1; omega) (by rw [eD1]; exact (hE xv (hx.1 xv rfl).1).2.2.1)) (fun k M1 h => by cases h.1) (fun v M2 hq => ?_)
        obtain ⟨e0, e2⟩ := hq
        cases e0
        obtain ⟨hF2, hw2, hk2⟩ := pr_copy hL1 (by rw [eD1]; exact (hE xv (hx.1 xv rfl).1).2.2.1) e2
        have hL2 := hF2.lay hL1
        have hcb2 := hF2.cb hcb1
        have hS2 := hS1.fl hF2.fl
        have eD2 : zA M2 (ad 2) = zA M (ad 2) := (hF2.fl.rA (by decide) (by decide)).trans eD1
        have hk3 : rwl (zA M2 (ad 9)) (ekl (zA M1 (ad 2)) xv) = eky (zA M (ad 2)) xv := by rw [hk2, eD1]; rfl
        refine zr_aload_n dX11_nearest_67 rfl ?_
        refine zr_aload_n dX11_nearest_68 rfl ?_
        refine zr_getR dX11_nearest_69 lkX11_28 (by decide) (by decide) rfl (hL2.K 0 12) (hL2.R 355 0 8) ?_
        refine zr_iload_n dX11_nearest_72 rfl ?_
        refine zr_callV (md' := mX11_find) (As := [.ref ((ad 8)), .int (nI w)]) dX11_nearest_73 mlX11_161 okX11_find rfl inX11_find slX11_find (by decide) (hL2.K 0 12) rfl (by omega) (Nat.le_of_ble_eq_true rfl) hcb2 (c_find (d := d - 1) (by omega) hcb2 hL2 hS2 hw2 hwb (by rw [eD2]; exact hN)) (fun k M9 h => by obtain ⟨-, t, h, -⟩ := h; cases h) (fun v M9 hq => ?_)
        obtain ⟨e9, y, e0, hy⟩ := hq
        cases e0
        rw [e9]
        rw [eD2, hk3] at hy
        refine zr_istore (lv' := [some (.ref ((ad 0))), some (.int (nI w)), some (.int (nI e)), some (.int (nI fr)), some (.int (nI i)), some (.int (nI xv)), some (.int (zvi y))]) dX11_nearest_76 (Nat.le_of_ble_eq_true rfl) (Nat.le_of_ble_eq_true rfl) rfl rfl ?_
        rcases y with _ | s
        · refine zr_asL (lv' := [some (.ref ((ad 0))), some (.int (nI w)), some (.int (nI e)), some (.int (nI fr)), some (.int (nI i)), some (.int (nI xv)), some (.int ((-1)))]) rfl ?_
          refine zr_aload_n dX11_nearest_78 rfl ?_
          refine zr_getR dX11_nearest_79 lkX11_12 (by decide) (by decide) rfl (hL2.K 0 12) (hL2.R 352 0 1) ?_
          refine zr_iload dX11_nearest_82 rfl ?_
          refine zr_callV (md' := mX1_kind) (As := [.int ((-1))]) dX11_nearest_84 mlX11_165 okX1_kind rfl inX1_kind slX1_kind (by decide) (hL2.K 1 2) rfl (by omega) (Nat.le_of_ble_eq_true rfl) hcb2 (c_Disk_kindM (d := d - 1) hcb2 (Lay.dk hL2)) (fun k M1 h => by cases h.1) (fun v M9 hq => ?_)
          obtain ⟨e0, e9⟩ := hq
          cases e0
          rw [e9]
          refine zr_iconst (v := nI 1) dX11_nearest_87 (by decide) ?_
          refine zr_icmp_neN 94 dX11_nearest_88 (by decide) (by omega) (by omega) (fun h88 => ?_) (fun h88 => ?_)
          · refine zr_iconst (v := nI 0) dX11_nearest_94 (by decide) ?_
            refine zr_istore_n (lv' := [some (.ref ((ad 0))), some (.int (nI w)), some (.int (nI e)), some (.int (nI 0)), some (.int (nI i)), some (.int (nI xv)), some (.int ((-1)))]) dX11_nearest_95 (Nat.le_of_ble_eq_true rfl) (Nat.le_of_ble_eq_true rfl) rfl rfl ?_
            refine zr_iincN (n := 1) (lv' := [some (.ref ((ad 0))), some (.int (nI w)), some (.int (nI e)), some (.int (nI 0)), some (.int (nI (i + 1))), some (.int (nI xv)), some (.int ((-1)))]) dX11_nearest_96 (Nat.le_of_ble_eq_true rfl) (Nat.le_of_ble_eq_true rfl) rfl rfl rfl ?_
            refine zr_goto 27 dX11_nearest_99 (by decide) ?_
            refine zr_drop 5 rfl ?_
            refine zr_drop 6 rfl ?_
            have hNS2 := hNS.next hU he hx hy (fun t ht => by cases ht)
            have hxV : xv ∈ V := hV xv (hx.1 xv rfl).1 (hx.1 xv rfl).2.1
            have hV2 : ∀ q ∈ up E Ls 3, ¬ bef (zA M (ad 2)) q (eky (zA M (ad 2)) xv) 0 → q ∈ V.erase xv := fun q hq hb => (List.mem_erase_of_ne (fun e => by rw [e] at hb; exact hb (Or.inr ⟨rfl, (hU.1 xv (hx.1 xv rfl).1).1⟩))).mpr (hV q hq (fun z => by
              have h2 := (nbef hU (Or.inl rfl) hq).mp hb
              have h3 : klt (eky (zA M (ad 2)) xv) (eky (zA M (ad 2)) q) := (klt_tri (eky (zA M (ad 2)) xv) (eky (zA M (ad 2)) q)).elim id (fun z => z.elim (fun y => absurd y.symm (h2.2 rfl)) (fun y => absurd y h2.1))
              exact (hx.1 xv rfl).2.1 (bef_pre (Or.inl h3) z)))
            have hvl := List.length_erase_of_mem hxV
            have hvp := List.length_pos_of_mem hxV
            exact ih (V.erase xv).length (by omega) (V.erase xv) (i + 1) 0 _ M2 rfl (by omega) (Or.inl rfl) (hF1.trans hF2) hw2 (by rw [hk3]; exact hNS2) (by rw [hk3]; exact hV2)
          · refine zr_iload dX11_nearest_91 rfl ?_
            refine zr_iret dX11_nearest_93 rfl ?_
            exfalso; omega
        · refine zr_asL (lv' := [some (.ref ((ad 0))), some (.int (nI w)), some (.int (nI e)), some (.int (nI fr)), some (.int (nI i)), some (.int (nI xv)), some (.int (nI s))]) rfl ?_
          refine zr_aload_n dX11_nearest_78 rfl ?_
          refine zr_getR dX11_nearest_79 lkX11_12 (by decide) (by decide) rfl (hL2.K 0 12) (hL2.R 352 0 1) ?_
          refine zr_iload dX11_nearest_82 rfl ?_
          refine zr_callV (md' := mX1_kind) (As := [.int (nI s)]) dX11_nearest_84 mlX11_165 okX1_kind rfl inX1_kind slX1_kind (by decide) (hL2.K 1 2) rfl (by omega) (Nat.le_of_ble_eq_true rfl) hcb2 (c_Disk_kind (d := d - 1) hcb2 (Lay.dk hL2) (by have := (up_eb hS (Nat.le_refl 3) (hy.1 s rfl).1).1; omega)) (fun k M1 h => by cases h.1) (fun v M9 hq => ?_)
          obtain ⟨e0, e9⟩ := hq
          cases e0
          rw [e9, eD2]
          refine zr_iconst (v := nI 1) dX11_nearest_87 (by decide) ?_
          refine zr_icmp_neN 94 dX11_nearest_88 (by decide) (by have := zb_lt ((zA M (ad 2)) s); omega) (by decide) (fun h88 => ?_) (fun h88 => ?_)
          · refine zr_iconst (v := nI 0) dX11_nearest_94 (by decide) ?_
            refine zr_istore_n (lv' := [some (.ref ((ad 0))), some (.int (nI w)), some (.int (nI e)), some (.int (nI 0)), some (.int (nI i)), some (.int (nI xv)), some (.int (nI s))]) dX11_nearest_95 (Nat.le_of_ble_eq_true rfl) (Nat.le_of_ble_eq_true rfl) rfl rfl ?_
            refine zr_iincN (n := 1) (lv' := [some (.ref ((ad 0))), some (.int (nI w)), some (.int (nI e)), some (.int (nI 0)), some (.int (nI (i + 1))), some (.int (nI xv)), some (.int (nI s))]) dX11_nearest_96 (Nat.le_of_ble_eq_true rfl) (Nat.le_of_ble_eq_true rfl) rfl rfl rfl ?_
            refine zr_goto 27 dX11_nearest_99 (by decide) ?_
            refine zr_drop 5 rfl ?_
            refine zr_drop 6 rfl ?_
            have hNS2 := hNS.next hU he hx hy (fun t ht => by cases ht; exact h88)
            have hxV : xv ∈ V := hV xv (hx.1 xv rfl).1 (hx.1 xv rfl).2.1
            have hV2 : ∀ q ∈ up E Ls 3, ¬ bef (zA M (ad 2)) q (eky (zA M (ad 2)) xv) 0 → q ∈ V.erase xv := fun q hq hb => (List.mem_erase_of_ne (fun e => by rw [e] at hb; exact hb (Or.inr ⟨rfl, (hU.1 xv (hx.1 xv rfl).1).1⟩))).mpr (hV q hq (fun z => by
              have h2 := (nbef hU (Or.inl rfl) hq).mp hb
              have h3 : klt (eky (zA M (ad 2)) xv) (eky (zA M (ad 2)) q) := (klt_tri (eky (zA M (ad 2)) xv) (eky (zA M (ad 2)) q)).elim id (fun z => z.elim (fun y => absurd y.symm (h2.2 rfl)) (fun y => absurd y h2.1))
              exact (hx.1 xv rfl).2.1 (bef_pre (Or.inl h3) z)))
            have hvl := List.length_erase_of_mem hxV
            have hvp := List.length_pos_of_mem hxV
            exact ih (V.erase xv).length (by omega) (V.erase xv) (i + 1) 0 _ M2 rfl (by omega) (Or.inl rfl) (hF1.trans hF2) hw2 (by rw [hk3]; exact hNS2) (by rw [hk3]; exact hV2)
          · refine zr_iload dX11_nearest_91 rfl ?_
            refine zr_iret dX11_nearest_93 rfl ?_
            exact hq0 M2 (some s) (hF1.trans hF2) (hNS.hit hU he hx hy h88)
      · subst h49
        refine zr_iconst (v := -1) dX11_nearest_52 (by decide) ?_
        refine zr_iret dX11_nearest_53 rfl ?_
        exact hq0 M1 none hF1 (hNS.none hx)
set_option maxRecDepth 100000 in
set_option maxHeartbeats 4000000 in
theorem c_nearest {G : zG} {ad : Nat → Nat} {d w e kl : Nat} {E : List Nat} {Ls : Nat → List zF} {M : zM} (hd : 5 ≤ d) (hcb : zC M ≤ 600128 ∧ zS M ≤ 7301098) (hL : Lay ad M) (hS : Sto ad M E Ls) (hN : Nwr (zA M (ad 2)) E Ls) (hU : Ud (zA M (ad 2)) (up E Ls 3)) (hE : ∀ p ∈ (up E Ls 3), Ewf (zA M (ad 2)) p) (hul : (up E Ls 3).length ≤ 4096) (hwb : w < 2 ^ 31) (hk9 : zI M 193 (ad 4) = nI kl) (hkl : kl ≤ 32) (he : Edg e)  : zMet G mX11_nearest d [.ref ((ad 0)), .int (nI w), .int (nI e)] M (fun o M' => ∃ x : Option Nat, o = .inl (some (.int (zvi x))) ∧ Fp ad M M' ∧ Nea (zA M (ad 2)) (up E Ls 3) w (rwl (zA M (ad 5)) kl) e x) := by
  refine zMet_of (by decide +kernel) (Nat.le_of_ble_eq_true rfl) rfl hcb ?_
  show zw G mX11_nearest d _ _ _ 0 [some (.ref ((ad 0))), some (.int (nI w)), some (.int (nI e)), none, none, none, none] [] M
  refine zr_aload_n dX11_nearest_0 rfl ?_
  refine zr_getR dX11_nearest_1 lkX11_28 (by decide) (by decide) rfl (hL.K 0 12) (hL.R 355 0 8) ?_
  refine zr_aload_n dX11_nearest_4 rfl ?_
  refine zr_getR dX11_nearest_5 lkX11_21 (by decide) (by decide) rfl (hL.K 0 12) (hL.R 353 0 4) ?_
  refine zr_getR dX11_nearest_8 lkX11_315 (by decide) (by decide) rfl (hL.K 4 7) (hL.R 192 4 5) ?_
  refine zr_iconst (v := nI 0) dX11_nearest_11 (by decide) ?_
  refine zr_aload_n dX11_nearest_12 rfl ?_
  refine zr_getR dX11_nearest_13 lkX11_21 (by decide) (by decide) rfl (hL.K 0 12) (hL.R 353 0 4) ?_
  refine zr_getI dX11_nearest_16 lkX11_172 (by decide) (by decide) rfl (hL.K 4 7) ?_
  refine zr_as (y := (nI kl)) hk9 ?_
  refine zr_callV (md' := mX6_copy) (As := [.ref ((ad 5)), .int (nI 0), .int (nI kl)]) dX11_nearest_19 mlX11_319 okX6_copy rfl inX6_copy slX6_copy (by decide) (hL.K 8 7) rfl (by omega) (Nat.le_of_ble_eq_true rfl) hcb (c_Row_copy (d := d - 1) (by omega) hcb (hL.K 8 7) (hL.R 192 8 9) (hL.K 9 14) (hL.K 5 14) (hL.N 9 32) (hL.N 5 32) (by decide) (by decide) hkl (by omega)) (fun k M1 h => by cases h.1) (fun v M1 hq => ?_)
  obtain ⟨e0, e1⟩ := hq
  cases e0
  obtain ⟨hF1, hw1, hk1⟩ := pr_copy hL hkl e1
  have hk2 : rwl (zA M1 (ad 9)) kl = rwl (zA M (ad 5)) kl := by rw [hk1]; simp only [Nat.zero_add]
  refine zr_iload_n dX11_nearest_22 rfl ?_
  refine zr_istore_n (lv' := [some (.ref ((ad 0))), some (.int (nI w)), some (.int (nI e)), some (.int (nI e)), none, none, none]) dX11_nearest_23 (Nat.le_of_ble_eq_true rfl) (Nat.le_of_ble_eq_true rfl) rfl rfl ?_
  refine zr_iconst (v := nI 0) dX11_nearest_24 (by decide) ?_
  refine zr_istore (lv' := [some (.ref ((ad 0))), some (.int (nI w)), some (.int (nI e)), some (.int (nI e)), some (.int (nI 0)), none, none]) dX11_nearest_25 (Nat.le_of_ble_eq_true rfl) (Nat.le_of_ble_eq_true rfl) rfl rfl ?_
  exact l_nearest hd hcb hL hS hN hU hE hul hwb he (fun M' x h1 h2 => ⟨x, rfl, h1, h2⟩) _ (up E Ls 3) 0 e kl M1 rfl (by omega) he hF1 hw1 (by rw [hk2]; exact ⟨fun q _ h1 h2 => absurd h2 h1, fun q _ h => h⟩) (fun q hq _ => hq)
set_option maxRecDepth 100000 in
set_option maxHeartbeats 4000000 in
theorem l_nearestBefore {G : zG} {ad : Nat → Nat} {d k0 n0 w : Nat} {K0 : List Nat} {E : List Nat} {Ls : Nat → List zF} {M : zM} {Q : zOut → zM → Prop} (hd : 5 ≤ d) (hcb : zC M ≤ 600128 ∧ zS M ≤ 7301098) (hL : Lay ad M) (hS : Sto ad M E Ls) (hN : Nwr (zA M (ad 2)) E Ls) (hU : Ud (zA M (ad 2)) (up E Ls 3)) (hE : ∀ p ∈ (up E Ls 3), Ewf (zA M (ad 2)) p) (hul : (up E Ls 3).length ≤ 4096) (hwb : w < 2 ^ 31) (hq0 : ∀ (M' : zM) (x : Option Nat), Fp ad M M' → Neb (zA M (ad 2)) (up E Ls 3) w K0 x → Q (.inl (some (.int (zvi x)))) M') : ∀ (m : Nat) (V : List Nat) (i len : Nat) (M1 : zM), V.length = m → i + V.length ≤ 5000 → Fp ad M M1 → zRw M1 (ad 8) (ad 9) len 32 → NB (zA M (ad 2)) (up E Ls 3) w K0 (rwl (zA M1 (ad 9)) len) → (∀ q ∈ (up E Ls 3), klt (eky (zA M (ad 2)) q) (rwl (zA M1 (ad 9)) len) → q ∈ V) → zw G mX11_nearestBefore d k0 n0 Q 24 [some (.ref ((ad 0))), some (.int (nI w)), some (.int (nI i)), none, none] [] M1 := by
  intro m
  induction m using Nat.strongRecOn with
  | _ m ih =>
    intro V i len M1 hm hi hF1 hw1 hNS hV
    have hL1 := hF1.lay hL
    have hcb1 := hF1.cb hcb
    have hS1 := hS.fl hF1.fl
    have eD1 : zA M1 (ad 2) = zA M (ad 2) := hF1.fl.rA (by decide) (by decide)
    refine zr_iload_n dX11_nearestBefore_24 rfl ?_
    refine zr_ldcw dX11_nearestBefore_25 ctX11_323 ?_
    refine zr_as (y := nI 1000000) (by decide) ?_
    refine zr_icmp_geN 92 dX11_nearestBefore_28 (by decide) (by omega) (by omega) (fun h28 => ?_) (fun h28 => ?_)
    · refine zr_iconst (v := -1) dX11_nearestBefore_92 (by decide) ?_
      refine zr_iret dX11_nearestBefore_93 rfl ?_
      exfalso; omega
    · refine zr_aload_n dX11_nearestBefore_31 rfl ?_
      refine zr_aload_n dX11_nearestBefore_32 rfl ?_
      refine zr_getR dX11_nearestBefore_33 lkX11_28 (by decide) (by decide) rfl (hL1.K 0 12) (hL1.R 355 0 8) ?_
      refine zr_callV (md' := mX11_lastBefore) (As := [.ref ((ad 8))]) dX11_nearestBefore_36 mlX11_327 okX11_lastBefore rfl inX11_lastBefore slX11_lastBefore (by decide) (hL1.K 0 12) rfl (by omega) (Nat.le_of_ble_eq_true rfl) hcb1 (c_lastBefore (d := d - 1) (by omega) hcb1 hL1 hS1 hw1) (fun k M9 h => by obtain ⟨-, t, h, -⟩ := h; cases h) (fun v M9 hq => ?_)
      obtain ⟨e9, x, e0, hx⟩ := hq
      cases e0
      rw [e9]
      rw [eD1] at hx
      have hbx : ∀ c, x = some c → c < 2 ^ 31 := fun c hc => by have := (up_eb hS (Nat.le_refl 3) (hx.1 c hc).1).1; omega
      refine zr_istore_n (lv' := [some (.ref ((ad 0))), some (.int (nI w)), some (.int (nI i)), some (.int (zvi x)), none]) dX11_nearestBefore_39 (Nat.le_of_ble_eq_true rfl) (Nat.le_of_ble_eq_true rfl) rfl rfl ?_
      refine zr_iload_n dX11_nearestBefore_40 rfl ?_
      refine zr_iconst (v := -1) dX11_nearestBefore_41 (by decide) ?_
      refine zr_icmp_neO 47 dX11_nearestBefore_42 (by decide) hbx (fun xv h42 => ?_) (fun h42 => ?_)
      · subst h42
        refine zr_aload_n dX11_nearestBefore_47 rfl ?_
        refine zr_getR dX11_nearestBefore_48 lkX11_12 (by decide) (by decide) rfl (hL1.K 0 12) (hL1.R 352 0 1) ?_
        refine zr_iload_n dX11_nearestBefore_51 rfl ?_
        refine zr_aload_n dX11_nearestBefore_52 rfl ?_
        refine zr_getR dX11_nearestBefore_53 lkX11_28 (by decide) (by decide) rfl (hL1.K 0 12) (hL1.R 355 0 8) ?_
        refine zr_callV (md' := mX1_copyKey) (As := [.int (nI xv), .ref ((ad 8))]) dX11_nearestBefore_56 mlX11_312 okX1_copyKey rfl inX1_copyKey slX1_copyKey (by decide) (hL1.K 1 2) rfl (by omega) (Nat.le_of_ble_eq_true rfl) hcb1 (c_Disk_copyKey (d := d - 1) (by omega) hcb1 (Lay.dk hL1) hw1 (by have := (up_eb hS (Nat.le_refl 3) (hx.1 xv rfl).1).1; omega) (by rw [eD1]; exact (hE xv (hx.1 xv rfl).1).2.2.1)) (fun k M1 h => by cases h.1) (fun v M2 hq => ?_)
        obtain ⟨e0, e2⟩ := hq
        cases e0
        obtain ⟨hF2, hw2, hk2⟩ := pr_copy hL1 (by rw [eD1]; exact (hE xv (hx.1 xv rfl).1).2.2.1) e2
        have hL2 := hF2.lay hL1
        have hcb2 := hF2.cb hcb1
        have hS2 := hS1.fl hF2.fl
        have eD2 : zA M2 (ad 2) = zA M (ad 2) := (hF2.fl.rA (by decide) (by decide)).trans eD1
        have hk3 : rwl (zA M2 (ad 9)) (ekl (zA M1 (ad 2)) xv) = eky (zA M (ad 2)) xv := by rw [hk2, eD1]; rfl
        refine zr_aload_n dX11_nearestBefore_59 rfl ?_
        refine zr_aload_n dX11_nearestBefore_60 rfl ?_
        refine zr_getR dX11_nearestBefore_61 lkX11_28 (by decide) (by decide) rfl (hL2.K 0 12) (hL2.R 355 0 8) ?_
        refine zr_iload_n dX11_nearestBefore_64 rfl ?_
        refine zr_callV (md' := mX11_find) (As := [.ref ((ad 8)), .int (nI w)]) dX11_nearestBefore_65 mlX11_161 okX11_find rfl inX11_find slX11_find (by decide) (hL2.K 0 12) rfl (by omega) (Nat.le_of_ble_eq_true rfl) hcb2 (c_find (d := d - 1) (by omega) hcb2 hL2 hS2 hw2 hwb (by rw [eD2]; exact hN)) (fun k M9 h => by obtain ⟨-, t, h, -⟩ := h; cases h) (fun v M9 hq => ?_)
        obtain ⟨e9, y, e0, hy⟩ := hq
        cases e0
        rw [e9]
        rw [eD2, hk3] at hy
        refine zr_istore (lv' := [some (.ref ((ad 0))), some (.int (nI w)), some (.int (nI i)), some (.int (nI xv)), some (.int (zvi y))]) dX11_nearestBefore_68 (Nat.le_of_ble_eq_true rfl) (Nat.le_of_ble_eq_true rfl) rfl rfl ?_
        rcases y with _ | s
        · refine zr_asL (lv' := [some (.ref ((ad 0))), some (.int (nI w)), some (.int (nI i)), some (.int (nI xv)), some (.int ((-1)))]) rfl ?_
          refine zr_aload_n dX11_nearestBefore_70 rfl ?_
          refine zr_getR dX11_nearestBefore_71 lkX11_12 (by decide) (by decide) rfl (hL2.K 0 12) (hL2.R 352 0 1) ?_
          refine zr_iload dX11_nearestBefore_74 rfl ?_
          refine zr_callV (md' := mX1_kind) (As := [.int ((-1))]) dX11_nearestBefore_76 mlX11_165 okX1_kind rfl inX1_kind slX1_kind (by decide) (hL2.K 1 2) rfl (by omega) (Nat.le_of_ble_eq_true rfl) hcb2 (c_Disk_kindM (d := d - 1) hcb2 (Lay.dk hL2)) (fun k M1 h => by cases h.1) (fun v M9 hq => ?_)
          obtain ⟨e0, e9⟩ := hq
          cases e0
          rw [e9]
          refine zr_iconst (v := nI 1) dX11_nearestBefore_79 (by decide) ?_
          refine zr_icmp_neN 86 dX11_nearestBefore_80 (by decide) (by omega) (by omega) (fun h80 => ?_) (fun h80 => ?_)
          · refine zr_iincN (n := 1) (lv' := [some (.ref ((ad 0))), some (.int (nI w)), some (.int (nI (i + 1))), some (.int (nI xv)), some (.int ((-1)))]) dX11_nearestBefore_86 (Nat.le_of_ble_eq_true rfl) (Nat.le_of_ble_eq_true rfl) rfl rfl rfl ?_
            refine zr_goto 24 dX11_nearestBefore_89 (by decide) ?_
            refine zr_drop 3 rfl ?_
            refine zr_drop 4 rfl ?_
            have hNS2 := hNS.next hU hx hy (fun t ht => by cases ht)
            have hxk := (bef_new hU (hx.1 xv rfl).1).mp (hx.1 xv rfl).2.1
            have hxV : xv ∈ V := hV xv (hx.1 xv rfl).1 hxk
            have hV2 : ∀ q ∈ up E Ls 3, klt (eky (zA M (ad 2)) q) (eky (zA M (ad 2)) xv) → q ∈ V.erase xv := fun q hq hb => (List.mem_erase_of_ne (fun e => by rw [e] at hb; exact klt_irrefl _ hb)).mpr (hV q hq (klt_trans _ _ _ hb hxk))
            have hvl := List.length_erase_of_mem hxV
            have hvp := List.length_pos_of_mem hxV
            exact ih (V.erase xv).length (by omega) (V.erase xv) (i + 1) _ M2 rfl (by omega) (hF1.trans hF2) hw2 (by rw [hk3]; exact hNS2) (by rw [hk3]; exact hV2)
          · refine zr_iload dX11_nearestBefore_83 rfl ?_
            refine zr_iret dX11_nearestBefore_85 rfl ?_
            exfalso; omega
        · refine zr_asL (lv' := [some (.ref ((ad 0))), some (.int (nI w)), some (.int (nI i)), some (.int (nI xv)), some (.int (nI s))]) rfl ?_
          refine zr_aload_n dX11_nearestBefore_70 rfl ?_
          refine zr_getR dX11_nearestBefore_71 lkX11_12 (by decide) (by decide) rfl (hL2.K 0 12) (hL2.R 352 0 1) ?_
          refine zr_iload dX11_nearestBefore_74 rfl ?_
          refine zr_callV (md' := mX1_kind) (As := [.int (nI s)]) dX11_nearestBefore_76 mlX11_165 okX1_kind rfl inX1_kind slX1_kind (by decide) (hL2.K 1 2) rfl (by omega) (Nat.le_of_ble_eq_true rfl) hcb2 (c_Disk_kind (d := d - 1) hcb2 (Lay.dk hL2) (by have := (up_eb hS (Nat.le_refl 3) (hy.1 s rfl).1).1; omega)) (fun k M1 h => by cases h.1) (fun v M9 hq => ?_)
          obtain ⟨e0, e9⟩ := hq
          cases e0
          rw [e9, eD2]
          refine zr_iconst (v := nI 1) dX11_nearestBefore_79 (by decide) ?_
          refine zr_icmp_neN 86 dX11_nearestBefore_80 (by decide) (by have := zb_lt ((zA M (ad 2)) s); omega) (by decide) (fun h80 => ?_) (fun h80 => ?_)
          · refine zr_iincN (n := 1) (lv' := [some (.ref ((ad 0))), some (.int (nI w)), some (.int (nI (i + 1))), some (.int (nI xv)), some (.int (nI s))]) dX11_nearestBefore_86 (Nat.le_of_ble_eq_true rfl) (Nat.le_of_ble_eq_true rfl) rfl rfl rfl ?_
            refine zr_goto 24 dX11_nearestBefore_89 (by decide) ?_
            refine zr_drop 3 rfl ?_
            refine zr_drop 4 rfl ?_
            have hNS2 := hNS.next hU hx hy (fun t ht => by cases ht; exact h80)
            have hxk := (bef_new hU (hx.1 xv rfl).1).mp (hx.1 xv rfl).2.1
            have hxV : xv ∈ V := hV xv (hx.1 xv rfl).1 hxk
            have hV2 : ∀ q ∈ up E Ls 3, klt (eky (zA M (ad 2)) q) (eky (zA M (ad 2)) xv) → q ∈ V.erase xv := fun q hq hb => (List.mem_erase_of_ne (fun e => by rw [e] at hb; exact klt_irrefl _ hb)).mpr (hV q hq (klt_trans _ _ _ hb hxk))
            have hvl := List.length_erase_of_mem hxV
            have hvp := List.length_pos_of_mem hxV
            exact ih (V.erase xv).length (by omega) (V.erase xv) (i + 1) _ M2 rfl (by omega) (hF1.trans hF2) hw2 (by rw [hk3]; exact hNS2) (by rw [hk3]; exact hV2)
          · refine zr_iload dX11_nearestBefore_83 rfl ?_
            refine zr_iret dX11_nearestBefore_85 rfl ?_
            exact hq0 M2 (some s) (hF1.trans hF2) (hNS.hit hU hx hy h80)
      · subst h42
        refine zr_iconst (v := -1) dX11_nearestBefore_45 (by decide) ?_
        refine zr_iret dX11_nearestBefore_46 rfl ?_
        exact hq0 M1 none hF1 (hNS.none hU hx)
set_option maxRecDepth 100000 in
set_option maxHeartbeats 4000000 in
theorem c_nearestBefore {G : zG} {ad : Nat → Nat} {d w kl : Nat} {E : List Nat} {Ls : Nat → List zF} {M : zM} (hd : 5 ≤ d) (hcb : zC M ≤ 600128 ∧ zS M ≤ 7301098) (hL : Lay ad M) (hS : Sto ad M E Ls) (hN : Nwr (zA M (ad 2)) E Ls) (hU : Ud (zA M (ad 2)) (up E Ls 3)) (hE : ∀ p ∈ (up E Ls 3), Ewf (zA M (ad 2)) p) (hul : (up E Ls 3).length ≤ 4096) (hwb : w < 2 ^ 31) (hk9 : zI M 193 (ad 4) = nI kl) (hkl : kl ≤ 32)  : zMet G mX11_nearestBefore d [.ref ((ad 0)), .int (nI w)] M (fun o M' => ∃ x : Option Nat, o = .inl (some (.int (zvi x))) ∧ Fp ad M M' ∧ Neb (zA M (ad 2)) (up E Ls 3) w (rwl (zA M (ad 5)) kl) x) := by
  refine zMet_of (by decide +kernel) (Nat.le_of_ble_eq_true rfl) rfl hcb ?_
  show zw G mX11_nearestBefore d _ _ _ 0 [some (.ref ((ad 0))), some (.int (nI w)), none, none, none] [] M
  refine zr_aload_n dX11_nearestBefore_0 rfl ?_
  refine zr_getR dX11_nearestBefore_1 lkX11_28 (by decide) (by decide) rfl (hL.K 0 12) (hL.R 355 0 8) ?_
  refine zr_aload_n dX11_nearestBefore_4 rfl ?_
  refine zr_getR dX11_nearestBefore_5 lkX11_21 (by decide) (by decide) rfl (hL.K 0 12) (hL.R 353 0 4) ?_
  refine zr_getR dX11_nearestBefore_8 lkX11_315 (by decide) (by decide) rfl (hL.K 4 7) (hL.R 192 4 5) ?_
  refine zr_iconst (v := nI 0) dX11_nearestBefore_11 (by decide) ?_
  refine zr_aload_n dX11_nearestBefore_12 rfl ?_
  refine zr_getR dX11_nearestBefore_13 lkX11_21 (by decide) (by decide) rfl (hL.K 0 12) (hL.R 353 0 4) ?_
  refine zr_getI dX11_nearestBefore_16 lkX11_172 (by decide) (by decide) rfl (hL.K 4 7) ?_
  refine zr_as (y := (nI kl)) hk9 ?_
  refine zr_callV (md' := mX6_copy) (As := [.ref ((ad 5)), .int (nI 0), .int (nI kl)]) dX11_nearestBefore_19 mlX11_319 okX6_copy rfl inX6_copy slX6_copy (by decide) (hL.K 8 7) rfl (by omega) (Nat.le_of_ble_eq_true rfl) hcb (c_Row_copy (d := d - 1) (by omega) hcb (hL.K 8 7) (hL.R 192 8 9) (hL.K 9 14) (hL.K 5 14) (hL.N 9 32) (hL.N 5 32) (by decide) (by decide) hkl (by omega)) (fun k M1 h => by cases h.1) (fun v M1 hq => ?_)
  obtain ⟨e0, e1⟩ := hq
  cases e0
  obtain ⟨hF1, hw1, hk1⟩ := pr_copy hL hkl e1
  have hk2 : rwl (zA M1 (ad 9)) kl = rwl (zA M (ad 5)) kl := by rw [hk1]; simp only [Nat.zero_add]
  refine zr_iconst (v := nI 0) dX11_nearestBefore_22 (by decide) ?_
  refine zr_istore_n (lv' := [some (.ref ((ad 0))), some (.int (nI w)), some (.int (nI 0)), none, none]) dX11_nearestBefore_23 (Nat.le_of_ble_eq_true rfl) (Nat.le_of_ble_eq_true rfl) rfl rfl ?_
  exact l_nearestBefore hd hcb hL hS hN hU hE hul hwb (fun M' x h1 h2 => ⟨x, rfl, h1, h2⟩) _ (up E Ls 3) 0 kl M1 rfl (by omega) hF1 hw1 (by rw [hk2]; exact ⟨fun q _ h1 h2 => absurd h1 h2, fun q _ h => h⟩) (fun q hq _ => hq)
