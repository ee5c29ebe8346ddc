/-! ===== the law: its loop ===== -/
theorem sub5 {L i : Nat} (hL : L ≤ 320) (hi : i ≤ 320) (h : ¬ (nI L - nI 5 < nI i)) : i + 5 ≤ L := by
  have hz := (zdiff (x := L) (y := 5) (by omega) (by decide)).1
  rcases Nat.lt_or_ge L 5 with z | z
  · exfalso
    refine h ?_
    have h1 := Int32.lt_iff_toInt_lt.mp (hz.mpr z)
    refine Int32.lt_iff_toInt_lt.mpr ?_
    rw [show (0 : Int32).toInt = 0 from by decide] at h1
    rw [nI_toInt (n := i) (by omega)]
    omega
  · have e : nI L - nI 5 = nI (L - 5) := pk_sub z
    rw [e] at h
    have h1 := Int32.not_lt.mp h
    have h2 := Int32.le_iff_toInt_le.mp h1
    rw [nI_toInt (by omega), nI_toInt (by omega)] at h2
    omega
set_option maxRecDepth 100000 in
set_option maxHeartbeats 4000000 in
theorem l_law {G : zG} {ad : Nat → Nat} {d k0 n0 : Nat} {Q : zOut → zM → Prop} (hd : 14 ≤ d) (hgn : gn G ≤ 320) (hq : ∀ M : zM, zC M ≤ 600128 ∧ zS M ≤ 7301098 → Q (.inl (some (.int (nI 1)))) M) : ∀ (m n : Nat) (A : As) (M : zM), 64 - n = m → n ≤ 64 → Sa ad M A n → Ta ad M A → zw G mL_law d k0 n0 Q 23 [some (.ref ((gb G))), some (.ref ((ad 0))), some (.ref ((ad 38))), some (.ref ((ad 46))), some (.int (nI (5 * n))), none, none, none] [] M := by
  intro m
  induction m using Nat.strongRecOn with
  | _ m ih =>
    intro n A M hm hn9 hS hT
    refine zr_iload dL_law_23 rfl ?_
    refine zr_aload_n dL_law_25 rfl ?_
    refine zr_slen dL_law_26 ?_
    refine zr_iconst (v := nI 5) dL_law_27 (by decide) ?_
    refine zr_isub dL_law_28 ?_
    refine zr_icmp_gt 1260 dL_law_29 (by decide) (fun h29 => ?_) (fun h29 => ?_)
    · refine zr_iconst (v := nI 1) dL_law_1260 (by decide) ?_
      refine zr_zret dL_law_1261 rfl (Or.inr rfl) ?_
      exact hq M (by have h9 := hS.1.2.1; omega)
    · have hle : 5 * n + 5 ≤ gn G := sub5 hgn (by omega) h29
      have hn : n < 64 := by omega
      refine zr_aload_n dL_law_32 rfl ?_
      refine zr_iload dL_law_33 rfl ?_
      refine zr_sldN dL_law_35 (by omega) hgn ?_
      refine zr_bipush (v := nI 31) dL_law_36 (by decide) ?_
      refine zr_iand dL_law_38 ?_
      have K : ∀ (M9 : zM) (A9 : As), Sa ad M9 A9 (n + 1) → Ta ad M9 A9 → zw G mL_law d k0 n0 Q 1254 [some (.ref ((gb G))), some (.ref ((ad 0))), some (.ref ((ad 38))), some (.ref ((ad 46))), some (.int (nI (5 * n))), none, none, none] [] M9 := by
        intro M9 A9 hS9 hT9
        refine zr_iincN (n := 5) (lv' := [some (.ref ((gb G))), some (.ref ((ad 0))), some (.ref ((ad 38))), some (.ref ((ad 46))), some (.int (nI ((5 * n) + 5))), none, none, none]) dL_law_1254 (Nat.le_of_ble_eq_true rfl) (Nat.le_of_ble_eq_true rfl) rfl rfl rfl ?_
        refine zr_goto 23 dL_law_1257 (by decide) ?_
        rw [show 5 * n + 5 = 5 * (n + 1) by omega]
        exact ih _ (by omega) (n + 1) A9 M9 rfl (by omega) hS9 hT9
      obtain ⟨v9, ev⟩ : ∃ z, z = ((gx G (5 * n)) &&& (nI 31)) := ⟨_, rfl⟩
      rw [← ev]
      by_cases hout : v9.toInt < 0 ∨ 19 < v9.toInt
      · refine zr_switchOut 1254 dL_law_39 hout (by decide) ?_
        exact K M A (hS.same (Fl.refl ad [] [] [] M) (by decide)) hT
      have h0 : 0 ≤ v9.toInt := by omega
      have hx1 := toInt_nat h0
      have hcl : v9.toInt = (v9.toNatClampNeg : Int) := by show v9.toInt = ((v9.toInt.toNat : Nat) : Int); omega
      obtain ⟨x9, hx9⟩ : ∃ z, z = v9.toNatClampNeg := ⟨_, rfl⟩
      rw [← hx9] at hx1 hcl
      have hx8 : x9 ≤ 19 := by omega
      rw [hx1]
      clear hx9 hout hcl hx1 h0 ev
      rcases (show x9 = 0 ∨ x9 = 1 ∨ x9 = 2 ∨ x9 = 3 ∨ x9 = 4 ∨ x9 = 5 ∨ x9 = 6 ∨ x9 = 7 ∨ x9 = 8 ∨ x9 = 9 ∨ x9 = 10 ∨ x9 = 11 ∨ x9 = 12 ∨ x9 = 13 ∨ x9 = 14 ∨ x9 = 15 ∨ x9 = 16 ∨ x9 = 17 ∨ x9 = 18 ∨ x9 = 19 by omega) with rfl | rfl | rfl | rfl | rfl | rfl | rfl | rfl | rfl | rfl | rfl | rfl | rfl | rfl | rfl | rfl | rfl | rfl | rfl | rfl
      · refine zr_switchIn 132 dL_law_39 (by decide) (by decide) (off := 93) (by decide) (by decide) ?_
        exact g_key hd hS hT hn hle hgn K
      · refine zr_switchIn 260 dL_law_39 (by decide) (by decide) (off := 221) (by decide) (by decide) ?_
        exact g_value hd hS hT hn hle hgn K
      · refine zr_switchIn 388 dL_law_39 (by decide) (by decide) (off := 349) (by decide) (by decide) ?_
        exact g_begin hd hS hT hn hle hgn K
      · refine zr_switchIn 412 dL_law_39 (by decide) (by decide) (off := 373) (by decide) (by decide) ?_
        exact g_put hd hS hT hn hle hgn K
      · refine zr_switchIn 456 dL_law_39 (by decide) (by decide) (off := 417) (by decide) (by decide) ?_
        exact g_remove hd hS hT hn hle hgn K
      · refine zr_switchIn 500 dL_law_39 (by decide) (by decide) (off := 461) (by decide) (by decide) ?_
        exact g_commit hd hS hT hn hle hgn K
      · refine zr_switchIn 544 dL_law_39 (by decide) (by decide) (off := 505) (by decide) (by decide) ?_
        exact g_cancel hd hS hT hn hle hgn K
      · refine zr_switchIn 588 dL_law_39 (by decide) (by decide) (off := 549) (by decide) (by decide) ?_
        exact g_snapshot hd hS hT hn hle hgn K
      · refine zr_switchIn 632 dL_law_39 (by decide) (by decide) (off := 593) (by decide) (by decide) ?_
        exact g_release hd hS hT hn hle hgn K
      · refine zr_switchIn 668 dL_law_39 (by decide) (by decide) (off := 629) (by decide) (by decide) ?_
        exact g_get hd hS hT hn hle hgn K
      · refine zr_switchIn 724 dL_law_39 (by decide) (by decide) (off := 685) (by decide) (by decide) ?_
        exact g_seek hd hS hT hn hle hgn K
      · refine zr_switchIn 808 dL_law_39 (by decide) (by decide) (off := 769) (by decide) (by decide) ?_
        exact g_before hd hS hT hn hle hgn K
      · refine zr_switchIn 864 dL_law_39 (by decide) (by decide) (off := 825) (by decide) (by decide) ?_
        exact g_bytes hd hS hT hn hle hgn K
      · refine zr_switchIn 947 dL_law_39 (by decide) (by decide) (off := 908) (by decide) (by decide) ?_
        exact g_flush hd hS hT hn hle hgn K
      · refine zr_switchIn 971 dL_law_39 (by decide) (by decide) (off := 932) (by decide) (by decide) ?_
        exact g_compact hd hS hT hn hle hgn K
      · refine zr_switchIn 995 dL_law_39 (by decide) (by decide) (off := 956) (by decide) (by decide) ?_
        exact g_power hd hS hT hn hle hgn K
      · refine zr_switchIn 1055 dL_law_39 (by decide) (by decide) (off := 1016) (by decide) (by decide) ?_
        exact g_reopen hd hS hT hn hle hgn K
      · refine zr_switchIn 1099 dL_law_39 (by decide) (by decide) (off := 1060) (by decide) (by decide) ?_
        exact g_told hd hS hT hn hle hgn K
      · refine zr_switchIn 1155 dL_law_39 (by decide) (by decide) (off := 1116) (by decide) (by decide) ?_
        exact g_digest hd hS hT hn hle hgn K
      · refine zr_switchIn 1210 dL_law_39 (by decide) (by decide) (off := 1171) (by decide) (by decide) ?_
        exact g_check hd hS hT hn hle hgn K
