/-! ===== LsmStore$Row ===== -/
set_option maxRecDepth 100000 in
set_option maxHeartbeats 4000000 in
theorem c_Row_copy {G : zG} {d a b f sp n nb nf : Nat} {M : zM} (hd : 2 ≤ d) (hcb : zC M ≤ 600128 ∧ zS M ≤ 7301098) (hK : zK M a = 7) (hR : zR M 192 a = some b) (hKb : zK M b = 14) (hKf : zK M f = 14) (hNb : zN M b = nb) (hNf : zN M f = nf) (hbf : nb ≤ nf) (hf : nf < 2 ^ 31) (hn : n ≤ nb) (hs : sp + n ≤ nf) : zMet G mX6_copy d [.ref a, .ref f, .int (nI sp), .int (nI n)] M (fun o M' => o = .inl none ∧ M' = zput (zsetA M b (va_cpy (zA M f) (zA M b) sp 0 n)) 193 a (nI n)) := by
  refine zMet_of (by decide +kernel) (by decide) rfl hcb ?_
  show zw G mX6_copy d _ _ _ 0 [some (.ref a), some (.ref f), some (.int (nI sp)), some (.int (nI n))] [] M
  refine zr_iload_n dX6_copy_0 rfl ?_
  refine zr_if_ltN 41 dX6_copy_1 (by decide) (by omega) ?_
  refine zr_iload_n dX6_copy_4 rfl ?_
  refine zr_if_ltN 41 dX6_copy_5 (by decide) (by omega) ?_
  refine zr_iload_n dX6_copy_8 rfl ?_
  refine zr_aload_n dX6_copy_9 rfl ?_
  refine zr_getR dX6_copy_10 lkX6_15 (by decide) (by decide) rfl hK hR ?_
  refine zr_alenN dX6_copy_13 hKb (by decide) hNb ?_
  refine zr_icmp_gtN 41 dX6_copy_14 (by decide) (by omega) (by omega) (fun h14 => ?_) (fun h14 => ?_)
  · refine zr_vret dX6_copy_41 rfl ?_
    first | exact ⟨rfl, rfl⟩ | (exfalso; omega)
  · refine zr_iload_n dX6_copy_17 rfl ?_
    refine zr_aload_n dX6_copy_18 rfl ?_
    refine zr_alenN dX6_copy_19 hKf (by decide) hNf ?_
    refine zr_iload_n dX6_copy_20 rfl ?_
    refine zr_isubN dX6_copy_21 (by omega) ?_
    refine zr_icmp_gtN 41 dX6_copy_22 (by decide) (by omega) (by omega) (fun h22 => ?_) (fun h22 => ?_)
    · refine zr_vret dX6_copy_41 rfl ?_
      first | exact ⟨rfl, rfl⟩ | (exfalso; omega)
    · refine zr_aload_n dX6_copy_25 rfl ?_
      refine zr_iload_n dX6_copy_26 rfl ?_
      refine zr_aload_n dX6_copy_27 rfl ?_
      refine zr_getR dX6_copy_28 lkX6_15 (by decide) (by decide) rfl hK hR ?_
      refine zr_iconst (v := nI 0) dX6_copy_31 (by decide) ?_
      refine zr_iload_n dX6_copy_32 rfl ?_
      refine zr_copyN dX6_copy_33 mlX6_25 (Or.inl ⟨hKf, hKb⟩) hNf hNb (by omega) (by omega) (by omega) (by omega) (by omega) (Nat.le_of_ble_eq_true rfl) ?_
      refine zr_aload_n dX6_copy_36 rfl ?_
      refine zr_iload_n dX6_copy_37 rfl ?_
      refine zr_putI dX6_copy_38 lkX6_21 (by decide) (by decide) rfl rfl hK ?_
      refine zr_vret dX6_copy_41 rfl ?_
      first | exact ⟨rfl, rfl⟩ | (exfalso; omega)
