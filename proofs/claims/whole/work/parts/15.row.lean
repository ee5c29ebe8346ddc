/-! ===== LsmStore$Row ===== -/
theorem zi_neg {x : Int32} (h : x < 0) : x.toInt < 0 := by
  rw [Int32.lt_iff_toInt_lt] at h
  exact h
theorem zi_gt {x : Int32} {n : Nat} (h : nI n < x) (hn : n < 2 ^ 31) : (n : Int) < x.toInt := by
  rw [Int32.lt_iff_toInt_lt, nI_toInt hn] at h
  exact h
set_option maxRecDepth 100000 in
set_option maxHeartbeats 4000000 in
theorem c_Row_copy {G : zG} {d a b f sp n nb nf : Nat} {M : zM} (hd : 2 ≤ d) (hcb : zC M ≤ 600128 ∧ zS M ≤ 7301098) (hK : zK M a = 7) (hR : zR M 192 a = some b) (hKb : zK M b = 14) (hKf : zK M f = 14) (hNb : zN M b = nb) (hNf : zN M f = nf) (hbf : nb ≤ nf) (hf : nf < 2 ^ 31) (hn : n ≤ nb) (hs : sp + n ≤ nf) : zMet G mX6_copy d [.ref a, .ref f, .int (nI sp), .int (nI n)] M (fun o M' => o = .inl none ∧ M' = zput (zsetA M b (va_cpy (zA M f) (zA M b) sp 0 n)) 193 a (nI n)) := by
  refine zMet_of (by decide +kernel) (Nat.le_of_ble_eq_true rfl) rfl hcb ?_
  show zw G mX6_copy d _ _ _ 0 [some (.ref a), some (.ref f), some (.int (nI sp)), some (.int (nI n))] [] M
  refine zr_iload_n dX6_copy_0 rfl ?_
  refine zr_if_ltN 41 dX6_copy_1 (by decide) (by omega) ?_
  refine zr_iload_n dX6_copy_4 rfl ?_
  refine zr_if_ltN 41 dX6_copy_5 (by decide) (by omega) ?_
  refine zr_iload_n dX6_copy_8 rfl ?_
  refine zr_aload_n dX6_copy_9 rfl ?_
  refine zr_getR dX6_copy_10 lkX6_15 (by decide) (by decide) rfl hK hR ?_
  refine zr_alenN dX6_copy_13 hKb (by decide) hNb ?_
  refine zr_icmp_gtN 41 dX6_copy_14 (by decide) (by omega) (by omega) (fun h14 => ?_) (fun h14 => ?_)
  · refine zr_vret dX6_copy_41 rfl ?_
    first | exact ⟨rfl, rfl⟩ | (exfalso; omega)
  · refine zr_iload_n dX6_copy_17 rfl ?_
    refine zr_aload_n dX6_copy_18 rfl ?_
    refine zr_alenN dX6_copy_19 hKf (by decide) hNf ?_
    refine zr_iload_n dX6_copy_20 rfl ?_
    refine zr_isubN dX6_copy_21 (by omega) ?_
    refine zr_icmp_gtN 41 dX6_copy_22 (by decide) (by omega) (by omega) (fun h22 => ?_) (fun h22 => ?_)
    · refine zr_vret dX6_copy_41 rfl ?_
      first | exact ⟨rfl, rfl⟩ | (exfalso; omega)
    · refine zr_aload_n dX6_copy_25 rfl ?_
      refine zr_iload_n dX6_copy_26 rfl ?_
      refine zr_aload_n dX6_copy_27 rfl ?_
      refine zr_getR dX6_copy_28 lkX6_15 (by decide) (by decide) rfl hK hR ?_
      refine zr_iconst (v := nI 0) dX6_copy_31 (by decide) ?_
      refine zr_iload_n dX6_copy_32 rfl ?_
      refine zr_copyN dX6_copy_33 mlX6_25 (Or.inl ⟨hKf, hKb⟩) hNf hNb (by omega) (by omega) (by omega) (by omega) (by omega) (Nat.le_of_ble_eq_true rfl) ?_
      refine zr_aload_n dX6_copy_36 rfl ?_
      refine zr_iload_n dX6_copy_37 rfl ?_
      refine zr_putI dX6_copy_38 lkX6_21 (by decide) (by decide) rfl rfl hK ?_
      refine zr_vret dX6_copy_41 rfl ?_
      first | exact ⟨rfl, rfl⟩ | (exfalso; omega)
set_option maxRecDepth 100000 in
set_option maxHeartbeats 4000000 in
theorem c_Row_accepts {G : zG} {d a b nb len : Nat} {n fr : Int32} {M : zM} (hcb : zC M ≤ 600128 ∧ zS M ≤ 7301098) (hK : zK M a = 7) (hR : zR M 192 a = some b) (hKb : zK M b = 14) (hNb : zN M b = nb) (hb : nb < 2 ^ 30) (hI : zI M 193 a = nI len) (hl : len ≤ nb) : zMet G mX6_accepts d [.ref a, .int n, .int fr] M (fun o M' => M' = M ∧ ∃ r : Nat, o = .inl (some (.int (nI r))) ∧ r ≤ 1 ∧ (r = 1 ↔ 0 ≤ n.toInt ∧ n.toInt ≤ 8 ∧ ((if fr = 0 then len else 0 : Nat) : Int) + n.toInt ≤ nb)) := by
  refine zMet_of (by decide +kernel) (Nat.le_of_ble_eq_true rfl) rfl hcb ?_
  show zw G mX6_accepts d _ _ _ 0 [some (.ref a), some (.int n), some (.int fr)] [] M
  refine zr_iload_n dX6_accepts_0 rfl ?_
  refine zr_if_lt 36 dX6_accepts_1 (by decide) (fun h1 => ?_) (fun h1 => ?_)
  · refine zr_iconst (v := nI 0) dX6_accepts_36 (by decide) ?_
    refine zr_zret dX6_accepts_37 rfl (Or.inl rfl) ?_
    refine ⟨rfl, 0, rfl, by decide, ?_⟩
    first
      | (have z1 := zi_neg h1; omega)
      | (have z1 := zi_gt h7 (by decide); omega)
      | (rw [nI_toInt (show k < 2 ^ 31 by omega), if_pos h11]; omega)
      | (rw [nI_toInt (show k < 2 ^ 31 by omega), if_neg h11]; omega)
  · refine zr_iload_n dX6_accepts_4 rfl ?_
    refine zr_bipush (v := nI 8) dX6_accepts_5 (by decide) ?_
    refine zr_icmp_gt 36 dX6_accepts_7 (by decide) (fun h7 => ?_) (fun h7 => ?_)
    · refine zr_iconst (v := nI 0) dX6_accepts_36 (by decide) ?_
      refine zr_zret dX6_accepts_37 rfl (Or.inl rfl) ?_
      refine ⟨rfl, 0, rfl, by decide, ?_⟩
      first
        | (have z1 := zi_neg h1; omega)
        | (have z1 := zi_gt h7 (by decide); omega)
        | (rw [nI_toInt (show k < 2 ^ 31 by omega), if_pos h11]; omega)
        | (rw [nI_toInt (show k < 2 ^ 31 by omega), if_neg h11]; omega)
    · obtain ⟨k, hk8, rfl⟩ := nI_of2 (n := 8) (M := nI 8) (by decide) h1 (Int32.not_lt.mp h7)
      refine zr_iload_n dX6_accepts_10 rfl ?_
      refine zr_if_eq 18 dX6_accepts_11 (by decide) (fun h11 => ?_) (fun h11 => ?_)
      · refine zr_aload_n dX6_accepts_18 rfl ?_
        refine zr_getI dX6_accepts_19 lkX6_21 (by decide) (by decide) rfl hK ?_
        refine zr_as (y := (nI len)) hI ?_
        refine zr_iload_n dX6_accepts_22 rfl ?_
        refine zr_iaddN dX6_accepts_23 ?_
        refine zr_aload_n dX6_accepts_24 rfl ?_
        refine zr_getR dX6_accepts_25 lkX6_15 (by decide) (by decide) rfl hK hR ?_
        refine zr_alenN dX6_accepts_28 hKb (by decide) hNb ?_
        refine zr_icmp_gtN 36 dX6_accepts_29 (by decide) (by omega) (by omega) (fun h29 => ?_) (fun h29 => ?_)
        · refine zr_iconst (v := nI 0) dX6_accepts_36 (by decide) ?_
          refine zr_zret dX6_accepts_37 rfl (Or.inl rfl) ?_
          refine ⟨rfl, 0, rfl, by decide, ?_⟩
          first
            | (have z1 := zi_neg h1; omega)
            | (have z1 := zi_gt h7 (by decide); omega)
            | (rw [nI_toInt (show k < 2 ^ 31 by omega), if_pos h11]; omega)
            | (rw [nI_toInt (show k < 2 ^ 31 by omega), if_neg h11]; omega)
        · refine zr_iconst (v := nI 1) dX6_accepts_32 (by decide) ?_
          refine zr_goto 37 dX6_accepts_33 (by decide) ?_
          refine zr_zret dX6_accepts_37 rfl (Or.inr rfl) ?_
          refine ⟨rfl, 1, rfl, by decide, ?_⟩
          first
            | (have z1 := zi_neg h1; omega)
            | (have z1 := zi_gt h7 (by decide); omega)
            | (rw [nI_toInt (show k < 2 ^ 31 by omega), if_pos h11]; omega)
            | (rw [nI_toInt (show k < 2 ^ 31 by omega), if_neg h11]; omega)
      · refine zr_iconst (v := nI 0) dX6_accepts_14 (by decide) ?_
        refine zr_goto 22 dX6_accepts_15 (by decide) ?_
        refine zr_iload_n dX6_accepts_22 rfl ?_
        refine zr_iaddN dX6_accepts_23 ?_
        refine zr_aload_n dX6_accepts_24 rfl ?_
        refine zr_getR dX6_accepts_25 lkX6_15 (by decide) (by decide) rfl hK hR ?_
        refine zr_alenN dX6_accepts_28 hKb (by decide) hNb ?_
        refine zr_icmp_gtN 36 dX6_accepts_29 (by decide) (by omega) (by omega) (fun h29 => ?_) (fun h29 => ?_)
        · refine zr_iconst (v := nI 0) dX6_accepts_36 (by decide) ?_
          refine zr_zret dX6_accepts_37 rfl (Or.inl rfl) ?_
          refine ⟨rfl, 0, rfl, by decide, ?_⟩
          first
            | (have z1 := zi_neg h1; omega)
            | (have z1 := zi_gt h7 (by decide); omega)
            | (rw [nI_toInt (show k < 2 ^ 31 by omega), if_pos h11]; omega)
            | (rw [nI_toInt (show k < 2 ^ 31 by omega), if_neg h11]; omega)
        · refine zr_iconst (v := nI 1) dX6_accepts_32 (by decide) ?_
          refine zr_goto 37 dX6_accepts_33 (by decide) ?_
          refine zr_zret dX6_accepts_37 rfl (Or.inr rfl) ?_
          refine ⟨rfl, 1, rfl, by decide, ?_⟩
          first
            | (have z1 := zi_neg h1; omega)
            | (have z1 := zi_gt h7 (by decide); omega)
            | (rw [nI_toInt (show k < 2 ^ 31 by omega), if_pos h11]; omega)
            | (rw [nI_toInt (show k < 2 ^ 31 by omega), if_neg h11]; omega)
/-- the byte of w that is r bytes from its low end, as a row of bytes has it -/
def zwb (w : Int64) (r : Nat) : Int32 := vp_nar .byte (Int32.toInt8 (Int64.toInt32 (w >>> (Int32.toInt64 (nI (8 * r)) &&& 63)))).toInt32
/-- the row f with the low k bytes of w laid from place p on, but the last r of them -/
def zapp (f : Nat → Int32) (p : Nat) (w : Int64) (k r : Nat) : Nat → Int32 := fun j => if p ≤ j ∧ j < p + (k - r) then zwb w (k - 1 - (j - p)) else f j
theorem zapp_all (f : Nat → Int32) (p : Nat) (w : Int64) (k : Nat) : zapp f p w k k = f := by
  funext j
  unfold zapp
  rw [if_neg (by omega)]
theorem zapp_step {f : Nat → Int32} {p : Nat} {w : Int64} {k r : Nat} (h : r < k) : upd (zapp f p w k (r + 1)) (p + (k - (r + 1))) (zwb w r) = zapp f p w k r := by
  funext j
  unfold upd zapp
  by_cases e : j = p + (k - (r + 1))
  · subst e
    rw [if_pos rfl, if_pos (by omega)]
    congr 1
    omega
  · rw [if_neg e]
    by_cases e2 : p ≤ j ∧ j < p + (k - (r + 1))
    · rw [if_pos e2, if_pos (by omega)]
    · rw [if_neg e2, if_neg (by omega)]
set_option maxRecDepth 100000 in
set_option maxHeartbeats 4000000 in
theorem l_Row_append {G : zG} {d k0 n0 a b nb p k : Nat} {w : Int64} {fr : Int32} {f : Nat → Int32} {M : zM} {Q : zOut → zM → Prop} (hK : zK M a = 7) (hR : zR M 192 a = some b) (hKb : zK M b = 14) (hNb : zN M b = nb) (hb : nb < 2 ^ 30) (hpk : p + k ≤ nb) (hk : k ≤ 8) (hq : Q (.inl (some (.int (nI (p + (k - 0)))))) (zput (zsetA M b (zapp f p w k 0)) 193 a (nI (p + (k - 0))))) : ∀ r, r ≤ k → zw G mX6_append d k0 n0 Q 15 [some (.ref a), some (.long w), none, some (.int (nI k)), some (.int fr), some (.int (nI r + (-1)))] [] (zput (zsetA M b (zapp f p w k r)) 193 a (nI (p + (k - r)))) := by
  intro r
  induction r with
  | zero =>
    intro _
    show zw G mX6_append d k0 n0 Q 15 [some (.ref a), some (.long w), none, some (.int (nI k)), some (.int fr), some (.int ((-1)))] [] _
    refine zr_iload dX6_append_15 rfl ?_
    refine zr_if_ltM 73 dX6_append_17 (by decide) ?_
    refine zr_aload_n dX6_append_73 rfl ?_
    refine zr_getI dX6_append_74 lkX6_21 (by decide) (by decide) rfl hK ?_
    refine zr_as (y := (nI (p + (k - 0)))) (zput_hit _ _ _ _) ?_
    refine zr_iret dX6_append_77 rfl ?_
    exact hq
  | succ r ih =>
    intro hr
    rw [pk_m1]
    refine zr_iload dX6_append_15 rfl ?_
    refine zr_if_ltN 73 dX6_append_17 (by decide) (by omega) ?_
    refine zr_aload_n dX6_append_20 rfl ?_
    refine zr_getI dX6_append_21 lkX6_21 (by decide) (by decide) rfl hK ?_
    refine zr_as (y := (nI (p + (k - (r + 1))))) (zput_hit _ _ _ _) ?_
    refine zr_if_ltN 73 dX6_append_24 (by decide) (by omega) ?_
    refine zr_aload_n dX6_append_27 rfl ?_
    refine zr_getI dX6_append_28 lkX6_21 (by decide) (by decide) rfl hK ?_
    refine zr_as (y := (nI (p + (k - (r + 1))))) (zput_hit _ _ _ _) ?_
    refine zr_aload_n dX6_append_31 rfl ?_
    refine zr_getR dX6_append_32 lkX6_15 (by decide) (by decide) rfl hK hR ?_
    refine zr_alenN dX6_append_35 hKb (by decide) hNb ?_
    refine zr_icmp_geN 73 dX6_append_36 (by decide) (by omega) (by omega) (fun h36 => ?_) (fun h36 => ?_)
    · refine zr_aload_n dX6_append_73 rfl ?_
      refine zr_getI dX6_append_74 lkX6_21 (by decide) (by decide) rfl hK ?_
      refine zr_as (y := (nI (p + (k - (r + 1))))) (zput_hit _ _ _ _) ?_
      refine zr_iret dX6_append_77 rfl ?_
      exfalso; omega
    · refine zr_aload_n dX6_append_39 rfl ?_
      refine zr_getR dX6_append_40 lkX6_15 (by decide) (by decide) rfl hK hR ?_
      refine zr_aload_n dX6_append_43 rfl ?_
      refine zr_getI dX6_append_44 lkX6_21 (by decide) (by decide) rfl hK ?_
      refine zr_as (y := (nI (p + (k - (r + 1))))) (zput_hit _ _ _ _) ?_
      refine zr_lload_n dX6_append_47 rfl ?_
      refine zr_bipush (v := nI 8) dX6_append_48 (by decide) ?_
      refine zr_iload dX6_append_50 rfl ?_
      refine zr_imulN dX6_append_52 ?_
      refine zr_lshr dX6_append_53 ?_
      refine zr_l2i dX6_append_54 ?_
      refine zr_i2b dX6_append_55 ?_
      refine zr_bastN dX6_append_56 hKb hNb (by omega) (by omega) ?_
      refine zr_aload_n dX6_append_57 rfl ?_
      refine zr_dup dX6_append_58 rfl ?_
      refine zr_getI dX6_append_59 lkX6_21 (by decide) (by decide) rfl hK ?_
      refine zr_as (y := (nI (p + (k - (r + 1))))) (zput_hit _ _ _ _) ?_
      refine zr_iconst (v := nI 1) dX6_append_62 (by decide) ?_
      refine zr_iaddN dX6_append_63 ?_
      refine zr_putI dX6_append_64 lkX6_21 (by decide) (by decide) rfl rfl hK ?_
      refine zr_iinc (w := (nI r + (-1))) (lv' := [some (.ref a), some (.long w), none, some (.int (nI k)), some (.int fr), some (.int ((nI r + (-1))))]) dX6_append_67 (Nat.le_of_ble_eq_true rfl) (Nat.le_of_ble_eq_true rfl) rfl rfl (by rw [show Int32.ofInt (-1) = (-1 : Int32) from by decide]) rfl ?_
      refine zr_goto 15 dX6_append_70 (by decide) ?_
      have e1 : (zput (zsetA (zput (zsetA M b (zapp f p w k (r + 1))) 193 a (nI (p + (k - (r + 1))))) b (upd (zA (zput (zsetA M b (zapp f p w k (r + 1))) 193 a (nI (p + (k - (r + 1))))) b) (p + (k - (r + 1))) (vp_nar .byte (Int32.toInt8 (Int64.toInt32 (w >>> (Int32.toInt64 (nI (8 * r)) &&& 63)))).toInt32))) 193 a (nI ((p + (k - (r + 1))) + 1))) = zput (zsetA M b (zapp f p w k r)) 193 a (nI (p + (k - r))) := by
        rw [show zA (zput (zsetA M b (zapp f p w k (r + 1))) 193 a (nI (p + (k - (r + 1))))) b = zapp f p w k (r + 1) from zsetA_hit _ _ _, show p + (k - (r + 1)) + 1 = p + (k - r) by omega]
        rw [show vp_nar .byte (Int32.toInt8 (Int64.toInt32 (w >>> (Int32.toInt64 (nI (8 * r)) &&& 63)))).toInt32 = zwb w r from rfl, zapp_step (by omega), zsetA_put, zsetA_setA, zput_put]
      rw [e1]
      exact ih (by omega)
theorem zsub1 (k : Nat) : nI k - nI 1 = nI k + (-1) := by
  rw [Int32.sub_eq_add_neg]
  rfl
set_option maxRecDepth 100000 in
set_option maxHeartbeats 4000000 in
theorem c_Row_append {G : zG} {d a b nb len k : Nat} {w : Int64} {fr : Int32} {M : zM} (hcb : zC M ≤ 600128 ∧ zS M ≤ 7301098) (hK : zK M a = 7) (hR : zR M 192 a = some b) (hKb : zK M b = 14) (hNb : zN M b = nb) (hb : nb < 2 ^ 30) (hI : zI M 193 a = nI len) (hk : k ≤ 8) (hpk : (if fr = 0 then len else 0) + k ≤ nb) : zMet G mX6_append d [.ref a, .long w, .int (nI k), .int fr] M (fun o M' => o = .inl (some (.int (nI ((if fr = 0 then len else 0) + k)))) ∧ M' = zput (zsetA M b (zapp (zA M b) (if fr = 0 then len else 0) w k 0)) 193 a (nI ((if fr = 0 then len else 0) + k))) := by
  refine zMet_of (by decide +kernel) (Nat.le_of_ble_eq_true rfl) rfl hcb ?_
  show zw G mX6_append d _ _ _ 0 [some (.ref a), some (.long w), none, some (.int (nI k)), some (.int fr), none] [] M
  refine zr_iload dX6_append_0 rfl ?_
  refine zr_if_eq 10 dX6_append_2 (by decide) (fun h2 => ?_) (fun h2 => ?_)
  · refine zr_iload_n dX6_append_10 rfl ?_
    refine zr_iconst (v := nI 1) dX6_append_11 (by decide) ?_
    refine zr_isub dX6_append_12 ?_
    refine zr_istore (lv' := [some (.ref a), some (.long w), none, some (.int (nI k)), some (.int fr), some (.int (((nI k) - (nI 1))))]) dX6_append_13 (Nat.le_of_ble_eq_true rfl) (Nat.le_of_ble_eq_true rfl) rfl rfl ?_
    rw [zsub1]
    refine zr_asM (M' := zput (zsetA M b (zapp (zA M b) len w k k)) 193 a (nI (len + (k - k)))) (by rw [zapp_all, zsetA_self rfl, Nat.sub_self, Nat.add_zero, zput_self hI]) ?_
    refine l_Row_append hK hR hKb hNb hb (by first | (rw [if_pos h2] at hpk; omega) | (rw [if_neg h2] at hpk; omega)) hk ?_ k (Nat.le_refl k)
    first | exact ⟨by rw [if_pos h2]; rfl, by rw [if_pos h2]; rfl⟩ | exact ⟨by rw [if_neg h2]; rfl, by rw [if_neg h2]; rfl⟩
  · refine zr_aload_n dX6_append_5 rfl ?_
    refine zr_iconst (v := nI 0) dX6_append_6 (by decide) ?_
    refine zr_putI dX6_append_7 lkX6_21 (by decide) (by decide) rfl rfl hK ?_
    refine zr_iload_n dX6_append_10 rfl ?_
    refine zr_iconst (v := nI 1) dX6_append_11 (by decide) ?_
    refine zr_isub dX6_append_12 ?_
    refine zr_istore (lv' := [some (.ref a), some (.long w), none, some (.int (nI k)), some (.int fr), some (.int (((nI k) - (nI 1))))]) dX6_append_13 (Nat.le_of_ble_eq_true rfl) (Nat.le_of_ble_eq_true rfl) rfl rfl ?_
    rw [zsub1]
    refine zr_asM (M' := zput (zsetA M b (zapp (zA M b) 0 w k k)) 193 a (nI (0 + (k - k)))) (by rw [zapp_all, zsetA_self rfl, Nat.sub_self, Nat.add_zero]) ?_
    refine l_Row_append hK hR hKb hNb hb (by first | (rw [if_pos h2] at hpk; omega) | (rw [if_neg h2] at hpk; omega)) hk ?_ k (Nat.le_refl k)
    first | exact ⟨by rw [if_pos h2]; rfl, by rw [if_pos h2]; rfl⟩ | exact ⟨by rw [if_neg h2]; rfl, by rw [if_neg h2]; rfl⟩
/-- eight bytes from place p on, the first one highest, of a row of len bytes -/
def zgb (f : Nat → Int32) (len i : Nat) : Nat := if i < len then zb (f i) else 0
def zwd (f : Nat → Int32) (len p : Nat) : Nat → Int64
  | 0 => 0
  | n + 1 => (zwd f len p n <<< (Int32.toInt64 (nI 8) &&& 63)) ||| Int32.toInt64 (nI (zgb f len (p + n)))
set_option maxRecDepth 100000 in
set_option maxHeartbeats 4000000 in
theorem l_Row_word {G : zG} {d k0 n0 a b nb len p : Nat} {M : zM} {Q : zOut → zM → Prop} (hK : zK M a = 7) (hR : zR M 192 a = some b) (hKb : zK M b = 14) (hNb : zN M b = nb) (hb : nb < 2 ^ 30) (hI : zI M 193 a = nI len) (hl : len ≤ nb) (hp : p ≤ 200) (hq : Q (.inl (some (.long (zwd (zA M b) len p 8)))) M) : ∀ (m i : Nat) , p + 8 - i = m → p ≤ i → i ≤ p + 8 → zw G mX6_word d k0 n0 Q 5 [some (.ref a), some (.int (nI p)), some (.long ((zwd (zA M b) len p (i - p)))), none, some (.int (nI i)), none] [] M := by
  intro m
  induction m using Nat.strongRecOn with
  | _ m ih =>
    intro i hm hi1 hi2
    refine zr_iload dX6_word_5 rfl ?_
    refine zr_iload_n dX6_word_7 rfl ?_
    refine zr_bipush (v := nI 8) dX6_word_8 (by decide) ?_
    refine zr_iaddN dX6_word_10 ?_
    refine zr_icmp_geN 70 dX6_word_11 (by decide) (by omega) (by omega) (fun h11 => ?_) (fun h11 => ?_)
    · refine zr_lload_n dX6_word_70 rfl ?_
      refine zr_lret dX6_word_71 rfl ?_
      rw [show i - p = 8 by omega]
      exact hq
    · refine zr_iload dX6_word_14 rfl ?_
      refine zr_if_ltN 52 dX6_word_16 (by decide) (by omega) ?_
      refine zr_iload dX6_word_19 rfl ?_
      refine zr_aload_n dX6_word_21 rfl ?_
      refine zr_getI dX6_word_22 lkX6_21 (by decide) (by decide) rfl hK ?_
      refine zr_as (y := (nI len)) hI ?_
      refine zr_icmp_geN 52 dX6_word_25 (by decide) (by omega) (by omega) (fun h25 => ?_) (fun h25 => ?_)
      · refine zr_iconst (v := nI 0) dX6_word_52 (by decide) ?_
        refine zr_istore (lv' := [some (.ref a), some (.int (nI p)), some (.long ((zwd (zA M b) len p (i - p)))), none, some (.int (nI i)), some (.int (nI 0))]) dX6_word_53 (Nat.le_of_ble_eq_true rfl) (Nat.le_of_ble_eq_true rfl) rfl rfl ?_
        refine zr_lload_n dX6_word_55 rfl ?_
        refine zr_bipush (v := nI 8) dX6_word_56 (by decide) ?_
        refine zr_lshl dX6_word_58 ?_
        refine zr_iload dX6_word_59 rfl ?_
        refine zr_i2l dX6_word_61 ?_
        refine zr_lor dX6_word_62 ?_
        refine zr_lstore_n (lv' := [some (.ref a), some (.int (nI p)), some (.long ((((zwd (zA M b) len p (i - p)) <<< (Int32.toInt64 (nI 8) &&& 63)) ||| (Int32.toInt64 (nI 0))))), none, some (.int (nI i)), some (.int (nI 0))]) dX6_word_63 (Nat.le_of_ble_eq_true rfl) (Nat.le_of_ble_eq_true rfl) rfl rfl ?_
        refine zr_iincN (n := 1) (lv' := [some (.ref a), some (.int (nI p)), some (.long ((((zwd (zA M b) len p (i - p)) <<< (Int32.toInt64 (nI 8) &&& 63)) ||| (Int32.toInt64 (nI 0))))), none, some (.int (nI (i + 1))), some (.int (nI 0))]) dX6_word_64 (Nat.le_of_ble_eq_true rfl) (Nat.le_of_ble_eq_true rfl) rfl rfl rfl ?_
        refine zr_goto 5 dX6_word_67 (by decide) ?_
        rw [show (((zwd (zA M b) len p (i - p)) <<< (Int32.toInt64 (nI 8) &&& 63)) ||| (Int32.toInt64 (nI 0))) = zwd (zA M b) len p (i + 1 - p) from by
          rw [show i + 1 - p = (i - p) + 1 by omega]; show _ = (zwd (zA M b) len p (i - p) <<< _) ||| _
          rw [show p + (i - p) = i by omega]; unfold zgb; first | (exfalso; omega) | rw [if_pos (by omega)] | rw [if_neg (by omega)]]
        refine zr_drop 5 rfl ?_
        exact ih _ (by omega) (i + 1) rfl (by omega) (by omega)
      · refine zr_iload dX6_word_28 rfl ?_
        refine zr_aload_n dX6_word_30 rfl ?_
        refine zr_getR dX6_word_31 lkX6_15 (by decide) (by decide) rfl hK hR ?_
        refine zr_alenN dX6_word_34 hKb (by decide) hNb ?_
        refine zr_icmp_geN 52 dX6_word_35 (by decide) (by omega) (by omega) (fun h35 => ?_) (fun h35 => ?_)
        · refine zr_iconst (v := nI 0) dX6_word_52 (by decide) ?_
          refine zr_istore (lv' := [some (.ref a), some (.int (nI p)), some (.long ((zwd (zA M b) len p (i - p)))), none, some (.int (nI i)), some (.int (nI 0))]) dX6_word_53 (Nat.le_of_ble_eq_true rfl) (Nat.le_of_ble_eq_true rfl) rfl rfl ?_
          refine zr_lload_n dX6_word_55 rfl ?_
          refine zr_bipush (v := nI 8) dX6_word_56 (by decide) ?_
          refine zr_lshl dX6_word_58 ?_
          refine zr_iload dX6_word_59 rfl ?_
          refine zr_i2l dX6_word_61 ?_
          refine zr_lor dX6_word_62 ?_
          refine zr_lstore_n (lv' := [some (.ref a), some (.int (nI p)), some (.long ((((zwd (zA M b) len p (i - p)) <<< (Int32.toInt64 (nI 8) &&& 63)) ||| (Int32.toInt64 (nI 0))))), none, some (.int (nI i)), some (.int (nI 0))]) dX6_word_63 (Nat.le_of_ble_eq_true rfl) (Nat.le_of_ble_eq_true rfl) rfl rfl ?_
          refine zr_iincN (n := 1) (lv' := [some (.ref a), some (.int (nI p)), some (.long ((((zwd (zA M b) len p (i - p)) <<< (Int32.toInt64 (nI 8) &&& 63)) ||| (Int32.toInt64 (nI 0))))), none, some (.int (nI (i + 1))), some (.int (nI 0))]) dX6_word_64 (Nat.le_of_ble_eq_true rfl) (Nat.le_of_ble_eq_true rfl) rfl rfl rfl ?_
          refine zr_goto 5 dX6_word_67 (by decide) ?_
          rw [show (((zwd (zA M b) len p (i - p)) <<< (Int32.toInt64 (nI 8) &&& 63)) ||| (Int32.toInt64 (nI 0))) = zwd (zA M b) len p (i + 1 - p) from by
            rw [show i + 1 - p = (i - p) + 1 by omega]; show _ = (zwd (zA M b) len p (i - p) <<< _) ||| _
            rw [show p + (i - p) = i by omega]; unfold zgb; first | (exfalso; omega) | rw [if_pos (by omega)] | rw [if_neg (by omega)]]
          refine zr_drop 5 rfl ?_
          exact ih _ (by omega) (i + 1) rfl (by omega) (by omega)
        · refine zr_aload_n dX6_word_38 rfl ?_
          refine zr_getR dX6_word_39 lkX6_15 (by decide) (by decide) rfl hK hR ?_
          refine zr_iload dX6_word_42 rfl ?_
          refine zr_baldN dX6_word_44 hKb hNb (by omega) (by omega) (fun f44 => ?_)
          refine zr_sipush (v := nI 255) dX6_word_45 (by decide) ?_
          refine zr_iand255 dX6_word_48 ?_
          refine zr_goto 53 dX6_word_49 (by decide) ?_
          refine zr_istore (lv' := [some (.ref a), some (.int (nI p)), some (.long ((zwd (zA M b) len p (i - p)))), none, some (.int (nI i)), some (.int (nI (zb (zA M b i))))]) dX6_word_53 (Nat.le_of_ble_eq_true rfl) (Nat.le_of_ble_eq_true rfl) rfl rfl ?_
          refine zr_lload_n dX6_word_55 rfl ?_
          refine zr_bipush (v := nI 8) dX6_word_56 (by decide) ?_
          refine zr_lshl dX6_word_58 ?_
          refine zr_iload dX6_word_59 rfl ?_
          refine zr_i2l dX6_word_61 ?_
          refine zr_lor dX6_word_62 ?_
          refine zr_lstore_n (lv' := [some (.ref a), some (.int (nI p)), some (.long ((((zwd (zA M b) len p (i - p)) <<< (Int32.toInt64 (nI 8) &&& 63)) ||| (Int32.toInt64 (nI (zb (zA M b i))))))), none, some (.int (nI i)), some (.int (nI (zb (zA M b i))))]) dX6_word_63 (Nat.le_of_ble_eq_true rfl) (Nat.le_of_ble_eq_true rfl) rfl rfl ?_
          refine zr_iincN (n := 1) (lv' := [some (.ref a), some (.int (nI p)), some (.long ((((zwd (zA M b) len p (i - p)) <<< (Int32.toInt64 (nI 8) &&& 63)) ||| (Int32.toInt64 (nI (zb (zA M b i))))))), none, some (.int (nI (i + 1))), some (.int (nI (zb (zA M b i))))]) dX6_word_64 (Nat.le_of_ble_eq_true rfl) (Nat.le_of_ble_eq_true rfl) rfl rfl rfl ?_
          refine zr_goto 5 dX6_word_67 (by decide) ?_
          rw [show (((zwd (zA M b) len p (i - p)) <<< (Int32.toInt64 (nI 8) &&& 63)) ||| (Int32.toInt64 (nI (zb (zA M b i))))) = zwd (zA M b) len p (i + 1 - p) from by
            rw [show i + 1 - p = (i - p) + 1 by omega]; show _ = (zwd (zA M b) len p (i - p) <<< _) ||| _
            rw [show p + (i - p) = i by omega]; unfold zgb; first | (exfalso; omega) | rw [if_pos (by omega)] | rw [if_neg (by omega)]]
          refine zr_drop 5 rfl ?_
          exact ih _ (by omega) (i + 1) rfl (by omega) (by omega)
set_option maxRecDepth 100000 in
set_option maxHeartbeats 4000000 in
theorem c_Row_word {G : zG} {d a b nb len p : Nat} {M : zM} (hcb : zC M ≤ 600128 ∧ zS M ≤ 7301098) (hK : zK M a = 7) (hR : zR M 192 a = some b) (hKb : zK M b = 14) (hNb : zN M b = nb) (hb : nb < 2 ^ 30) (hI : zI M 193 a = nI len) (hl : len ≤ nb) (hp : p ≤ 200) : zMet G mX6_word d [.ref a, .int (nI p)] M (fun o M' => o = .inl (some (.long (zwd (zA M b) len p 8))) ∧ M' = M) := by
  refine zMet_of (by decide +kernel) (Nat.le_of_ble_eq_true rfl) rfl hcb ?_
  show zw G mX6_word d _ _ _ 0 [some (.ref a), some (.int (nI p)), none, none, none, none] [] M
  refine zr_lconst (v := 0) dX6_word_0 (by decide) ?_
  refine zr_lstore_n (lv' := [some (.ref a), some (.int (nI p)), some (.long 0), none, none, none]) dX6_word_1 (Nat.le_of_ble_eq_true rfl) (Nat.le_of_ble_eq_true rfl) rfl rfl ?_
  refine zr_iload_n dX6_word_2 rfl ?_
  refine zr_istore (lv' := [some (.ref a), some (.int (nI p)), some (.long 0), none, some (.int (nI p)), none]) dX6_word_3 (Nat.le_of_ble_eq_true rfl) (Nat.le_of_ble_eq_true rfl) rfl rfl ?_
  have h := l_Row_word (G := G) (d := d) (k0 := zC M) (n0 := zS M) hK hR hKb hNb hb hI hl hp (Q := fun o M' => o = .inl (some (.long (zwd (zA M b) len p 8))) ∧ M' = M) ⟨rfl, rfl⟩ _ p rfl (Nat.le_refl p) (by omega)
  rw [Nat.sub_self] at h
  exact h
