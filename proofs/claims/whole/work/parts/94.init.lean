/-! ===== what is made: the simple constructors ===== -/
theorem ac_byte : Cond.arrayClass .byte ∈ lw_tbl := by decide +kernel
theorem ac_int : Cond.arrayClass .int ∈ lw_tbl := by decide +kernel
theorem ac_boolean : Cond.arrayClass .boolean ∈ lw_tbl := by decide +kernel
theorem ac_long : Cond.arrayClass .long ∈ lw_tbl := by decide +kernel
theorem ao_18 : Cond.arrayOver (.object RX4) ∈ lw_tbl := by decide +kernel
theorem ao_19 : Cond.arrayOver (.object RX8) ∈ lw_tbl := by decide +kernel
section NEWN
variable {G : zG} {md : zD} {d k0 n0 : Nat} {Q : zOut → zM → Prop} {pc : Nat} {lv : List (Option Value)} {st : List Value} {M : zM}
theorem zr_newPN {atype : ArrayType} {ty : FieldType} {κ t0 n : Nat} (hd : decode md.2.1 pc = .ok (.newarray atype, 2)) (hty : newarray.typeOf atype = ty) (hk : (ty = .byte ∧ κ = 14 ∧ t0 = 0) ∨ (ty = .int ∧ κ = 15 ∧ t0 = 1) ∨ (ty = .boolean ∧ κ = 16 ∧ t0 = 2) ∨ (ty = .long ∧ κ = 17 ∧ t0 = 3))
    (hlk : Cond.arrayClass ty ∈ lw_tbl) (hn : n < 2 ^ 31) (hb : zC M + 1 ≤ 600128 ∧ zS M + n ≤ 7301098) (kk : ∀ q, zK M q = 0 → zw G md d k0 n0 Q (pc + 2) lv (.ref q :: st) (znewA M q κ n)) : zw G md d k0 n0 Q pc lv (.int (nI n) :: st) M :=
  zr_newP hd hty hk hlk (nI_pos hn) (by rw [nI_clamp hn]; exact hb) (fun q hq => by rw [nI_clamp hn]; exact kk q hq)
theorem zr_newQN {idx κ t0 n : Nat} {C : String} (hd : decode md.2.1 pc = .ok (.anewarray idx, 3)) (hk : (C = RX4 ∧ κ = 18 ∧ t0 = 4) ∨ (C = RX8 ∧ κ = 19 ∧ t0 = 5)) (hlk : Cond.classLink md.1.cls idx C ∈ lw_tbl) (hlk2 : Cond.arrayOver (.object C) ∈ lw_tbl)
    (hn : n < 2 ^ 31) (hb : zC M + 1 ≤ 600128 ∧ zS M + n ≤ 7301098) (kk : ∀ q, zK M q = 0 → zw G md d k0 n0 Q (pc + 3) lv (.ref q :: st) (znewA M q κ n)) : zw G md d k0 n0 Q pc lv (.int (nI n) :: st) M :=
  zr_newQ hd hk hlk hlk2 (nI_pos hn) (by rw [nI_clamp hn]; exact hb) (fun q hq => by rw [nI_clamp hn]; exact kk q hq)
end NEWN
theorem zC_newA (M : zM) (b κ n : Nat) : zC (znewA M b κ n) = zC M + 1 := rfl
theorem zS_newA (M : zM) (b κ n : Nat) : zS (znewA M b κ n) = zS M + n := rfl
theorem zC_putR (M : zM) (f a : Nat) (v : Option Nat) : zC (zputR M f a v) = zC M := rfl
theorem zS_putR (M : zM) (f a : Nat) (v : Option Nat) : zS (zputR M f a v) = zS M := rfl
theorem zC_put (M : zM) (f a : Nat) (v : Int32) : zC (zput M f a v) = zC M := rfl
theorem zS_put (M : zM) (f a : Nat) (v : Int32) : zS (zput M f a v) = zS M := rfl
theorem zC_setA (M : zM) (a : Nat) (g : Nat → Int32) : zC (zsetA M a g) = zC M := rfl
theorem zS_setA (M : zM) (a : Nat) (g : Nat → Int32) : zS (zsetA M a g) = zS M := rfl
theorem nkA {M : zM} {a b κ n c : Nat} (hb : zK M b = 0) (h : zK M a = c) (hc : c ≠ 0) : zK (znewA M b κ n) a = c := by
  show va_up (zK M) b κ a = c
  rw [va_up_ne _ _ (fun e => hc (by rw [← h, e]; exact hb))]
  exact h
theorem nkA0 (M : zM) (b κ n : Nat) : zK (znewA M b κ n) b = κ := va_up_self _ _ _
theorem nkN (M : zM) (b κ n : Nat) : zN (znewA M b κ n) b = n := va_up_self _ _ _
theorem nkO {M : zM} {a b c n k : Nat} (hb : zK M b = 0) (h : zK M a = k) (hc : k ≠ 0) : zK (znewO M b c n) a = k := by
  show va_up (zK M) b (c + 1) a = k
  rw [va_up_ne _ _ (fun e => hc (by rw [← h, e]; exact hb))]
  exact h
theorem nkO0 (M : zM) (b c n : Nat) : zK (znewO M b c n) b = c + 1 := va_up_self _ _ _
set_option maxRecDepth 100000 in
set_option maxHeartbeats 4000000 in
theorem i_X0 {G : zG} {d a : Nat} {M : zM} (hd : 2 ≤ d) (hcb : zC M ≤ 600128 ∧ zS M ≤ 7301098) (hrm : zC M + 20 ≤ 600128 ∧ zS M + 400000 ≤ 7301098) (ha : zK M a = 1) : zMet G mX0_init d [.ref a] M (fun o M' => o = .inl none ∧ ∃ b8 b16 : Nat, zK M b8 = 0 ∧ zK (zputR (znewA M b8 14 15363) 0 a (some b8)) b16 = 0 ∧ M' = (zputR (znewA (zputR (znewA M b8 14 15363) 0 a (some b8)) b16 15 64) 1 a (some b16))) := by
  refine zMet_of (by decide +kernel) (Nat.le_of_ble_eq_true rfl) rfl hcb ?_
  show zw G mX0_init d _ _ _ 0 [some (.ref a)] [] M
  refine zr_aload_n dX0_init_0 rfl ?_
  refine zr_objInit dX0_init_1 mlX0_3 (Nat.le_of_ble_eq_true rfl) (by omega) ?_
  refine zr_aload_n dX0_init_4 rfl ?_
  refine zr_sipush (v := nI 15363) dX0_init_5 (by decide) ?_
  refine zr_newPN (κ := 14) dX0_init_8 rfl (Or.inl ⟨rfl, rfl, rfl⟩) ac_byte (by decide) (by (try simp only [zC_newA, zS_newA, zC_putR, zS_putR, zC_put, zS_put, zC_setA, zS_setA]); omega) (fun b8 hb8 => ?_)
  refine zr_putR dX0_init_10 (lkX0_9.elim id (fun h => absurd h (by decide +kernel))) rfl rfl (by decide) (by decide) rfl (nkA hb8 ha (by decide)) ?_
  refine zr_aload_n dX0_init_13 rfl ?_
  refine zr_bipush (v := nI 64) dX0_init_14 (by decide) ?_
  refine zr_newPN (κ := 15) dX0_init_16 rfl (Or.inr (Or.inl ⟨rfl, rfl, rfl⟩)) ac_int (by decide) (by (try simp only [zC_newA, zS_newA, zC_putR, zS_putR, zC_put, zS_put, zC_setA, zS_setA]); omega) (fun b16 hb16 => ?_)
  refine zr_putR dX0_init_18 (lkX0_15.elim id (fun h => absurd h (by decide +kernel))) rfl rfl (by decide) (by decide) rfl (nkA hb16 (nkA hb8 ha (by decide)) (by decide)) ?_
  refine zr_vret dX0_init_21 rfl ?_
  exact ⟨rfl, b8, b16, hb8, hb16, rfl⟩
set_option maxRecDepth 100000 in
set_option maxHeartbeats 4000000 in
theorem i_X1 {G : zG} {d a : Nat} {M : zM} (hd : 2 ≤ d) (hcb : zC M ≤ 600128 ∧ zS M ≤ 7301098) (hrm : zC M + 20 ≤ 600128 ∧ zS M + 400000 ≤ 7301098) (ha : zK M a = 2) : zMet G mX1_init d [.ref a] M (fun o M' => o = .inl none ∧ ∃ b7 b16 : Nat, zK M b7 = 0 ∧ zK (zputR (znewA M b7 14 304128) 32 a (some b7)) b16 = 0 ∧ M' = (zput (zput (zputR (znewA (zputR (znewA M b7 14 304128) 32 a (some b7)) b16 14 512) 33 a (some b16)) 34 a (nI 1)) 35 a (nI 3))) := by
  refine zMet_of (by decide +kernel) (Nat.le_of_ble_eq_true rfl) rfl hcb ?_
  show zw G mX1_init d _ _ _ 0 [some (.ref a)] [] M
  refine zr_aload_n dX1_init_0 rfl ?_
  refine zr_objInit dX1_init_1 mlX1_3 (Nat.le_of_ble_eq_true rfl) (by omega) ?_
  refine zr_aload_n dX1_init_4 rfl ?_
  refine zr_ldc dX1_init_5 ctX1_9 ?_
  refine zr_as (y := nI 304128) (by decide) ?_
  refine zr_newPN (κ := 14) dX1_init_7 rfl (Or.inl ⟨rfl, rfl, rfl⟩) ac_byte (by decide) (by (try simp only [zC_newA, zS_newA, zC_putR, zS_putR, zC_put, zS_put, zC_setA, zS_setA]); omega) (fun b7 hb7 => ?_)
  refine zr_putR dX1_init_9 (lkX1_10.elim id (fun h => absurd h (by decide +kernel))) rfl rfl (by decide) (by decide) rfl (nkA hb7 ha (by decide)) ?_
  refine zr_aload_n dX1_init_12 rfl ?_
  refine zr_sipush (v := nI 512) dX1_init_13 (by decide) ?_
  refine zr_newPN (κ := 14) dX1_init_16 rfl (Or.inl ⟨rfl, rfl, rfl⟩) ac_byte (by decide) (by (try simp only [zC_newA, zS_newA, zC_putR, zS_putR, zC_put, zS_put, zC_setA, zS_setA]); omega) (fun b16 hb16 => ?_)
  refine zr_putR dX1_init_18 (lkX1_16.elim id (fun h => absurd h (by decide +kernel))) rfl rfl (by decide) (by decide) rfl (nkA hb16 (nkA hb7 ha (by decide)) (by decide)) ?_
  refine zr_aload_n dX1_init_21 rfl ?_
  refine zr_iconst (v := nI 1) dX1_init_22 (by decide) ?_
  refine zr_putZ dX1_init_23 lkX1_19 (by decide) (by decide) rfl rfl (Or.inr rfl) (nkA hb16 (nkA hb7 ha (by decide)) (by decide)) ?_
  refine zr_aload_n dX1_init_26 rfl ?_
  refine zr_iconst (v := nI 3) dX1_init_27 (by decide) ?_
  refine zr_putI dX1_init_28 lkX1_23 (by decide) (by decide) rfl rfl (nkA hb16 (nkA hb7 ha (by decide)) (by decide)) ?_
  refine zr_vret dX1_init_31 rfl ?_
  exact ⟨rfl, b7, b16, hb7, hb16, rfl⟩
set_option maxRecDepth 100000 in
set_option maxHeartbeats 4000000 in
theorem i_X3 {G : zG} {d a dk : Nat} {M : zM} (hd : 2 ≤ d) (hcb : zC M ≤ 600128 ∧ zS M ≤ 7301098) (hrm : zC M + 20 ≤ 600128 ∧ zS M + 400000 ≤ 7301098) (ha : zK M a = 4) : zMet G mX3_init d [.ref a, .ref dk] M (fun o M' => o = .inl none ∧ ∃ b8 : Nat, zK M b8 = 0 ∧ M' = (zputR (zputR (znewA M b8 14 2048) 97 a (some b8)) 96 a (some dk))) := by
  refine zMet_of (by decide +kernel) (Nat.le_of_ble_eq_true rfl) rfl hcb ?_
  show zw G mX3_init d _ _ _ 0 [some (.ref a), some (.ref dk)] [] M
  refine zr_aload_n dX3_init_0 rfl ?_
  refine zr_objInit dX3_init_1 mlX3_3 (Nat.le_of_ble_eq_true rfl) (by omega) ?_
  refine zr_aload_n dX3_init_4 rfl ?_
  refine zr_sipush (v := nI 2048) dX3_init_5 (by decide) ?_
  refine zr_newPN (κ := 14) dX3_init_8 rfl (Or.inl ⟨rfl, rfl, rfl⟩) ac_byte (by decide) (by (try simp only [zC_newA, zS_newA, zC_putR, zS_putR, zC_put, zS_put, zC_setA, zS_setA]); omega) (fun b8 hb8 => ?_)
  refine zr_putR dX3_init_10 (lkX3_9.elim id (fun h => absurd h (by decide +kernel))) rfl rfl (by decide) (by decide) rfl (nkA hb8 ha (by decide)) ?_
  refine zr_aload_n dX3_init_13 rfl ?_
  refine zr_aload_n dX3_init_14 rfl ?_
  refine zr_putR dX3_init_15 (lkX3_15.elim id (fun h => absurd h (by decide +kernel))) rfl rfl (by decide) (by decide) rfl (nkA hb8 ha (by decide)) ?_
  refine zr_vret dX3_init_18 rfl ?_
  exact ⟨rfl, b8, hb8, rfl⟩
set_option maxRecDepth 100000 in
set_option maxHeartbeats 4000000 in
theorem i_X5 {G : zG} {d a dk : Nat} {M : zM} (hd : 2 ≤ d) (hcb : zC M ≤ 600128 ∧ zS M ≤ 7301098) (hrm : zC M + 20 ≤ 600128 ∧ zS M + 400000 ≤ 7301098) (ha : zK M a = 6) : zMet G mX5_init d [.ref a, .ref dk] M (fun o M' => o = .inl none ∧ ∃ b8 : Nat, zK M b8 = 0 ∧ M' = (zputR (zputR (znewA M b8 15 2048) 161 a (some b8)) 160 a (some dk))) := by
  refine zMet_of (by decide +kernel) (Nat.le_of_ble_eq_true rfl) rfl hcb ?_
  show zw G mX5_init d _ _ _ 0 [some (.ref a), some (.ref dk)] [] M
  refine zr_aload_n dX5_init_0 rfl ?_
  refine zr_objInit dX5_init_1 mlX5_3 (Nat.le_of_ble_eq_true rfl) (by omega) ?_
  refine zr_aload_n dX5_init_4 rfl ?_
  refine zr_sipush (v := nI 2048) dX5_init_5 (by decide) ?_
  refine zr_newPN (κ := 15) dX5_init_8 rfl (Or.inr (Or.inl ⟨rfl, rfl, rfl⟩)) ac_int (by decide) (by (try simp only [zC_newA, zS_newA, zC_putR, zS_putR, zC_put, zS_put, zC_setA, zS_setA]); omega) (fun b8 hb8 => ?_)
  refine zr_putR dX5_init_10 (lkX5_9.elim id (fun h => absurd h (by decide +kernel))) rfl rfl (by decide) (by decide) rfl (nkA hb8 ha (by decide)) ?_
  refine zr_aload_n dX5_init_13 rfl ?_
  refine zr_aload_n dX5_init_14 rfl ?_
  refine zr_putR dX5_init_15 (lkX5_15.elim id (fun h => absurd h (by decide +kernel))) rfl rfl (by decide) (by decide) rfl (nkA hb8 ha (by decide)) ?_
  refine zr_vret dX5_init_18 rfl ?_
  exact ⟨rfl, b8, hb8, rfl⟩
set_option maxRecDepth 100000 in
set_option maxHeartbeats 4000000 in
theorem i_X7 {G : zG} {d a dk : Nat} {M : zM} (hd : 2 ≤ d) (hcb : zC M ≤ 600128 ∧ zS M ≤ 7301098) (hrm : zC M + 20 ≤ 600128 ∧ zS M + 400000 ≤ 7301098) (ha : zK M a = 8) : zMet G mX7_init d [.ref a, .ref dk] M (fun o M' => o = .inl none ∧ ∃ b8 b17 : Nat, zK M b8 = 0 ∧ zK (zputR (znewA M b8 15 2048) 225 a (some b8)) b17 = 0 ∧ M' = (zputR (zputR (znewA (zputR (znewA M b8 15 2048) 225 a (some b8)) b17 15 2048) 226 a (some b17)) 224 a (some dk))) := by
  refine zMet_of (by decide +kernel) (Nat.le_of_ble_eq_true rfl) rfl hcb ?_
  show zw G mX7_init d _ _ _ 0 [some (.ref a), some (.ref dk)] [] M
  refine zr_aload_n dX7_init_0 rfl ?_
  refine zr_objInit dX7_init_1 mlX7_3 (Nat.le_of_ble_eq_true rfl) (by omega) ?_
  refine zr_aload_n dX7_init_4 rfl ?_
  refine zr_sipush (v := nI 2048) dX7_init_5 (by decide) ?_
  refine zr_newPN (κ := 15) dX7_init_8 rfl (Or.inr (Or.inl ⟨rfl, rfl, rfl⟩)) ac_int (by decide) (by (try simp only [zC_newA, zS_newA, zC_putR, zS_putR, zC_put, zS_put, zC_setA, zS_setA]); omega) (fun b8 hb8 => ?_)
  refine zr_putR dX7_init_10 (lkX7_9.elim id (fun h => absurd h (by decide +kernel))) rfl rfl (by decide) (by decide) rfl (nkA hb8 ha (by decide)) ?_
  refine zr_aload_n dX7_init_13 rfl ?_
  refine zr_sipush (v := nI 2048) dX7_init_14 (by decide) ?_
  refine zr_newPN (κ := 15) dX7_init_17 rfl (Or.inr (Or.inl ⟨rfl, rfl, rfl⟩)) ac_int (by decide) (by (try simp only [zC_newA, zS_newA, zC_putR, zS_putR, zC_put, zS_put, zC_setA, zS_setA]); omega) (fun b17 hb17 => ?_)
  refine zr_putR dX7_init_19 (lkX7_15.elim id (fun h => absurd h (by decide +kernel))) rfl rfl (by decide) (by decide) rfl (nkA hb17 (nkA hb8 ha (by decide)) (by decide)) ?_
  refine zr_aload_n dX7_init_22 rfl ?_
  refine zr_aload_n dX7_init_23 rfl ?_
  refine zr_putR dX7_init_24 (lkX7_18.elim id (fun h => absurd h (by decide +kernel))) rfl rfl (by decide) (by decide) rfl (nkA hb17 (nkA hb8 ha (by decide)) (by decide)) ?_
  refine zr_vret dX7_init_27 rfl ?_
  exact ⟨rfl, b8, b17, hb8, hb17, rfl⟩
set_option maxRecDepth 100000 in
set_option maxHeartbeats 4000000 in
theorem i_X8 {G : zG} {d a dk : Nat} {M : zM} (hd : 2 ≤ d) (hcb : zC M ≤ 600128 ∧ zS M ≤ 7301098) (hrm : zC M + 20 ≤ 600128 ∧ zS M + 400000 ≤ 7301098) (ha : zK M a = 9) : zMet G mX8_init d [.ref a, .ref dk] M (fun o M' => o = .inl none ∧ ∃ b7 : Nat, zK M b7 = 0 ∧ M' = (zputR (zputR (znewA M b7 15 9) 257 a (some b7)) 256 a (some dk))) := by
  refine zMet_of (by decide +kernel) (Nat.le_of_ble_eq_true rfl) rfl hcb ?_
  show zw G mX8_init d _ _ _ 0 [some (.ref a), some (.ref dk)] [] M
  refine zr_aload_n dX8_init_0 rfl ?_
  refine zr_objInit dX8_init_1 mlX8_3 (Nat.le_of_ble_eq_true rfl) (by omega) ?_
  refine zr_aload_n dX8_init_4 rfl ?_
  refine zr_bipush (v := nI 9) dX8_init_5 (by decide) ?_
  refine zr_newPN (κ := 15) dX8_init_7 rfl (Or.inr (Or.inl ⟨rfl, rfl, rfl⟩)) ac_int (by decide) (by (try simp only [zC_newA, zS_newA, zC_putR, zS_putR, zC_put, zS_put, zC_setA, zS_setA]); omega) (fun b7 hb7 => ?_)
  refine zr_putR dX8_init_9 (lkX8_9.elim id (fun h => absurd h (by decide +kernel))) rfl rfl (by decide) (by decide) rfl (nkA hb7 ha (by decide)) ?_
  refine zr_aload_n dX8_init_12 rfl ?_
  refine zr_aload_n dX8_init_13 rfl ?_
  refine zr_putR dX8_init_14 (lkX8_15.elim id (fun h => absurd h (by decide +kernel))) rfl rfl (by decide) (by decide) rfl (nkA hb7 ha (by decide)) ?_
  refine zr_vret dX8_init_17 rfl ?_
  exact ⟨rfl, b7, hb7, rfl⟩
set_option maxRecDepth 100000 in
set_option maxHeartbeats 4000000 in
theorem i_X9 {G : zG} {d a : Nat} {M : zM} (hd : 2 ≤ d) (hcb : zC M ≤ 600128 ∧ zS M ≤ 7301098) (hrm : zC M + 20 ≤ 600128 ∧ zS M + 400000 ≤ 7301098) (ha : zK M a = 10) : zMet G mX9_init d [.ref a] M (fun o M' => o = .inl none ∧ ∃ b7 : Nat, zK M b7 = 0 ∧ M' = (zputR (zsetA (zsetA (zsetA (zsetA (zsetA (zsetA (zsetA (zsetA (znewA M b7 15 8) b7 (upd (zA (znewA M b7 15 8) b7) 0 (-1))) b7 (upd (zA (zsetA (znewA M b7 15 8) b7 (upd (zA (znewA M b7 15 8) b7) 0 (-1))) b7) 1 (-1))) b7 (upd (zA (zsetA (zsetA (znewA M b7 15 8) b7 (upd (zA (znewA M b7 15 8) b7) 0 (-1))) b7 (upd (zA (zsetA (znewA M b7 15 8) b7 (upd (zA (znewA M b7 15 8) b7) 0 (-1))) b7) 1 (-1))) b7) 2 (-1))) b7 (upd (zA (zsetA (zsetA (zsetA (znewA M b7 15 8) b7 (upd (zA (znewA M b7 15 8) b7) 0 (-1))) b7 (upd (zA (zsetA (znewA M b7 15 8) b7 (upd (zA (znewA M b7 15 8) b7) 0 (-1))) b7) 1 (-1))) b7 (upd (zA (zsetA (zsetA (znewA M b7 15 8) b7 (upd (zA (znewA M b7 15 8) b7) 0 (-1))) b7 (upd (zA (zsetA (znewA M b7 15 8) b7 (upd (zA (znewA M b7 15 8) b7) 0 (-1))) b7) 1 (-1))) b7) 2 (-1))) b7) 3 (-1))) b7 (upd (zA (zsetA (zsetA (zsetA (zsetA (znewA M b7 15 8) b7 (upd (zA (znewA M b7 15 8) b7) 0 (-1))) b7 (upd (zA (zsetA (znewA M b7 15 8) b7 (upd (zA (znewA M b7 15 8) b7) 0 (-1))) b7) 1 (-1))) b7 (upd (zA (zsetA (zsetA (znewA M b7 15 8) b7 (upd (zA (znewA M b7 15 8) b7) 0 (-1))) b7 (upd (zA (zsetA (znewA M b7 15 8) b7 (upd (zA (znewA M b7 15 8) b7) 0 (-1))) b7) 1 (-1))) b7) 2 (-1))) b7 (upd (zA (zsetA (zsetA (zsetA (znewA M b7 15 8) b7 (upd (zA (znewA M b7 15 8) b7) 0 (-1))) b7 (upd (zA (zsetA (znewA M b7 15 8) b7 (upd (zA (znewA M b7 15 8) b7) 0 (-1))) b7) 1 (-1))) b7 (upd (zA (zsetA (zsetA (znewA M b7 15 8) b7 (upd (zA (znewA M b7 15 8) b7) 0 (-1))) b7 (upd (zA (zsetA (znewA M b7 15 8) b7 (upd (zA (znewA M b7 15 8) b7) 0 (-1))) b7) 1 (-1))) b7) 2 (-1))) b7) 3 (-1))) b7) 4 (-1))) b7 (upd (zA (zsetA (zsetA (zsetA (zsetA (zsetA (znewA M b7 15 8) b7 (upd (zA (znewA M b7 15 8) b7) 0 (-1))) b7 (upd (zA (zsetA (znewA M b7 15 8) b7 (upd (zA (znewA M b7 15 8) b7) 0 (-1))) b7) 1 (-1))) b7 (upd (zA (zsetA (zsetA (znewA M b7 15 8) b7 (upd (zA (znewA M b7 15 8) b7) 0 (-1))) b7 (upd (zA (zsetA (znewA M b7 15 8) b7 (upd (zA (znewA M b7 15 8) b7) 0 (-1))) b7) 1 (-1))) b7) 2 (-1))) b7 (upd (zA (zsetA (zsetA (zsetA (znewA M b7 15 8) b7 (upd (zA (znewA M b7 15 8) b7) 0 (-1))) b7 (upd (zA (zsetA (znewA M b7 15 8) b7 (upd (zA (znewA M b7 15 8) b7) 0 (-1))) b7) 1 (-1))) b7 (upd (zA (zsetA (zsetA (znewA M b7 15 8) b7 (upd (zA (znewA M b7 15 8) b7) 0 (-1))) b7 (upd (zA (zsetA (znewA M b7 15 8) b7 (upd (zA (znewA M b7 15 8) b7) 0 (-1))) b7) 1 (-1))) b7) 2 (-1))) b7) 3 (-1))) b7 (upd (zA (zsetA (zsetA (zsetA (zsetA (znewA M b7 15 8) b7 (upd (zA (znewA M b7 15 8) b7) 0 (-1))) b7 (upd (zA (zsetA (znewA M b7 15 8) b7 (upd (zA (znewA M b7 15 8) b7) 0 (-1))) b7) 1 (-1))) b7 (upd (zA (zsetA (zsetA (znewA M b7 15 8) b7 (upd (zA (znewA M b7 15 8) b7) 0 (-1))) b7 (upd (zA (zsetA (znewA M b7 15 8) b7 (upd (zA (znewA M b7 15 8) b7) 0 (-1))) b7) 1 (-1))) b7) 2 (-1))) b7 (upd (zA (zsetA (zsetA (zsetA (znewA M b7 15 8) b7 (upd (zA (znewA M b7 15 8) b7) 0 (-1))) b7 (upd (zA (zsetA (znewA M b7 15 8) b7 (upd (zA (znewA M b7 15 8) b7) 0 (-1))) b7) 1 (-1))) b7 (upd (zA (zsetA (zsetA (znewA M b7 15 8) b7 (upd (zA (znewA M b7 15 8) b7) 0 (-1))) b7 (upd (zA (zsetA (znewA M b7 15 8) b7 (upd (zA (znewA M b7 15 8) b7) 0 (-1))) b7) 1 (-1))) b7) 2 (-1))) b7) 3 (-1))) b7) 4 (-1))) b7) 5 (-1))) b7 (upd (zA (zsetA (zsetA (zsetA (zsetA (zsetA (zsetA (znewA M b7 15 8) b7 (upd (zA (znewA M b7 15 8) b7) 0 (-1))) b7 (upd (zA (zsetA (znewA M b7 15 8) b7 (upd (zA (znewA M b7 15 8) b7) 0 (-1))) b7) 1 (-1))) b7 (upd (zA (zsetA (zsetA (znewA M b7 15 8) b7 (upd (zA (znewA M b7 15 8) b7) 0 (-1))) b7 (upd (zA (zsetA (znewA M b7 15 8) b7 (upd (zA (znewA M b7 15 8) b7) 0 (-1))) b7) 1 (-1))) b7) 2 (-1))) b7 (upd (zA (zsetA (zsetA (zsetA (znewA M b7 15 8) b7 (upd (zA (znewA M b7 15 8) b7) 0 (-1))) b7 (upd (zA (zsetA (znewA M b7 15 8) b7 (upd (zA (znewA M b7 15 8) b7) 0 (-1))) b7) 1 (-1))) b7 (upd (zA (zsetA (zsetA (znewA M b7 15 8) b7 (upd (zA (znewA M b7 15 8) b7) 0 (-1))) b7 (upd (zA (zsetA (znewA M b7 15 8) b7 (upd (zA (znewA M b7 15 8) b7) 0 (-1))) b7) 1 (-1))) b7) 2 (-1))) b7) 3 (-1))) b7 (upd (zA (zsetA (zsetA (zsetA (zsetA (znewA M b7 15 8) b7 (upd (zA (znewA M b7 15 8) b7) 0 (-1))) b7 (upd (zA (zsetA (znewA M b7 15 8) b7 (upd (zA (znewA M b7 15 8) b7) 0 (-1))) b7) 1 (-1))) b7 (upd (zA (zsetA (zsetA (znewA M b7 15 8) b7 (upd (zA (znewA M b7 15 8) b7) 0 (-1))) b7 (upd (zA (zsetA (znewA M b7 15 8) b7 (upd (zA (znewA M b7 15 8) b7) 0 (-1))) b7) 1 (-1))) b7) 2 (-1))) b7 (upd (zA (zsetA (zsetA (zsetA (znewA M b7 15 8) b7 (upd (zA (znewA M b7 15 8) b7) 0 (-1))) b7 (upd (zA (zsetA (znewA M b7 15 8) b7 (upd (zA (znewA M b7 15 8) b7) 0 (-1))) b7) 1 (-1))) b7 (upd (zA (zsetA (zsetA (znewA M b7 15 8) b7 (upd (zA (znewA M b7 15 8) b7) 0 (-1))) b7 (upd (zA (zsetA (znewA M b7 15 8) b7 (upd (zA (znewA M b7 15 8) b7) 0 (-1))) b7) 1 (-1))) b7) 2 (-1))) b7) 3 (-1))) b7) 4 (-1))) b7 (upd (zA (zsetA (zsetA (zsetA (zsetA (zsetA (znewA M b7 15 8) b7 (upd (zA (znewA M b7 15 8) b7) 0 (-1))) b7 (upd (zA (zsetA (znewA M b7 15 8) b7 (upd (zA (znewA M b7 15 8) b7) 0 (-1))) b7) 1 (-1))) b7 (upd (zA (zsetA (zsetA (znewA M b7 15 8) b7 (upd (zA (znewA M b7 15 8) b7) 0 (-1))) b7 (upd (zA (zsetA (znewA M b7 15 8) b7 (upd (zA (znewA M b7 15 8) b7) 0 (-1))) b7) 1 (-1))) b7) 2 (-1))) b7 (upd (zA (zsetA (zsetA (zsetA (znewA M b7 15 8) b7 (upd (zA (znewA M b7 15 8) b7) 0 (-1))) b7 (upd (zA (zsetA (znewA M b7 15 8) b7 (upd (zA (znewA M b7 15 8) b7) 0 (-1))) b7) 1 (-1))) b7 (upd (zA (zsetA (zsetA (znewA M b7 15 8) b7 (upd (zA (znewA M b7 15 8) b7) 0 (-1))) b7 (upd (zA (zsetA (znewA M b7 15 8) b7 (upd (zA (znewA M b7 15 8) b7) 0 (-1))) b7) 1 (-1))) b7) 2 (-1))) b7) 3 (-1))) b7 (upd (zA (zsetA (zsetA (zsetA (zsetA (znewA M b7 15 8) b7 (upd (zA (znewA M b7 15 8) b7) 0 (-1))) b7 (upd (zA (zsetA (znewA M b7 15 8) b7 (upd (zA (znewA M b7 15 8) b7) 0 (-1))) b7) 1 (-1))) b7 (upd (zA (zsetA (zsetA (znewA M b7 15 8) b7 (upd (zA (znewA M b7 15 8) b7) 0 (-1))) b7 (upd (zA (zsetA (znewA M b7 15 8) b7 (upd (zA (znewA M b7 15 8) b7) 0 (-1))) b7) 1 (-1))) b7) 2 (-1))) b7 (upd (zA (zsetA (zsetA (zsetA (znewA M b7 15 8) b7 (upd (zA (znewA M b7 15 8) b7) 0 (-1))) b7 (upd (zA (zsetA (znewA M b7 15 8) b7 (upd (zA (znewA M b7 15 8) b7) 0 (-1))) b7) 1 (-1))) b7 (upd (zA (zsetA (zsetA (znewA M b7 15 8) b7 (upd (zA (znewA M b7 15 8) b7) 0 (-1))) b7 (upd (zA (zsetA (znewA M b7 15 8) b7 (upd (zA (znewA M b7 15 8) b7) 0 (-1))) b7) 1 (-1))) b7) 2 (-1))) b7) 3 (-1))) b7) 4 (-1))) b7) 5 (-1))) b7) 6 (-1))) b7 (upd (zA (zsetA (zsetA (zsetA (zsetA (zsetA (zsetA (zsetA (znewA M b7 15 8) b7 (upd (zA (znewA M b7 15 8) b7) 0 (-1))) b7 (upd (zA (zsetA (znewA M b7 15 8) b7 (upd (zA (znewA M b7 15 8) b7) 0 (-1))) b7) 1 (-1))) b7 (upd (zA (zsetA (zsetA (znewA M b7 15 8) b7 (upd (zA (znewA M b7 15 8) b7) 0 (-1))) b7 (upd (zA (zsetA (znewA M b7 15 8) b7 (upd (zA (znewA M b7 15 8) b7) 0 (-1))) b7) 1 (-1))) b7) 2 (-1))) b7 (upd (zA (zsetA (zsetA (zsetA (znewA M b7 15 8) b7 (upd (zA (znewA M b7 15 8) b7) 0 (-1))) b7 (upd (zA (zsetA (znewA M b7 15 8) b7 (upd (zA (znewA M b7 15 8) b7) 0 (-1))) b7) 1 (-1))) b7 (upd (zA (zsetA (zsetA (znewA M b7 15 8) b7 (upd (zA (znewA M b7 15 8) b7) 0 (-1))) b7 (upd (zA (zsetA (znewA M b7 15 8) b7 (upd (zA (znewA M b7 15 8) b7) 0 (-1))) b7) 1 (-1))) b7) 2 (-1))) b7) 3 (-1))) b7 (upd (zA (zsetA (zsetA (zsetA (zsetA (znewA M b7 15 8) b7 (upd (zA (znewA M b7 15 8) b7) 0 (-1))) b7 (upd (zA (zsetA (znewA M b7 15 8) b7 (upd (zA (znewA M b7 15 8) b7) 0 (-1))) b7) 1 (-1))) b7 (upd (zA (zsetA (zsetA (znewA M b7 15 8) b7 (upd (zA (znewA M b7 15 8) b7) 0 (-1))) b7 (upd (zA (zsetA (znewA M b7 15 8) b7 (upd (zA (znewA M b7 15 8) b7) 0 (-1))) b7) 1 (-1))) b7) 2 (-1))) b7 (upd (zA (zsetA (zsetA (zsetA (znewA M b7 15 8) b7 (upd (zA (znewA M b7 15 8) b7) 0 (-1))) b7 (upd (zA (zsetA (znewA M b7 15 8) b7 (upd (zA (znewA M b7 15 8) b7) 0 (-1))) b7) 1 (-1))) b7 (upd (zA (zsetA (zsetA (znewA M b7 15 8) b7 (upd (zA (znewA M b7 15 8) b7) 0 (-1))) b7 (upd (zA (zsetA (znewA M b7 15 8) b7 (upd (zA (znewA M b7 15 8) b7) 0 (-1))) b7) 1 (-1))) b7) 2 (-1))) b7) 3 (-1))) b7) 4 (-1))) b7 (upd (zA (zsetA (zsetA (zsetA (zsetA (zsetA (znewA M b7 15 8) b7 (upd (zA (znewA M b7 15 8) b7) 0 (-1))) b7 (upd (zA (zsetA (znewA M b7 15 8) b7 (upd (zA (znewA M b7 15 8) b7) 0 (-1))) b7) 1 (-1))) b7 (upd (zA (zsetA (zsetA (znewA M b7 15 8) b7 (upd (zA (znewA M b7 15 8) b7) 0 (-1))) b7 (upd (zA (zsetA (znewA M b7 15 8) b7 (upd (zA (znewA M b7 15 8) b7) 0 (-1))) b7) 1 (-1))) b7) 2 (-1))) b7 (upd (zA (zsetA (zsetA (zsetA (znewA M b7 15 8) b7 (upd (zA (znewA M b7 15 8) b7) 0 (-1))) b7 (upd (zA (zsetA (znewA M b7 15 8) b7 (upd (zA (znewA M b7 15 8) b7) 0 (-1))) b7) 1 (-1))) b7 (upd (zA (zsetA (zsetA (znewA M b7 15 8) b7 (upd (zA (znewA M b7 15 8) b7) 0 (-1))) b7 (upd (zA (zsetA (znewA M b7 15 8) b7 (upd (zA (znewA M b7 15 8) b7) 0 (-1))) b7) 1 (-1))) b7) 2 (-1))) b7) 3 (-1))) b7 (upd (zA (zsetA (zsetA (zsetA (zsetA (znewA M b7 15 8) b7 (upd (zA (znewA M b7 15 8) b7) 0 (-1))) b7 (upd (zA (zsetA (znewA M b7 15 8) b7 (upd (zA (znewA M b7 15 8) b7) 0 (-1))) b7) 1 (-1))) b7 (upd (zA (zsetA (zsetA (znewA M b7 15 8) b7 (upd (zA (znewA M b7 15 8) b7) 0 (-1))) b7 (upd (zA (zsetA (znewA M b7 15 8) b7 (upd (zA (znewA M b7 15 8) b7) 0 (-1))) b7) 1 (-1))) b7) 2 (-1))) b7 (upd (zA (zsetA (zsetA (zsetA (znewA M b7 15 8) b7 (upd (zA (znewA M b7 15 8) b7) 0 (-1))) b7 (upd (zA (zsetA (znewA M b7 15 8) b7 (upd (zA (znewA M b7 15 8) b7) 0 (-1))) b7) 1 (-1))) b7 (upd (zA (zsetA (zsetA (znewA M b7 15 8) b7 (upd (zA (znewA M b7 15 8) b7) 0 (-1))) b7 (upd (zA (zsetA (znewA M b7 15 8) b7 (upd (zA (znewA M b7 15 8) b7) 0 (-1))) b7) 1 (-1))) b7) 2 (-1))) b7) 3 (-1))) b7) 4 (-1))) b7) 5 (-1))) b7 (upd (zA (zsetA (zsetA (zsetA (zsetA (zsetA (zsetA (znewA M b7 15 8) b7 (upd (zA (znewA M b7 15 8) b7) 0 (-1))) b7 (upd (zA (zsetA (znewA M b7 15 8) b7 (upd (zA (znewA M b7 15 8) b7) 0 (-1))) b7) 1 (-1))) b7 (upd (zA (zsetA (zsetA (znewA M b7 15 8) b7 (upd (zA (znewA M b7 15 8) b7) 0 (-1))) b7 (upd (zA (zsetA (znewA M b7 15 8) b7 (upd (zA (znewA M b7 15 8) b7) 0 (-1))) b7) 1 (-1))) b7) 2 (-1))) b7 (upd (zA (zsetA (zsetA (zsetA (znewA M b7 15 8) b7 (upd (zA (znewA M b7 15 8) b7) 0 (-1))) b7 (upd (zA (zsetA (znewA M b7 15 8) b7 (upd (zA (znewA M b7 15 8) b7) 0 (-1))) b7) 1 (-1))) b7 (upd (zA (zsetA (zsetA (znewA M b7 15 8) b7 (upd (zA (znewA M b7 15 8) b7) 0 (-1))) b7 (upd (zA (zsetA (znewA M b7 15 8) b7 (upd (zA (znewA M b7 15 8) b7) 0 (-1))) b7) 1 (-1))) b7) 2 (-1))) b7) 3 (-1))) b7 (upd (zA (zsetA (zsetA (zsetA (zsetA (znewA M b7 15 8) b7 (upd (zA (znewA M b7 15 8) b7) 0 (-1))) b7 (upd (zA (zsetA (znewA M b7 15 8) b7 (upd (zA (znewA M b7 15 8) b7) 0 (-1))) b7) 1 (-1))) b7 (upd (zA (zsetA (zsetA (znewA M b7 15 8) b7 (upd (zA (znewA M b7 15 8) b7) 0 (-1))) b7 (upd (zA (zsetA (znewA M b7 15 8) b7 (upd (zA (znewA M b7 15 8) b7) 0 (-1))) b7) 1 (-1))) b7) 2 (-1))) b7 (upd (zA (zsetA (zsetA (zsetA (znewA M b7 15 8) b7 (upd (zA (znewA M b7 15 8) b7) 0 (-1))) b7 (upd (zA (zsetA (znewA M b7 15 8) b7 (upd (zA (znewA M b7 15 8) b7) 0 (-1))) b7) 1 (-1))) b7 (upd (zA (zsetA (zsetA (znewA M b7 15 8) b7 (upd (zA (znewA M b7 15 8) b7) 0 (-1))) b7 (upd (zA (zsetA (znewA M b7 15 8) b7 (upd (zA (znewA M b7 15 8) b7) 0 (-1))) b7) 1 (-1))) b7) 2 (-1))) b7) 3 (-1))) b7) 4 (-1))) b7 (upd (zA (zsetA (zsetA (zsetA (zsetA (zsetA (znewA M b7 15 8) b7 (upd (zA (znewA M b7 15 8) b7) 0 (-1))) b7 (upd (zA (zsetA (znewA M b7 15 8) b7 (upd (zA (znewA M b7 15 8) b7) 0 (-1))) b7) 1 (-1))) b7 (upd (zA (zsetA (zsetA (znewA M b7 15 8) b7 (upd (zA (znewA M b7 15 8) b7) 0 (-1))) b7 (upd (zA (zsetA (znewA M b7 15 8) b7 (upd (zA (znewA M b7 15 8) b7) 0 (-1))) b7) 1 (-1))) b7) 2 (-1))) b7 (upd (zA (zsetA (zsetA (zsetA (znewA M b7 15 8) b7 (upd (zA (znewA M b7 15 8) b7) 0 (-1))) b7 (upd (zA (zsetA (znewA M b7 15 8) b7 (upd (zA (znewA M b7 15 8) b7) 0 (-1))) b7) 1 (-1))) b7 (upd (zA (zsetA (zsetA (znewA M b7 15 8) b7 (upd (zA (znewA M b7 15 8) b7) 0 (-1))) b7 (upd (zA (zsetA (znewA M b7 15 8) b7 (upd (zA (znewA M b7 15 8) b7) 0 (-1))) b7) 1 (-1))) b7) 2 (-1))) b7) 3 (-1))) b7 (upd (zA (zsetA (zsetA (zsetA (zsetA (znewA M b7 15 8) b7 (upd (zA (znewA M b7 15 8) b7) 0 (-1))) b7 (upd (zA (zsetA (znewA M b7 15 8) b7 (upd (zA (znewA M b7 15 8) b7) 0 (-1))) b7) 1 (-1))) b7 (upd (zA (zsetA (zsetA (znewA M b7 15 8) b7 (upd (zA (znewA M b7 15 8) b7) 0 (-1))) b7 (upd (zA (zsetA (znewA M b7 15 8) b7 (upd (zA (znewA M b7 15 8) b7) 0 (-1))) b7) 1 (-1))) b7) 2 (-1))) b7 (upd (zA (zsetA (zsetA (zsetA (znewA M b7 15 8) b7 (upd (zA (znewA M b7 15 8) b7) 0 (-1))) b7 (upd (zA (zsetA (znewA M b7 15 8) b7 (upd (zA (znewA M b7 15 8) b7) 0 (-1))) b7) 1 (-1))) b7 (upd (zA (zsetA (zsetA (znewA M b7 15 8) b7 (upd (zA (znewA M b7 15 8) b7) 0 (-1))) b7 (upd (zA (zsetA (znewA M b7 15 8) b7 (upd (zA (znewA M b7 15 8) b7) 0 (-1))) b7) 1 (-1))) b7) 2 (-1))) b7) 3 (-1))) b7) 4 (-1))) b7) 5 (-1))) b7) 6 (-1))) b7) 7 (-1))) 288 a (some b7))) := by
  refine zMet_of (by decide +kernel) (Nat.le_of_ble_eq_true rfl) rfl hcb ?_
  show zw G mX9_init d _ _ _ 0 [some (.ref a)] [] M
  refine zr_aload_n dX9_init_0 rfl ?_
  refine zr_objInit dX9_init_1 mlX9_3 (Nat.le_of_ble_eq_true rfl) (by omega) ?_
  refine zr_aload_n dX9_init_4 rfl ?_
  refine zr_bipush (v := nI 8) dX9_init_5 (by decide) ?_
  refine zr_newPN (κ := 15) dX9_init_7 rfl (Or.inr (Or.inl ⟨rfl, rfl, rfl⟩)) ac_int (by decide) (by (try simp only [zC_newA, zS_newA, zC_putR, zS_putR, zC_put, zS_put, zC_setA, zS_setA]); omega) (fun b7 hb7 => ?_)
  refine zr_dup dX9_init_9 rfl ?_
  refine zr_iconst (v := nI 0) dX9_init_10 (by decide) ?_
  refine zr_iconst (v := -1) dX9_init_11 (by decide) ?_
  refine zr_iastN dX9_init_12 (nkA0 _ _ _ _) (nkN _ _ _ _) (by omega) (by omega) ?_
  refine zr_dup dX9_init_13 rfl ?_
  refine zr_iconst (v := nI 1) dX9_init_14 (by decide) ?_
  refine zr_iconst (v := -1) dX9_init_15 (by decide) ?_
  refine zr_iastN dX9_init_16 (nkA0 _ _ _ _) (nkN _ _ _ _) (by omega) (by omega) ?_
  refine zr_dup dX9_init_17 rfl ?_
  refine zr_iconst (v := nI 2) dX9_init_18 (by decide) ?_
  refine zr_iconst (v := -1) dX9_init_19 (by decide) ?_
  refine zr_iastN dX9_init_20 (nkA0 _ _ _ _) (nkN _ _ _ _) (by omega) (by omega) ?_
  refine zr_dup dX9_init_21 rfl ?_
  refine zr_iconst (v := nI 3) dX9_init_22 (by decide) ?_
  refine zr_iconst (v := -1) dX9_init_23 (by decide) ?_
  refine zr_iastN dX9_init_24 (nkA0 _ _ _ _) (nkN _ _ _ _) (by omega) (by omega) ?_
  refine zr_dup dX9_init_25 rfl ?_
  refine zr_iconst (v := nI 4) dX9_init_26 (by decide) ?_
  refine zr_iconst (v := -1) dX9_init_27 (by decide) ?_
  refine zr_iastN dX9_init_28 (nkA0 _ _ _ _) (nkN _ _ _ _) (by omega) (by omega) ?_
  refine zr_dup dX9_init_29 rfl ?_
  refine zr_iconst (v := nI 5) dX9_init_30 (by decide) ?_
  refine zr_iconst (v := -1) dX9_init_31 (by decide) ?_
  refine zr_iastN dX9_init_32 (nkA0 _ _ _ _) (nkN _ _ _ _) (by omega) (by omega) ?_
  refine zr_dup dX9_init_33 rfl ?_
  refine zr_bipush (v := nI 6) dX9_init_34 (by decide) ?_
  refine zr_iconst (v := -1) dX9_init_36 (by decide) ?_
  refine zr_iastN dX9_init_37 (nkA0 _ _ _ _) (nkN _ _ _ _) (by omega) (by omega) ?_
  refine zr_dup dX9_init_38 rfl ?_
  refine zr_bipush (v := nI 7) dX9_init_39 (by decide) ?_
  refine zr_iconst (v := -1) dX9_init_41 (by decide) ?_
  refine zr_iastN dX9_init_42 (nkA0 _ _ _ _) (nkN _ _ _ _) (by omega) (by omega) ?_
  refine zr_putR dX9_init_43 (lkX9_9.elim id (fun h => absurd h (by decide +kernel))) rfl rfl (by decide) (by decide) rfl (nkA hb7 ha (by decide)) ?_
  refine zr_vret dX9_init_46 rfl ?_
  exact ⟨rfl, b7, hb7, rfl⟩
set_option maxRecDepth 100000 in
set_option maxHeartbeats 4000000 in
theorem i_X10 {G : zG} {d a dk fl : Nat} {M : zM} (hd : 2 ≤ d) (hcb : zC M ≤ 600128 ∧ zS M ≤ 7301098) (hrm : zC M + 20 ≤ 600128 ∧ zS M + 400000 ≤ 7301098) (ha : zK M a = 11) : zMet G mX10_init d [.ref a, .ref dk, .ref fl] M (fun o M' => o = .inl none ∧ ∃ b8 b17 b26 : Nat, zK M b8 = 0 ∧ zK (zputR (znewA M b8 14 512) 322 a (some b8)) b17 = 0 ∧ zK (zputR (znewA (zputR (znewA M b8 14 512) 322 a (some b8)) b17 14 512) 323 a (some b17)) b26 = 0 ∧ M' = (zputR (zputR (zputR (znewA (zputR (znewA (zputR (znewA M b8 14 512) 322 a (some b8)) b17 14 512) 323 a (some b17)) b26 19 256) 324 a (some b26)) 320 a (some dk)) 321 a (some fl))) := by
  refine zMet_of (by decide +kernel) (Nat.le_of_ble_eq_true rfl) rfl hcb ?_
  show zw G mX10_init d _ _ _ 0 [some (.ref a), some (.ref dk), some (.ref fl)] [] M
  refine zr_aload_n dX10_init_0 rfl ?_
  refine zr_objInit dX10_init_1 mlX10_3 (Nat.le_of_ble_eq_true rfl) (by omega) ?_
  refine zr_aload_n dX10_init_4 rfl ?_
  refine zr_sipush (v := nI 512) dX10_init_5 (by decide) ?_
  refine zr_newPN (κ := 14) dX10_init_8 rfl (Or.inl ⟨rfl, rfl, rfl⟩) ac_byte (by decide) (by (try simp only [zC_newA, zS_newA, zC_putR, zS_putR, zC_put, zS_put, zC_setA, zS_setA]); omega) (fun b8 hb8 => ?_)
  refine zr_putR dX10_init_10 (lkX10_9.elim id (fun h => absurd h (by decide +kernel))) rfl rfl (by decide) (by decide) rfl (nkA hb8 ha (by decide)) ?_
  refine zr_aload_n dX10_init_13 rfl ?_
  refine zr_sipush (v := nI 512) dX10_init_14 (by decide) ?_
  refine zr_newPN (κ := 14) dX10_init_17 rfl (Or.inl ⟨rfl, rfl, rfl⟩) ac_byte (by decide) (by (try simp only [zC_newA, zS_newA, zC_putR, zS_putR, zC_put, zS_put, zC_setA, zS_setA]); omega) (fun b17 hb17 => ?_)
  refine zr_putR dX10_init_19 (lkX10_15.elim id (fun h => absurd h (by decide +kernel))) rfl rfl (by decide) (by decide) rfl (nkA hb17 (nkA hb8 ha (by decide)) (by decide)) ?_
  refine zr_aload_n dX10_init_22 rfl ?_
  refine zr_sipush (v := nI 256) dX10_init_23 (by decide) ?_
  refine zr_newQN (κ := 19) dX10_init_26 (Or.inr ⟨rfl, rfl, rfl⟩) (by decide +kernel) ao_19 (by decide) (by (try simp only [zC_newA, zS_newA, zC_putR, zS_putR, zC_put, zS_put, zC_setA, zS_setA]); omega) (fun b26 hb26 => ?_)
  refine zr_putR dX10_init_29 (lkX10_20.elim id (fun h => absurd h (by decide +kernel))) rfl rfl (by decide) (by decide) rfl (nkA hb26 (nkA hb17 (nkA hb8 ha (by decide)) (by decide)) (by decide)) ?_
  refine zr_aload_n dX10_init_32 rfl ?_
  refine zr_aload_n dX10_init_33 rfl ?_
  refine zr_putR dX10_init_34 (lkX10_24.elim id (fun h => absurd h (by decide +kernel))) rfl rfl (by decide) (by decide) rfl (nkA hb26 (nkA hb17 (nkA hb8 ha (by decide)) (by decide)) (by decide)) ?_
  refine zr_aload_n dX10_init_37 rfl ?_
  refine zr_aload_n dX10_init_38 rfl ?_
  refine zr_putR dX10_init_39 (lkX10_28.elim id (fun h => absurd h (by decide +kernel))) rfl rfl (by decide) (by decide) rfl (nkA hb26 (nkA hb17 (nkA hb8 ha (by decide)) (by decide)) (by decide)) ?_
  refine zr_vret dX10_init_42 rfl ?_
  exact ⟨rfl, b8, b17, b26, hb8, hb17, hb26, rfl⟩
