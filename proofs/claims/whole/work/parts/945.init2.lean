/-! ===== what is made: rows, tables ===== -/
set_option maxRecDepth 100000 in
set_option maxHeartbeats 4000000 in
theorem i_X6 {G : zG} {d a n : Nat} {M : zM} (hd : 2 ≤ d) (hcb : zC M ≤ 600128 ∧ zS M ≤ 7301098) (hrm : zC M + 20 ≤ 600128 ∧ zS M + 400000 ≤ 7301098) (hn : n ≤ 200) (ha : zK M a = 7) : zMet G mX6_init d [.ref a, .int (nI n)] M (fun o M' => o = .inl none ∧ ∃ b10 : Nat, zK M b10 = 0 ∧ M' = (zputR (znewA M b10 14 n) 192 a (some b10))) := by
  refine zMet_of (by decide +kernel) (Nat.le_of_ble_eq_true rfl) rfl hcb ?_
  show zw G mX6_init d _ _ _ 0 [some (.ref a), some (.int (nI n))] [] M
  refine zr_aload_n dX6_init_0 rfl ?_
  refine zr_objInit dX6_init_1 mlX6_3 (Nat.le_of_ble_eq_true rfl) (by omega) ?_
  refine zr_aload_n dX6_init_4 rfl ?_
  refine zr_iconst (v := nI 0) dX6_init_5 (by decide) ?_
  refine zr_iload_n dX6_init_6 rfl ?_
  refine zr_callS (md' := mJ9_max_7cf53) (As := [.int (nI 0), .int (nI n)]) dX6_init_7 mlX6_9 okJ9_max_7cf53 rfl stJ9_max_7cf53 rfl (by omega) (Nat.le_of_ble_eq_true rfl) hcb (c_max (d := d - 1) (x := 0) (y := n) hcb (by decide) (by omega)) (fun k M1 h => by cases h.1) (fun v M1 hq => ?_)
  obtain ⟨e0, e1⟩ := hq
  cases e0
  rw [e1, Nat.zero_max]
  refine zr_newPN (κ := 14) dX6_init_10 rfl (Or.inl ⟨rfl, rfl, rfl⟩) ac_byte (by omega) (by (try simp only [zC_newA, zS_newA, zC_putR, zS_putR, zC_put, zS_put, zC_setA, zS_setA]); omega) (fun b10 hb10 => ?_)
  refine zr_putR dX6_init_12 (lkX6_15.elim id (fun h => absurd h (by decide +kernel))) rfl rfl (by decide) (by decide) rfl (nkA hb10 ha (by decide)) ?_
  refine zr_vret dX6_init_15 rfl ?_
  exact ⟨rfl, b10, hb10, rfl⟩
set_option maxRecDepth 100000 in
set_option maxHeartbeats 4000000 in
theorem i_X8s {G : zG} {d a : Nat} {M : zM} (hcb : zC M ≤ 600128 ∧ zS M ≤ 7301098) (ha : zK M a = 9) : zMet G mX8_start d [.ref a] M (fun o M' => o = .inl none ∧ M' = (zput (zput M 258 a (nI 0)) 259 a (-1))) := by
  refine zMet_of (by decide +kernel) (Nat.le_of_ble_eq_true rfl) rfl hcb ?_
  show zw G mX8_start d _ _ _ 0 [some (.ref a)] [] M
  refine zr_aload_n dX8_start_0 rfl ?_
  refine zr_iconst (v := nI 0) dX8_start_1 (by decide) ?_
  refine zr_putI dX8_start_2 lkX8_19 (by decide) (by decide) rfl rfl ha ?_
  refine zr_aload_n dX8_start_5 rfl ?_
  refine zr_iconst (v := -1) dX8_start_6 (by decide) ?_
  refine zr_putI dX8_start_7 lkX8_23 (by decide) (by decide) rfl rfl ha ?_
  refine zr_vret dX8_start_10 rfl ?_
  exact ⟨rfl, rfl⟩
