/-! ===== ROWS of zw over numbers that are known as natural ones ===== -/
/-- a byte's number -/
def zb (x : Int32) : Nat := x.toBitVec.toNat % 256
theorem zb_lt (x : Int32) : zb x < 256 := Nat.mod_lt _ (by decide)
theorem zb_and (x : Int32) : x &&& 255 = nI (zb x) := pk_and x 8 (by decide)
theorem zk_arr {M : zM} {a κ : Nat} (h : zK M a = κ) (hk : 14 ≤ κ ∧ κ ≤ 19) : 14 ≤ zK M a ∧ zK M a ≤ 19 := by rw [h]; exact hk
theorem znot {n : Nat} (h : n < 2 ^ 31) : ¬ nI n = -1 := by
  intro e
  have h1 := congrArg Int32.toInt e
  rw [nI_toInt h] at h1
  have h2 : (-1 : Int32).toInt = -1 := by decide
  omega
section ZNat
variable {G : zG} {md : zD} {d k0 n0 : Nat} {Q : zOut → zM → Prop} {pc : Nat} {lv : List (Option Value)} {st : List Value} {M : zM}
theorem zr_iaddN {a b : Nat} (hd : decode md.2.1 pc = .ok (.iadd, 1)) (k : zw G md d k0 n0 Q (pc + 1) lv (.int (nI (a + b)) :: st) M) : zw G md d k0 n0 Q pc lv (.int (nI b) :: .int (nI a) :: st) M := zr_iadd hd (by rw [nI_add]; exact k)
theorem zr_isubN {a b : Nat} (hd : decode md.2.1 pc = .ok (.isub, 1)) (h : b ≤ a) (k : zw G md d k0 n0 Q (pc + 1) lv (.int (nI (a - b)) :: st) M) : zw G md d k0 n0 Q pc lv (.int (nI b) :: .int (nI a) :: st) M := zr_isub hd (by rw [pk_sub h]; exact k)
theorem zr_imulN {a b : Nat} (hd : decode md.2.1 pc = .ok (.imul, 1)) (k : zw G md d k0 n0 Q (pc + 1) lv (.int (nI (a * b)) :: st) M) : zw G md d k0 n0 Q pc lv (.int (nI b) :: .int (nI a) :: st) M := zr_imul hd (by rw [pk_mul]; exact k)
theorem zr_idivN {a b : Nat} (hd : decode md.2.1 pc = .ok (.idiv, 1)) (ha : a < 2 ^ 31) (h0 : 0 < b) (hb : b < 2 ^ 31) (k : zw G md d k0 n0 Q (pc + 1) lv (.int (nI (a / b)) :: st) M) : zw G md d k0 n0 Q pc lv (.int (nI b) :: .int (nI a) :: st) M := zr_idiv hd (nI_ne0 h0 hb) (by rw [pk_div ha h0 hb]; exact k)
theorem zr_iremN {a b : Nat} (hd : decode md.2.1 pc = .ok (.irem, 1)) (ha : a < 2 ^ 31) (h0 : 0 < b) (hb : b < 2 ^ 31) (k : zw G md d k0 n0 Q (pc + 1) lv (.int (nI (a % b)) :: st) M) : zw G md d k0 n0 Q pc lv (.int (nI b) :: .int (nI a) :: st) M := zr_irem hd (nI_ne0 h0 hb) (by rw [pk_rem ha h0 hb]; exact k)
theorem zr_iand255 {x : Int32} (hd : decode md.2.1 pc = .ok (.iand, 1)) (k : zw G md d k0 n0 Q (pc + 1) lv (.int (nI (zb x)) :: st) M) : zw G md d k0 n0 Q pc lv (.int (nI 255) :: .int x :: st) M := zr_iand hd (by rw [show nI 255 = (255 : Int32) from rfl, zb_and]; exact k)
theorem zr_iincN {i : Nat} {n : Nat} {x : Nat} {lv' : List (Option Value)} (hd : decode md.2.1 pc = .ok (.iinc i n, 3)) (hlen : lv.length ≤ md.2.2.1) (hn : i < md.2.2.1) (hc : zc1 lv i = true) (hx : lv[i]? = some (some (.int (nI x)))) (he : lv.set i (some (.int (nI (x + n)))) = lv') (k : zw G md d k0 n0 Q (pc + 3) lv' st M) : zw G md d k0 n0 Q pc lv st M :=
  zr_iinc hd hlen hn hc hx (by rw [show Int32.ofInt (n : Int) = nI n from rfl, nI_add]) he k
theorem zr_idecN {i : Nat} {x : Nat} {lv' : List (Option Value)} (hd : decode md.2.1 pc = .ok (.iinc i (-1), 3)) (hlen : lv.length ≤ md.2.2.1) (hn : i < md.2.2.1) (hc : zc1 lv i = true) (hx : lv[i]? = some (some (.int (nI x)))) (h0 : 0 < x) (he : lv.set i (some (.int (nI (x - 1)))) = lv') (k : zw G md d k0 n0 Q (pc + 3) lv' st M) : zw G md d k0 n0 Q pc lv st M :=
  zr_iinc hd hlen hn hc hx (by rw [show Int32.ofInt (-1) = (-1 : Int32) from by decide]; exact sb_m1 h0) he k
theorem zr_icmp_eqN {a b : Nat} {off : Int} (tgt : Nat) (hd : decode md.2.1 pc = .ok (.if_icmp .eq off, 3)) (ht : (pc : Int) + off = (tgt : Int)) (ha : a < 2 ^ 31) (hb : b < 2 ^ 31) (k1 : a = b → zw G md d k0 n0 Q tgt lv st M) (k2 : ¬ a = b → zw G md d k0 n0 Q (pc + 3) lv st M) : zw G md d k0 n0 Q pc lv (.int (nI b) :: .int (nI a) :: st) M := zr_icmp_eq tgt hd ht (fun h => k1 ((nI_eq ha hb).mp h)) (fun h => k2 (fun e => h ((nI_eq ha hb).mpr e)))
theorem zr_icmp_neN {a b : Nat} {off : Int} (tgt : Nat) (hd : decode md.2.1 pc = .ok (.if_icmp .ne off, 3)) (ht : (pc : Int) + off = (tgt : Int)) (ha : a < 2 ^ 31) (hb : b < 2 ^ 31) (k1 : ¬ a = b → zw G md d k0 n0 Q tgt lv st M) (k2 : a = b → zw G md d k0 n0 Q (pc + 3) lv st M) : zw G md d k0 n0 Q pc lv (.int (nI b) :: .int (nI a) :: st) M := zr_icmp_ne tgt hd ht (fun h => k1 (fun e => h ((nI_eq ha hb).mpr e))) (fun h => k2 ((nI_eq ha hb).mp h))
theorem zr_icmp_ltN {a b : Nat} {off : Int} (tgt : Nat) (hd : decode md.2.1 pc = .ok (.if_icmp .lt off, 3)) (ht : (pc : Int) + off = (tgt : Int)) (ha : a < 2 ^ 31) (hb : b < 2 ^ 31) (k1 : a < b → zw G md d k0 n0 Q tgt lv st M) (k2 : b ≤ a → zw G md d k0 n0 Q (pc + 3) lv st M) : zw G md d k0 n0 Q pc lv (.int (nI b) :: .int (nI a) :: st) M := zr_icmp_lt tgt hd ht (fun h => k1 ((nI_ltI ha hb).mp h)) (fun h => k2 (Nat.not_lt.mp (fun e => h ((nI_ltI ha hb).mpr e))))
theorem zr_icmp_geN {a b : Nat} {off : Int} (tgt : Nat) (hd : decode md.2.1 pc = .ok (.if_icmp .ge off, 3)) (ht : (pc : Int) + off = (tgt : Int)) (ha : a < 2 ^ 31) (hb : b < 2 ^ 31) (k1 : b ≤ a → zw G md d k0 n0 Q tgt lv st M) (k2 : a < b → zw G md d k0 n0 Q (pc + 3) lv st M) : zw G md d k0 n0 Q pc lv (.int (nI b) :: .int (nI a) :: st) M := zr_icmp_ge tgt hd ht (fun h => k1 ((nI_leI hb ha).mp h)) (fun h => k2 (Nat.not_le.mp (fun e => h ((nI_leI hb ha).mpr e))))
theorem zr_icmp_gtN {a b : Nat} {off : Int} (tgt : Nat) (hd : decode md.2.1 pc = .ok (.if_icmp .gt off, 3)) (ht : (pc : Int) + off = (tgt : Int)) (ha : a < 2 ^ 31) (hb : b < 2 ^ 31) (k1 : b < a → zw G md d k0 n0 Q tgt lv st M) (k2 : a ≤ b → zw G md d k0 n0 Q (pc + 3) lv st M) : zw G md d k0 n0 Q pc lv (.int (nI b) :: .int (nI a) :: st) M := zr_icmp_gt tgt hd ht (fun h => k1 ((nI_ltI hb ha).mp h)) (fun h => k2 (Nat.not_lt.mp (fun e => h ((nI_ltI hb ha).mpr e))))
theorem zr_icmp_leN {a b : Nat} {off : Int} (tgt : Nat) (hd : decode md.2.1 pc = .ok (.if_icmp .le off, 3)) (ht : (pc : Int) + off = (tgt : Int)) (ha : a < 2 ^ 31) (hb : b < 2 ^ 31) (k1 : a ≤ b → zw G md d k0 n0 Q tgt lv st M) (k2 : b < a → zw G md d k0 n0 Q (pc + 3) lv st M) : zw G md d k0 n0 Q pc lv (.int (nI b) :: .int (nI a) :: st) M := zr_icmp_le tgt hd ht (fun h => k1 ((nI_leI ha hb).mp h)) (fun h => k2 (Nat.not_le.mp (fun e => h ((nI_leI ha hb).mpr e))))
theorem zr_if_eqN {a : Nat} {off : Int} (tgt : Nat) (hd : decode md.2.1 pc = .ok (.ifCond .eq off, 3)) (ht : (pc : Int) + off = (tgt : Int)) (ha : a < 2 ^ 31) (k1 : a = 0 → zw G md d k0 n0 Q tgt lv st M) (k2 : ¬ a = 0 → zw G md d k0 n0 Q (pc + 3) lv st M) : zw G md d k0 n0 Q pc lv (.int (nI a) :: st) M := zr_if_eq tgt hd ht (fun h => k1 ((nI_eq ha (by decide : 0 < 2 ^ 31)).mp h)) (fun h => k2 (fun e => h (by rw [e]; rfl)))
theorem zr_if_neN {a : Nat} {off : Int} (tgt : Nat) (hd : decode md.2.1 pc = .ok (.ifCond .ne off, 3)) (ht : (pc : Int) + off = (tgt : Int)) (ha : a < 2 ^ 31) (k1 : ¬ a = 0 → zw G md d k0 n0 Q tgt lv st M) (k2 : a = 0 → zw G md d k0 n0 Q (pc + 3) lv st M) : zw G md d k0 n0 Q pc lv (.int (nI a) :: st) M := zr_if_ne tgt hd ht (fun h => k1 (fun e => h (by rw [e]; rfl))) (fun h => k2 ((nI_eq ha (by decide : 0 < 2 ^ 31)).mp h))
theorem zr_if_ltN {a : Nat} {off : Int} (tgt : Nat) (hd : decode md.2.1 pc = .ok (.ifCond .lt off, 3)) (ht : (pc : Int) + off = (tgt : Int)) (ha : a < 2 ^ 31) (k2 : zw G md d k0 n0 Q (pc + 3) lv st M) : zw G md d k0 n0 Q pc lv (.int (nI a) :: st) M := zr_if_lt tgt hd ht (fun h => absurd h (nI_pos ha)) (fun _ => k2)
theorem zr_if_geN {a : Nat} {off : Int} (tgt : Nat) (hd : decode md.2.1 pc = .ok (.ifCond .ge off, 3)) (ht : (pc : Int) + off = (tgt : Int)) (ha : a < 2 ^ 31) (k1 : zw G md d k0 n0 Q tgt lv st M) : zw G md d k0 n0 Q pc lv (.int (nI a) :: st) M := zr_if_ge tgt hd ht (fun _ => k1) (fun h => absurd (nI_pos' ha) h)
theorem zr_if_gtN {a : Nat} {off : Int} (tgt : Nat) (hd : decode md.2.1 pc = .ok (.ifCond .gt off, 3)) (ht : (pc : Int) + off = (tgt : Int)) (ha : a < 2 ^ 31) (k1 : 0 < a → zw G md d k0 n0 Q tgt lv st M) (k2 : a = 0 → zw G md d k0 n0 Q (pc + 3) lv st M) : zw G md d k0 n0 Q pc lv (.int (nI a) :: st) M := zr_if_gt tgt hd ht (fun h => k1 ((nI_ltI (by decide : 0 < 2 ^ 31) ha).mp h)) (fun h => k2 (Nat.eq_zero_of_not_pos (fun e => h ((nI_ltI (by decide : 0 < 2 ^ 31) ha).mpr e))))
theorem zr_if_leN {a : Nat} {off : Int} (tgt : Nat) (hd : decode md.2.1 pc = .ok (.ifCond .le off, 3)) (ht : (pc : Int) + off = (tgt : Int)) (ha : a < 2 ^ 31) (k1 : a = 0 → zw G md d k0 n0 Q tgt lv st M) (k2 : 0 < a → zw G md d k0 n0 Q (pc + 3) lv st M) : zw G md d k0 n0 Q pc lv (.int (nI a) :: st) M := zr_if_le tgt hd ht (fun h => k1 (Nat.le_zero.mp ((nI_leI ha (by decide : 0 < 2 ^ 31)).mp h))) (fun h => k2 (Nat.pos_of_ne_zero (fun e => h (by rw [e]; exact nI_le (Nat.le_refl 0) (by decide)))))
/-- a number is never -1 -/
theorem zr_icmp_eqM {a : Nat} {off : Int} (tgt : Nat) (hd : decode md.2.1 pc = .ok (.if_icmp .eq off, 3)) (ht : (pc : Int) + off = (tgt : Int)) (ha : a < 2 ^ 31) (k2 : zw G md d k0 n0 Q (pc + 3) lv st M) : zw G md d k0 n0 Q pc lv (.int (-1) :: .int (nI a) :: st) M := zr_icmp_eq tgt hd ht (fun h => absurd h (znot ha)) (fun _ => k2)
theorem zr_icmp_neM {a : Nat} {off : Int} (tgt : Nat) (hd : decode md.2.1 pc = .ok (.if_icmp .ne off, 3)) (ht : (pc : Int) + off = (tgt : Int)) (ha : a < 2 ^ 31) (k1 : zw G md d k0 n0 Q tgt lv st M) : zw G md d k0 n0 Q pc lv (.int (-1) :: .int (nI a) :: st) M := zr_icmp_ne tgt hd ht (fun _ => k1) (fun h => absurd h (znot ha))
theorem zr_icmp_eqMM {off : Int} (tgt : Nat) (hd : decode md.2.1 pc = .ok (.if_icmp .eq off, 3)) (ht : (pc : Int) + off = (tgt : Int)) (k1 : zw G md d k0 n0 Q tgt lv st M) : zw G md d k0 n0 Q pc lv (.int (-1) :: .int (-1) :: st) M := zr_icmp_eq tgt hd ht (fun _ => k1) (fun h => absurd rfl h)
theorem zr_icmp_neMM {off : Int} (tgt : Nat) (hd : decode md.2.1 pc = .ok (.if_icmp .ne off, 3)) (ht : (pc : Int) + off = (tgt : Int)) (k2 : zw G md d k0 n0 Q (pc + 3) lv st M) : zw G md d k0 n0 Q pc lv (.int (-1) :: .int (-1) :: st) M := zr_icmp_ne tgt hd ht (fun h => absurd rfl h) (fun _ => k2)
theorem zr_if_ltM {off : Int} (tgt : Nat) (hd : decode md.2.1 pc = .ok (.ifCond .lt off, 3)) (ht : (pc : Int) + off = (tgt : Int)) (k1 : zw G md d k0 n0 Q tgt lv st M) : zw G md d k0 n0 Q pc lv (.int (-1) :: st) M := zr_if_lt tgt hd ht (fun _ => k1) (fun h => absurd (by decide) h)
theorem zvp {i n : Nat} (h : i < n) (hn : n < 2 ^ 31) : vp_in (nI i) n := vp_in_nI h hn
theorem zr_ialdN {a i n : Nat} (hd : decode md.2.1 pc = .ok (.iaload, 1)) (hK : zK M a = 15) (hN : zN M a = n) (hi : i < n) (hn : n < 2 ^ 31) (kk : zw G md d k0 n0 Q (pc + 1) lv (.int (zA M a i) :: st) M) : zw G md d k0 n0 Q pc lv (.int (nI i) :: .ref a :: st) M := zr_iald hd hK (by rw [hN]; exact zvp hi hn) (by rw [nI_clamp (by omega)]; exact kk)
theorem zr_baldN {a i n : Nat} (hd : decode md.2.1 pc = .ok (.baload, 1)) (hK : zK M a = 14) (hN : zN M a = n) (hi : i < n) (hn : n < 2 ^ 31) (kk : fits .byte (.int (zA M a i)) = true → zw G md d k0 n0 Q (pc + 1) lv (.int (zA M a i) :: st) M) : zw G md d k0 n0 Q pc lv (.int (nI i) :: .ref a :: st) M := zr_bald hd hK (by rw [hN]; exact zvp hi hn) (by rw [nI_clamp (by omega)]; exact kk)
theorem zr_zaldN {a i n : Nat} (hd : decode md.2.1 pc = .ok (.baload, 1)) (hK : zK M a = 16) (hN : zN M a = n) (hi : i < n) (hn : n < 2 ^ 31) (kk : zw G md d k0 n0 Q (pc + 1) lv (.int (zA M a i) :: st) M) : zw G md d k0 n0 Q pc lv (.int (nI i) :: .ref a :: st) M := zr_zald hd hK (by rw [hN]; exact zvp hi hn) (by rw [nI_clamp (by omega)]; exact kk)
theorem zr_aaldK {a b i n : Nat} (hd : decode md.2.1 pc = .ok (.aaload, 1)) (hK : zK M a = 18 ∨ zK M a = 19) (hN : zN M a = n) (hi : i < n) (hn : n < 2 ^ 31) (hb : zB M a i = some b) (kk : zw G md d k0 n0 Q (pc + 1) lv (.ref b :: st) M) : zw G md d k0 n0 Q pc lv (.int (nI i) :: .ref a :: st) M := zr_aald hd hK (by rw [hN]; exact zvp hi hn) (by rw [nI_clamp (by omega)]; exact hb) kk
theorem zr_iastN {a i n : Nat} {x : Int32} (hd : decode md.2.1 pc = .ok (.iastore, 1)) (hK : zK M a = 15) (hN : zN M a = n) (hi : i < n) (hn : n < 2 ^ 31) (kk : zw G md d k0 n0 Q (pc + 1) lv st (zsetA M a (upd (zA M a) i x))) : zw G md d k0 n0 Q pc lv (.int x :: .int (nI i) :: .ref a :: st) M := zr_iast hd hK (by rw [hN]; exact zvp hi hn) (by rw [nI_clamp (by omega)]; exact kk)
theorem zr_bastN {a i n : Nat} {x : Int32} (hd : decode md.2.1 pc = .ok (.bastore, 1)) (hK : zK M a = 14) (hN : zN M a = n) (hi : i < n) (hn : n < 2 ^ 31) (kk : zw G md d k0 n0 Q (pc + 1) lv st (zsetA M a (upd (zA M a) i (vp_nar .byte x)))) : zw G md d k0 n0 Q pc lv (.int x :: .int (nI i) :: .ref a :: st) M := zr_bast hd hK (by rw [hN]; exact zvp hi hn) (by rw [nI_clamp (by omega)]; exact kk)
theorem zr_zastN {a i n : Nat} {x : Int32} (hd : decode md.2.1 pc = .ok (.bastore, 1)) (hK : zK M a = 16) (hN : zN M a = n) (hi : i < n) (hn : n < 2 ^ 31) (hx : x = 0 ∨ x = 1) (kk : zw G md d k0 n0 Q (pc + 1) lv st (zsetA M a (upd (zA M a) i x))) : zw G md d k0 n0 Q pc lv (.int x :: .int (nI i) :: .ref a :: st) M := zr_zast hd hK (by rw [hN]; exact zvp hi hn) (by rw [nI_clamp (by omega), show vp_nar .boolean x = x from by rcases hx with rfl | rfl <;> rfl]; exact kk)
theorem zr_aastN {a v i n : Nat} (hd : decode md.2.1 pc = .ok (.aastore, 1)) (hK : (zK M a = 18 ∧ zK M v = 5) ∨ (zK M a = 19 ∧ zK M v = 9)) (hN : zN M a = n) (hi : i < n) (hn : n < 2 ^ 31) (kk : zw G md d k0 n0 Q (pc + 1) lv st (zsetB M a (va_up (zB M a) i (some v)))) : zw G md d k0 n0 Q pc lv (.ref v :: .int (nI i) :: .ref a :: st) M := zr_aast hd hK (by rw [hN]; exact zvp hi hn) (by rw [nI_clamp (by omega)]; exact kk)
theorem zr_alenN {a n : Nat} (hd : decode md.2.1 pc = .ok (.arraylength, 1)) {κ : Nat} (hK : zK M a = κ) (hk : 14 ≤ κ ∧ κ ≤ 19) (hN : zN M a = n) (kk : zw G md d k0 n0 Q (pc + 1) lv (.int (nI n) :: st) M) : zw G md d k0 n0 Q pc lv (.ref a :: st) M := zr_alen hd (zk_arr hK hk) (by rw [hN]; exact kk)
theorem zr_copyN {idx a b sp dp n na nb : Nat} (hd : decode md.2.1 pc = .ok (.invokestatic idx, 3)) (hlk : Cond.methodLink md.1.cls idx arraycopyName ∈ lw_tbl) (hK : (zK M a = 14 ∧ zK M b = 14) ∨ (zK M a = 15 ∧ zK M b = 15)) (hna : zN M a = na) (hnb : zN M b = nb) (ha : na < 2 ^ 31) (hb : nb < 2 ^ 31) (h4 : sp + n ≤ na) (h5 : dp + n ≤ nb) (hd1 : 2 ≤ d) (hst : (st.map fun v => v.category).sum ≤ 8)
    (kk : zw G md d k0 n0 Q (pc + 3) lv st (zsetA M b (va_cpy (zA M a) (zA M b) sp dp n))) : zw G md d k0 n0 Q pc lv (.int (nI n) :: .int (nI dp) :: .ref b :: .int (nI sp) :: .ref a :: st) M :=
  zr_copy hd hlk hK (nI_pos (by omega)) (nI_pos (by omega)) (nI_pos (by omega)) (by rw [nI_clamp (by omega), nI_clamp (by omega), hna]; exact h4) (by rw [nI_clamp (by omega), nI_clamp (by omega), hnb]; exact h5) hd1 hst (by rw [nI_clamp (by omega), nI_clamp (by omega), nI_clamp (by omega)]; exact kk)
/-- the number on the stack is the same by another name -/
theorem zr_as {x y : Int32} (h : x = y) (k : zw G md d k0 n0 Q pc lv (.int y :: st) M) : zw G md d k0 n0 Q pc lv (.int x :: st) M := by rw [h]; exact k
theorem zr_asM {M' : zM} (h : M = M') (k : zw G md d k0 n0 Q pc lv st M') : zw G md d k0 n0 Q pc lv st M := by rw [h]; exact k
end ZNat
theorem zput_hit (M : zM) (f a : Nat) (v : Int32) : zI (zput M f a v) f a = v := if_pos ⟨rfl, rfl⟩
theorem zput_ms {M : zM} {f a f' a' : Nat} {v x : Int32} (h : f' ≠ f) (e : zI M f' a' = x) : zI (zput M f a v) f' a' = x := by rw [zput_I, if_neg (fun z => h z.1)]; exact e
theorem zput_ma {M : zM} {f a f' a' : Nat} {v x : Int32} (h : a' ≠ a) (e : zI M f' a' = x) : zI (zput M f a v) f' a' = x := by rw [zput_I, if_neg (fun z => h z.2)]; exact e
theorem zsetA_hit (M : zM) (a : Nat) (g : Nat → Int32) : zA (zsetA M a g) a = g := va_up_self _ _ _
theorem zsetA_ms {M : zM} {a b : Nat} {g h : Nat → Int32} (hb : b ≠ a) (e : zA M b = h) : zA (zsetA M a g) b = h := by rw [zsetA_A, va_up_ne _ _ hb]; exact e
theorem zput_put (M : zM) (f a : Nat) (v w : Int32) : zput (zput M f a v) f a w = zput M f a w := by
  have h : (fun x y => if x = f ∧ y = a then w else zI (zput M f a v) x y) = (fun x y => if x = f ∧ y = a then w else zI M x y) := by
    funext x y
    by_cases e : x = f ∧ y = a
    · rw [if_pos e, if_pos e]
    · rw [if_neg e, if_neg e, zput_I, if_neg e]
  exact Prod.ext h rfl
theorem zsetA_setA (M : zM) (a : Nat) (g h : Nat → Int32) : zsetA (zsetA M a g) a h = zsetA M a h := by
  have e : va_up (va_up (zA M) a g) a h = va_up (zA M) a h := bx_uu _ _ _ _
  exact Prod.ext rfl (Prod.ext rfl (Prod.ext e rfl))
theorem zsetA_put (M : zM) (f a b : Nat) (v : Int32) (g : Nat → Int32) : zsetA (zput M f a v) b g = zput (zsetA M b g) f a v := rfl
theorem zput_self {M : zM} {f a : Nat} {v : Int32} (h : zI M f a = v) : zput M f a v = M := by
  have e : (fun x y => if x = f ∧ y = a then v else zI M x y) = zI M := by
    funext x y
    by_cases e : x = f ∧ y = a
    · rw [if_pos e, e.1, e.2, h]
    · rw [if_neg e]
  exact Prod.ext e rfl
theorem zsetA_self {M : zM} {a : Nat} {g : Nat → Int32} (h : zA M a = g) : zsetA M a g = M := by
  have e : va_up (zA M) a g = zA M := by
    funext x
    by_cases e : x = a
    · rw [e, va_up_self, h]
    · rw [va_up_ne _ _ e]
  exact Prod.ext rfl (Prod.ext rfl (Prod.ext e rfl))
