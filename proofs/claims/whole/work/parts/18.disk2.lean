/-! ===== Math, Arrays.fill; more of what LsmStore$Disk reads ===== -/
theorem zMet_ofF {G : zG} {md : zD} {d : Nat} {As : List Value} {M : zM} {Q : zOut → zM → Prop} {lv : List (Option Value)} (hpl : plainFor md.1 = true) (hlen : (lg_sl As).length ≤ md.2.2.1) (he : zent As md.2.2.1 = lv) (hc : zC M ≤ 600128 ∧ zS M ≤ 7301098)
    (k : zw G md d (zC M) (zS M) Q 0 lv [] M) : zMet G md d As M Q := by
  refine MetFree.of_bodySF (code := md.2.1) (maxLocals := md.2.2.1) (ret := md.2.2.2.1) hpl ?_ ?_
  · intro args s m h hn
    obtain ⟨meth, c, h1, h2, h3, h4, h5, h6, -, -⟩ := zcode_spec (atoms_spec (ws := [zcode md]) h _ List.mem_cons_self) hn
    exact ⟨meth, c, h1, h2, h3, h4, h5, h6⟩
  · intro p e s m args below meth c s₁ B hml hP _
    obtain ⟨rfl, hO, hw⟩ := hP
    have hh0 : s₁.heap = s.heap := by rw [B.state]; rfl
    obtain ⟨meth9, c9, h1, h2, h3, h4, h5, h6, h7, -⟩ := zcode_spec (atoms_spec (ws := [zcode md]) B.pre _ List.mem_cons_self) B.named
    cases Option.some.inj (h1.symm.trans B.method)
    cases Option.some.inj (h2.symm.trans (Stand.of_body B).code)
    have hl := lv_entry As (n := md.2.2.1) hlen
    have hz : zlv ((lg_sl As ++ List.replicate (md.2.2.1 - (lg_sl As).length) Slot.unset).toArray) md.2.2.1 lv := by
      refine ⟨hl.1, hl.2.1, fun i v h => ?_⟩
      subst he
      unfold zent at h
      rw [List.getElem?_map] at h
      rw [List.getElem?_toArray]
      cases hx : (lg_sl As ++ List.replicate (md.2.2.1 - (lg_sl As).length) Slot.unset)[i]? with
      | none => rw [hx] at h; cases h
      | some x =>
        rw [hx] at h
        cases x <;> simp [zsl] at h
        rw [h]
    have K := k p e (headSpec [zcode md] (zroom d M)).room s m As.toArray below meth c s.heap [] _ ⟨B.exec, B.bytes, B.returns, B.notSynchronized, hml, findClass_of_methodNamed B.named, (name_of_methodNamed B.named B.method).1, h7, hO⟩ ⟨Nat.le_refl _, Nat.le_refl _, by show _ ≤ zC M + (600128 - zC M); omega, by show _ ≤ zS M + (7301098 - zS M); omega⟩ ⟨Nat.le_refl _, Nat.le_refl _⟩ hw va_S.rf hz
    rw [Nat.sub_self, Nat.sub_self, ← lg_entry_eq] at K
    obtain ⟨t, a1, o, b1, b2, b3⟩ := K s₁ hh0 (Stand.of_body B)
    exact ⟨t, o, a1, b1, b2, b3⟩
set_option maxRecDepth 100000 in
set_option maxHeartbeats 4000000 in
theorem c_min {G : zG} {d x y : Nat} {M : zM} (hcb : zC M ≤ 600128 ∧ zS M ≤ 7301098) (hx : x < 2 ^ 31) (hy : y < 2 ^ 31) : zMet G mJ9_min_7cf53 d [.int (nI x), .int (nI y)] M (fun o M' => o = .inl (some (.int (nI (min x y)))) ∧ M' = M) := by
  refine zMet_ofF (by decide +kernel) (Nat.le_of_ble_eq_true rfl) rfl hcb ?_
  show zw G mJ9_min_7cf53 d _ _ _ 0 [some (.int (nI x)), some (.int (nI y))] [] M
  refine zr_iload_n dJ9_min_7cf53_0 rfl ?_
  refine zr_iload_n dJ9_min_7cf53_1 rfl ?_
  refine zr_icmp_gtN 9 dJ9_min_7cf53_2 (by decide) (by omega) (by omega) (fun h2 => ?_) (fun h2 => ?_)
  · refine zr_iload_n dJ9_min_7cf53_9 rfl ?_
    refine zr_iret dJ9_min_7cf53_10 rfl ?_
    exact ⟨by congr 4; omega, rfl⟩
  · refine zr_iload_n dJ9_min_7cf53_5 rfl ?_
    refine zr_goto 10 dJ9_min_7cf53_6 (by decide) ?_
    refine zr_iret dJ9_min_7cf53_10 rfl ?_
    exact ⟨by congr 4; omega, rfl⟩
set_option maxRecDepth 100000 in
set_option maxHeartbeats 4000000 in
theorem c_max {G : zG} {d x y : Nat} {M : zM} (hcb : zC M ≤ 600128 ∧ zS M ≤ 7301098) (hx : x < 2 ^ 31) (hy : y < 2 ^ 31) : zMet G mJ9_max_7cf53 d [.int (nI x), .int (nI y)] M (fun o M' => o = .inl (some (.int (nI (max x y)))) ∧ M' = M) := by
  refine zMet_ofF (by decide +kernel) (Nat.le_of_ble_eq_true rfl) rfl hcb ?_
  show zw G mJ9_max_7cf53 d _ _ _ 0 [some (.int (nI x)), some (.int (nI y))] [] M
  refine zr_iload_n dJ9_max_7cf53_0 rfl ?_
  refine zr_iload_n dJ9_max_7cf53_1 rfl ?_
  refine zr_icmp_ltN 9 dJ9_max_7cf53_2 (by decide) (by omega) (by omega) (fun h2 => ?_) (fun h2 => ?_)
  · refine zr_iload_n dJ9_max_7cf53_9 rfl ?_
    refine zr_iret dJ9_max_7cf53_10 rfl ?_
    exact ⟨by congr 4; omega, rfl⟩
  · refine zr_iload_n dJ9_max_7cf53_5 rfl ?_
    refine zr_goto 10 dJ9_max_7cf53_6 (by decide) ?_
    refine zr_iret dJ9_max_7cf53_10 rfl ?_
    exact ⟨by congr 4; omega, rfl⟩
theorem nI_xor (a b : Nat) : nI a ^^^ nI b = nI (a ^^^ b) := by
  apply Int32.toBitVec_inj.mp
  show BitVec.ofNat 32 a ^^^ BitVec.ofNat 32 b = BitVec.ofNat 32 (a ^^^ b)
  rw [BitVec.ofNat_xor]
set_option maxRecDepth 100000 in
set_option maxHeartbeats 4000000 in
theorem c_floorMod {G : zG} {d x y : Nat} {M : zM} (hcb : zC M ≤ 600128 ∧ zS M ≤ 7301098) (hx : x < 2 ^ 31) (hy : y < 2 ^ 31) (hy0 : 0 < y) : zMet G mJ9_floorMod_7cf53 d [.int (nI x), .int (nI y)] M (fun o M' => o = .inl (some (.int (nI (x % y)))) ∧ M' = M) := by
  refine zMet_ofF (by decide +kernel) (Nat.le_of_ble_eq_true rfl) rfl hcb ?_
  show zw G mJ9_floorMod_7cf53 d _ _ _ 0 [some (.int (nI x)), some (.int (nI y)), none] [] M
  refine zr_iload_n dJ9_floorMod_7cf53_0 rfl ?_
  refine zr_iload_n dJ9_floorMod_7cf53_1 rfl ?_
  refine zr_iremN dJ9_floorMod_7cf53_2 (by omega) (by omega) (by omega) ?_
  refine zr_istore_n (lv' := [some (.int (nI x)), some (.int (nI y)), some (.int (nI (x % y)))]) dJ9_floorMod_7cf53_3 (Nat.le_of_ble_eq_true rfl) (Nat.le_of_ble_eq_true rfl) rfl rfl ?_
  refine zr_iload_n dJ9_floorMod_7cf53_4 rfl ?_
  refine zr_iload_n dJ9_floorMod_7cf53_5 rfl ?_
  refine zr_ixor dJ9_floorMod_7cf53_6 ?_
  refine zr_as (y := nI (x ^^^ y)) (nI_xor x y) ?_
  refine zr_if_geN 18 dJ9_floorMod_7cf53_7 (by decide) (Nat.xor_lt_two_pow hx hy) ?_
  refine zr_iload_n dJ9_floorMod_7cf53_18 rfl ?_
  refine zr_iret dJ9_floorMod_7cf53_19 rfl ?_
  first | (exfalso; omega) | exact ⟨rfl, rfl⟩
def zfil (f : Nat → Int32) (n : Nat) : Nat → Int32 := fun j => if j < n then 0 else f j
theorem zfil_step (f : Nat → Int32) (i : Nat) : upd (zfil f i) i (vp_nar .byte (nI 0)) = zfil f (i + 1) := by
  funext j
  unfold upd zfil
  by_cases e : j = i
  · rw [if_pos e, if_pos (by omega)]; rfl
  · rw [if_neg e]
    by_cases e2 : j < i
    · rw [if_pos e2, if_pos (by omega)]
    · rw [if_neg e2, if_neg (by omega)]
theorem zfil_0 (f : Nat → Int32) : zfil f 0 = f := by
  funext j
  unfold zfil
  rw [if_neg (by omega)]
set_option maxRecDepth 100000 in
set_option maxHeartbeats 4000000 in
theorem l_fill {G : zG} {d k0 n0 b n : Nat} {M : zM} {Q : zOut → zM → Prop} (hKb : zK M b = 14) (hNb : zN M b = n) (hn : n < 2 ^ 30) (hq : Q (.inl none) (zsetA M b (zfil (zA M b) n))) : ∀ (m i : Nat) , n - i = m → i ≤ n → zw G mJ7_fill_031fb d k0 n0 Q 5 [some (.ref b), some (.int (nI 0)), some (.int (nI i)), some (.int (nI n))] [] (zsetA M b (zfil (zA M b) i)) := by
  intro m
  induction m using Nat.strongRecOn with
  | _ m ih =>
    intro i hm hi
    refine zr_iload_n dJ7_fill_031fb_5 rfl ?_
    refine zr_iload_n dJ7_fill_031fb_6 rfl ?_
    refine zr_icmp_geN 20 dJ7_fill_031fb_7 (by decide) (by omega) (by omega) (fun h7 => ?_) (fun h7 => ?_)
    · refine zr_vret dJ7_fill_031fb_20 rfl ?_
      rw [show i = n by omega]
      exact hq
    · refine zr_aload_n dJ7_fill_031fb_10 rfl ?_
      refine zr_iload_n dJ7_fill_031fb_11 rfl ?_
      refine zr_iload_n dJ7_fill_031fb_12 rfl ?_
      refine zr_bastN dJ7_fill_031fb_13 hKb hNb (by omega) (by omega) ?_
      refine zr_iincN (n := 1) (lv' := [some (.ref b), some (.int (nI 0)), some (.int (nI (i + 1))), some (.int (nI n))]) dJ7_fill_031fb_14 (Nat.le_of_ble_eq_true rfl) (Nat.le_of_ble_eq_true rfl) rfl rfl rfl ?_
      refine zr_goto 5 dJ7_fill_031fb_17 (by decide) ?_
      refine zr_asM (M' := zsetA M b (zfil (zA M b) (i + 1))) (by rw [zsetA_hit, zfil_step, zsetA_setA]) ?_
      exact ih _ (by omega) (i + 1) rfl (by omega)
set_option maxRecDepth 100000 in
set_option maxHeartbeats 4000000 in
theorem c_fill {G : zG} {d b n : Nat} {M : zM} (hcb : zC M ≤ 600128 ∧ zS M ≤ 7301098) (hKb : zK M b = 14) (hNb : zN M b = n) (hn : n < 2 ^ 30) : zMet G mJ7_fill_031fb d [.ref b, .int (nI 0)] M (fun o M' => o = .inl none ∧ M' = zsetA M b (zfil (zA M b) n)) := by
  refine zMet_of (by decide +kernel) (Nat.le_of_ble_eq_true rfl) rfl hcb ?_
  show zw G mJ7_fill_031fb d _ _ _ 0 [some (.ref b), some (.int (nI 0)), none, none] [] M
  refine zr_iconst (v := nI 0) dJ7_fill_031fb_0 (by decide) ?_
  refine zr_istore_n (lv' := [some (.ref b), some (.int (nI 0)), some (.int (nI 0)), none]) dJ7_fill_031fb_1 (Nat.le_of_ble_eq_true rfl) (Nat.le_of_ble_eq_true rfl) rfl rfl ?_
  refine zr_aload_n dJ7_fill_031fb_2 rfl ?_
  refine zr_alenN dJ7_fill_031fb_3 hKb (by decide) hNb ?_
  refine zr_istore_n (lv' := [some (.ref b), some (.int (nI 0)), some (.int (nI 0)), some (.int (nI n))]) dJ7_fill_031fb_4 (Nat.le_of_ble_eq_true rfl) (Nat.le_of_ble_eq_true rfl) rfl rfl ?_
  refine zr_asM (M' := zsetA M b (zfil (zA M b) 0)) (by rw [zfil_0, zsetA_self rfl]) ?_
  exact l_fill hKb hNb hn ⟨rfl, rfl⟩ _ 0 rfl (by omega)
theorem zb_inj {x y : Int32} (hx : fits .byte (.int x) = true) (hy : fits .byte (.int y) = true) (h : zb x = zb y) : x = y := by
  have hx1 : -128 ≤ x ∧ x ≤ 127 := by simpa [fits] using hx
  have hy1 : -128 ≤ y ∧ y ≤ 127 := by simpa [fits] using hy
  rw [Int32.le_iff_toInt_le, Int32.le_iff_toInt_le] at hx1 hy1
  have k1 : (-128 : Int32).toInt = -128 := by decide
  have k2 : (127 : Int32).toInt = 127 := by decide
  rw [k1, k2] at hx1 hy1
  have ex : x.toInt = if 2 * x.toBitVec.toNat < 2 ^ 32 then (x.toBitVec.toNat : Int) else (x.toBitVec.toNat : Int) - (2 ^ 32 : Nat) := BitVec.toInt_eq_toNat_cond x.toBitVec
  have ey : y.toInt = if 2 * y.toBitVec.toNat < 2 ^ 32 then (y.toBitVec.toNat : Int) else (y.toBitVec.toNat : Int) - (2 ^ 32 : Nat) := BitVec.toInt_eq_toNat_cond y.toBitVec
  have bx := x.toBitVec.isLt
  have bY := y.toBitVec.isLt
  have h' : x.toBitVec.toNat % 256 = y.toBitVec.toNat % 256 := h
  apply Int32.toBitVec_inj.mp
  apply BitVec.eq_of_toNat_eq
  generalize x.toBitVec.toNat = n at *
  generalize y.toBitVec.toNat = k at *
  split at ex <;> split at ey <;> omega
/-- a row of bytes that is put together: where, how many it holds, how many it may -/
def zRw (M : zM) (r rc len cap : Nat) : Prop := zK M r = 7 ∧ zR M 192 r = some rc ∧ zK M rc = 14 ∧ zN M rc = cap ∧ zI M 193 r = nI len ∧ len ≤ cap ∧ cap < 2 ^ 18
set_option maxRecDepth 100000 in
set_option maxHeartbeats 4000000 in
theorem l_Disk_hasKey {G : zG} {d k0 n0 a b p r rc len cap : Nat} {M : zM} {Q : zOut → zM → Prop} (hv : zDk M a b) (hw : zRw M r rc len cap) (hp : p < 303104) (hkl : ekl (zA M b) p = len) (hyes : eky (zA M b) p = rwl (zA M rc) len → Q (.inl (some (.int (nI 1)))) M) (hno : ¬ eky (zA M b) p = rwl (zA M rc) len → Q (.inl (some (.int (nI 0)))) M) : ∀ (m i : Nat) , len - i = m → i ≤ len → (∀ j, j < i → zb (zA M b (p + 8 + j)) = zb (zA M rc j)) → zw G mX1_hasKey d k0 n0 Q 33 [some (.ref a), some (.int (nI p)), some (.ref r), some (.int (nI i))] [] M := by
  intro m
  induction m using Nat.strongRecOn with
  | _ m ih =>
    intro i hm hi heq
    obtain ⟨hK, hR, hKb, hNb⟩ := id hv
    obtain ⟨gK, gR, gKb, gNb, gI, gl, gc⟩ := id hw
    have hkl2 : len < 256 := by rw [← hkl]; exact zb_lt _
    refine zr_iload_n dX1_hasKey_33 rfl ?_
    refine zr_aload_n dX1_hasKey_34 rfl ?_
    refine zr_getI dX1_hasKey_35 lkX1_78 (by decide) (by decide) rfl gK ?_
    refine zr_as (y := (nI len)) gI ?_
    refine zr_icmp_geN 78 dX1_hasKey_38 (by decide) (by omega) (by omega) (fun h38 => ?_) (fun h38 => ?_)
    · refine zr_iconst (v := nI 1) dX1_hasKey_78 (by decide) ?_
      refine zr_zret dX1_hasKey_79 rfl (Or.inr rfl) ?_
      first
        | (exfalso; omega)
        | exact hyes (by unfold eky; rw [hkl]; exact rwl_congr (fun j hj => heq j (by omega)))
    · refine zr_iload_n dX1_hasKey_41 rfl ?_
      refine zr_aload_n dX1_hasKey_42 rfl ?_
      refine zr_getR dX1_hasKey_43 lkX1_81 (by decide) (by decide) rfl gK gR ?_
      refine zr_alenN dX1_hasKey_46 gKb (by decide) gNb ?_
      refine zr_icmp_geN 78 dX1_hasKey_47 (by decide) (by omega) (by omega) (fun h47 => ?_) (fun h47 => ?_)
      · refine zr_iconst (v := nI 1) dX1_hasKey_78 (by decide) ?_
        refine zr_zret dX1_hasKey_79 rfl (Or.inr rfl) ?_
        first
          | (exfalso; omega)
          | exact hyes (by unfold eky; rw [hkl]; exact rwl_congr (fun j hj => heq j (by omega)))
      · refine zr_aload_n dX1_hasKey_50 rfl ?_
        refine zr_getR dX1_hasKey_51 lkX1_10 (by decide) (by decide) rfl hK hR ?_
        refine zr_iload_n dX1_hasKey_54 rfl ?_
        refine zr_bipush (v := nI 8) dX1_hasKey_55 (by decide) ?_
        refine zr_iaddN dX1_hasKey_57 ?_
        refine zr_iload_n dX1_hasKey_58 rfl ?_
        refine zr_iaddN dX1_hasKey_59 ?_
        refine zr_baldN dX1_hasKey_60 hKb hNb (by omega) (by omega) (fun f60 => ?_)
        refine zr_aload_n dX1_hasKey_61 rfl ?_
        refine zr_getR dX1_hasKey_62 lkX1_81 (by decide) (by decide) rfl gK gR ?_
        refine zr_iload_n dX1_hasKey_65 rfl ?_
        refine zr_baldN dX1_hasKey_66 gKb gNb (by omega) (by omega) (fun f66 => ?_)
        refine zr_icmp_eq 72 dX1_hasKey_67 (by decide) (fun h67 => ?_) (fun h67 => ?_)
        · refine zr_iincN (n := 1) (lv' := [some (.ref a), some (.int (nI p)), some (.ref r), some (.int (nI (i + 1)))]) dX1_hasKey_72 (Nat.le_of_ble_eq_true rfl) (Nat.le_of_ble_eq_true rfl) rfl rfl rfl ?_
          refine zr_goto 33 dX1_hasKey_75 (by decide) ?_
          refine ih _ (by omega) (i + 1) rfl (by omega) (fun j hj => (Nat.lt_or_ge j i).elim (fun z => heq j z) (fun z => by rw [show j = i by omega, h67]))
        · refine zr_iconst (v := nI 0) dX1_hasKey_70 (by decide) ?_
          refine zr_zret dX1_hasKey_71 rfl (Or.inl rfl) ?_
          exact hno (fun z => h67 (zb_inj f60 f66 ((rwl_inj z).2 i (by omega))))
set_option maxRecDepth 100000 in
set_option maxHeartbeats 4000000 in
theorem c_Disk_hasKey {G : zG} {d a b p r rc len cap : Nat} {M : zM} (hcb : zC M ≤ 600128 ∧ zS M ≤ 7301098) (hv : zDk M a b) (hw : zRw M r rc len cap) (hp : p < 303104)  : zMet G mX1_hasKey d [.ref a, .int (nI p), .ref r] M (fun o M' => (eky (zA M b) p = rwl (zA M rc) len ∧ o = .inl (some (.int (nI 1))) ∧ M' = M) ∨ (¬ eky (zA M b) p = rwl (zA M rc) len ∧ o = .inl (some (.int (nI 0))) ∧ M' = M)) := by
  refine zMet_of (by decide +kernel) (Nat.le_of_ble_eq_true rfl) rfl hcb ?_
  show zw G mX1_hasKey d _ _ _ 0 [some (.ref a), some (.int (nI p)), some (.ref r), none] [] M
  obtain ⟨hK, hR, hKb, hNb⟩ := id hv
  obtain ⟨gK, gR, gKb, gNb, gI, gl, gc⟩ := id hw
  refine zr_iload_n dX1_hasKey_0 rfl ?_
  refine zr_if_ltN 29 dX1_hasKey_1 (by decide) (by omega) ?_
  refine zr_iload_n dX1_hasKey_4 rfl ?_
  refine zr_ldc dX1_hasKey_5 ctX1_55 ?_
  refine zr_as (y := nI 303104) (by decide) ?_
  refine zr_icmp_geN 29 dX1_hasKey_7 (by decide) (by omega) (by omega) (fun h7 => ?_) (fun h7 => ?_)
  · refine zr_iconst (v := nI 0) dX1_hasKey_29 (by decide) ?_
    refine zr_zret dX1_hasKey_30 rfl (Or.inl rfl) ?_
    first | (exfalso; omega) | exact Or.inr ⟨fun z => h26 (rwl_inj z).1, rfl, rfl⟩
  · refine zr_aload_n dX1_hasKey_10 rfl ?_
    refine zr_getR dX1_hasKey_11 lkX1_10 (by decide) (by decide) rfl hK hR ?_
    refine zr_iload_n dX1_hasKey_14 rfl ?_
    refine zr_iconst (v := nI 1) dX1_hasKey_15 (by decide) ?_
    refine zr_iaddN dX1_hasKey_16 ?_
    refine zr_baldN dX1_hasKey_17 hKb hNb (by omega) (by omega) (fun f17 => ?_)
    refine zr_sipush (v := nI 255) dX1_hasKey_18 (by decide) ?_
    refine zr_iand255 dX1_hasKey_21 ?_
    refine zr_aload_n dX1_hasKey_22 rfl ?_
    refine zr_getI dX1_hasKey_23 lkX1_78 (by decide) (by decide) rfl gK ?_
    refine zr_as (y := (nI len)) gI ?_
    refine zr_icmp_eqN 31 dX1_hasKey_26 (by decide) (Nat.lt_trans (zb_lt _) (by decide)) (by omega) (fun h26 => ?_) (fun h26 => ?_)
    · refine zr_iconst (v := nI 0) dX1_hasKey_31 (by decide) ?_
      refine zr_istore_n (lv' := [some (.ref a), some (.int (nI p)), some (.ref r), some (.int (nI 0))]) dX1_hasKey_32 (Nat.le_of_ble_eq_true rfl) (Nat.le_of_ble_eq_true rfl) rfl rfl ?_
      exact l_Disk_hasKey hv hw hp h26 (fun h => Or.inl ⟨h, rfl, rfl⟩) (fun h => Or.inr ⟨h, rfl, rfl⟩) _ 0 rfl (by omega) (fun j hj => by omega)
    · refine zr_iconst (v := nI 0) dX1_hasKey_29 (by decide) ?_
      refine zr_zret dX1_hasKey_30 rfl (Or.inl rfl) ?_
      first | (exfalso; omega) | exact Or.inr ⟨fun z => h26 (rwl_inj z).1, rfl, rfl⟩
set_option maxRecDepth 100000 in
set_option maxHeartbeats 4000000 in
theorem c_Disk_hasKeyM {G : zG} {d a b r : Nat} {M : zM} (hcb : zC M ≤ 600128 ∧ zS M ≤ 7301098) (hv : zDk M a b)  : zMet G mX1_hasKey d [.ref a, .int ((-1)), .ref r] M (fun o M' => o = .inl (some (.int (nI 0))) ∧ M' = M) := by
  refine zMet_of (by decide +kernel) (Nat.le_of_ble_eq_true rfl) rfl hcb ?_
  show zw G mX1_hasKey d _ _ _ 0 [some (.ref a), some (.int ((-1))), some (.ref r), none] [] M
  obtain ⟨hK, hR, hKb, hNb⟩ := id hv
  refine zr_iload_n dX1_hasKey_0 rfl ?_
  refine zr_if_ltM 29 dX1_hasKey_1 (by decide) ?_
  refine zr_iconst (v := nI 0) dX1_hasKey_29 (by decide) ?_
  refine zr_zret dX1_hasKey_30 rfl (Or.inl rfl) ?_
  exact ⟨rfl, rfl⟩
def zmf (D : Nat → Int32) (s : Nat) (acc : Int64) : Nat → Int64
  | 0 => acc
  | k + 1 => zmf D s acc k * 31 + Int32.toInt64 (nI (zb (D (s + k))))
set_option maxRecDepth 100000 in
set_option maxHeartbeats 4000000 in
theorem l_Disk_mixRow {G : zG} {d k0 n0 a b s n : Nat} {w acc : Int64} {M : zM} {Q : zOut → zM → Prop} (hv : zDk M a b) (hs : s + n ≤ 304128) (hq : Q (.inl (some (.long (zmf (zA M b) s acc n)))) M) : ∀ (m i : Nat) , n - i = m → i ≤ n → zw G mX1_mixRow d k0 n0 Q 14 [some (.ref a), some (.long w), none, some (.int (nI s)), some (.int (nI n)), some (.long ((zmf (zA M b) s acc i))), none, some (.int (nI (s + i)))] [] M := by
  intro m
  induction m using Nat.strongRecOn with
  | _ m ih =>
    intro i hm hi
    obtain ⟨hK, hR, hKb, hNb⟩ := id hv
    refine zr_iload dX1_mixRow_14 rfl ?_
    refine zr_iload_n dX1_mixRow_16 rfl ?_
    refine zr_iload dX1_mixRow_17 rfl ?_
    refine zr_iaddN dX1_mixRow_19 ?_
    refine zr_icmp_geN 60 dX1_mixRow_20 (by decide) (by omega) (by omega) (fun h20 => ?_) (fun h20 => ?_)
    · refine zr_lload dX1_mixRow_60 rfl ?_
      refine zr_lret dX1_mixRow_62 rfl ?_
      first | (exfalso; omega) | (rw [show i = n by omega]; exact hq)
    · refine zr_iload dX1_mixRow_23 rfl ?_
      refine zr_aload_n dX1_mixRow_25 rfl ?_
      refine zr_getR dX1_mixRow_26 lkX1_10 (by decide) (by decide) rfl hK hR ?_
      refine zr_alenN dX1_mixRow_29 hKb (by decide) hNb ?_
      refine zr_icmp_geN 60 dX1_mixRow_30 (by decide) (by omega) (by omega) (fun h30 => ?_) (fun h30 => ?_)
      · refine zr_lload dX1_mixRow_60 rfl ?_
        refine zr_lret dX1_mixRow_62 rfl ?_
        first | (exfalso; omega) | (rw [show i = n by omega]; exact hq)
      · refine zr_lload dX1_mixRow_33 rfl ?_
        refine zr_ldc2 dX1_mixRow_35 ctX1_86 ?_
        refine zr_lmul dX1_mixRow_38 ?_
        refine zr_aload_n dX1_mixRow_39 rfl ?_
        refine zr_getR dX1_mixRow_40 lkX1_10 (by decide) (by decide) rfl hK hR ?_
        refine zr_iload dX1_mixRow_43 rfl ?_
        refine zr_baldN dX1_mixRow_45 hKb hNb (by omega) (by omega) (fun f45 => ?_)
        refine zr_sipush (v := nI 255) dX1_mixRow_46 (by decide) ?_
        refine zr_iand255 dX1_mixRow_49 ?_
        refine zr_i2l dX1_mixRow_50 ?_
        refine zr_ladd dX1_mixRow_51 ?_
        refine zr_lstore (lv' := [some (.ref a), some (.long w), none, some (.int (nI s)), some (.int (nI n)), some (.long ((((zmf (zA M b) s acc i) * 31) + (Int32.toInt64 (nI (zb (zA M b (s + i)))))))), none, some (.int (nI (s + i)))]) dX1_mixRow_52 (Nat.le_of_ble_eq_true rfl) (Nat.le_of_ble_eq_true rfl) rfl rfl ?_
        refine zr_iincN (n := 1) (lv' := [some (.ref a), some (.long w), none, some (.int (nI s)), some (.int (nI n)), some (.long ((((zmf (zA M b) s acc i) * 31) + (Int32.toInt64 (nI (zb (zA M b (s + i)))))))), none, some (.int (nI ((s + i) + 1)))]) dX1_mixRow_54 (Nat.le_of_ble_eq_true rfl) (Nat.le_of_ble_eq_true rfl) rfl rfl rfl ?_
        refine zr_goto 14 dX1_mixRow_57 (by decide) ?_
        exact ih _ (by omega) (i + 1) rfl (by omega)
set_option maxRecDepth 100000 in
set_option maxHeartbeats 4000000 in
theorem c_Disk_mixRow {G : zG} {d a b s n : Nat} {w : Int64} {M : zM} (hcb : zC M ≤ 600128 ∧ zS M ≤ 7301098) (hv : zDk M a b) (hs : s + n ≤ 304128) : zMet G mX1_mixRow d [.ref a, .long w, .int (nI s), .int (nI n)] M (fun o M' => o = .inl (some (.long (zmf (zA M b) s (w * 31 + Int32.toInt64 (nI n)) n))) ∧ M' = M) := by
  refine zMet_of (by decide +kernel) (Nat.le_of_ble_eq_true rfl) rfl hcb ?_
  show zw G mX1_mixRow d _ _ _ 0 [some (.ref a), some (.long w), none, some (.int (nI s)), some (.int (nI n)), none, none, none] [] M
  obtain ⟨hK, hR, hKb, hNb⟩ := id hv
  refine zr_lload_n dX1_mixRow_0 rfl ?_
  refine zr_ldc2 dX1_mixRow_1 ctX1_86 ?_
  refine zr_lmul dX1_mixRow_4 ?_
  refine zr_iload dX1_mixRow_5 rfl ?_
  refine zr_i2l dX1_mixRow_7 ?_
  refine zr_ladd dX1_mixRow_8 ?_
  refine zr_lstore (lv' := [some (.ref a), some (.long w), none, some (.int (nI s)), some (.int (nI n)), some (.long (((w * 31) + (Int32.toInt64 (nI n))))), none, none]) dX1_mixRow_9 (Nat.le_of_ble_eq_true rfl) (Nat.le_of_ble_eq_true rfl) rfl rfl ?_
  refine zr_iload_n dX1_mixRow_11 rfl ?_
  refine zr_istore (lv' := [some (.ref a), some (.long w), none, some (.int (nI s)), some (.int (nI n)), some (.long (((w * 31) + (Int32.toInt64 (nI n))))), none, some (.int (nI s))]) dX1_mixRow_12 (Nat.le_of_ble_eq_true rfl) (Nat.le_of_ble_eq_true rfl) rfl rfl ?_
  exact l_Disk_mixRow hv hs ⟨rfl, rfl⟩ _ 0 rfl (by omega)
/-- an entry's share of a digest -/
def zmx (D : Nat → Int32) (p : Nat) (w : Int64) : Int64 := zmf D (p + 8 + ekl D p) (zmf D (p + 8) (w * 31 + Int32.toInt64 (nI (ekl D p))) (ekl D p) * 31 + Int32.toInt64 (nI (evl D p))) (evl D p)
set_option maxRecDepth 100000 in
set_option maxHeartbeats 4000000 in
theorem c_Disk_mix {G : zG} {d a b p : Nat} {w : Int64} {M : zM} (hd : 1 ≤ d) (hcb : zC M ≤ 600128 ∧ zS M ≤ 7301098) (hv : zDk M a b) (hp : p < 303104)  : zMet G mX1_mix d [.ref a, .long w, .int (nI p)] M (fun o M' => o = .inl (some (.long (zmx (zA M b) p w))) ∧ M' = M) := by
  refine zMet_of (by decide +kernel) (Nat.le_of_ble_eq_true rfl) rfl hcb ?_
  show zw G mX1_mix d _ _ _ 0 [some (.ref a), some (.long w), none, some (.int (nI p)), none, none, none] [] M
  obtain ⟨hK, hR, hKb, hNb⟩ := id hv
  refine zr_iload_n dX1_mix_0 rfl ?_
  refine zr_if_ltN 10 dX1_mix_1 (by decide) (by omega) ?_
  refine zr_iload_n dX1_mix_4 rfl ?_
  refine zr_ldc dX1_mix_5 ctX1_55 ?_
  refine zr_as (y := nI 303104) (by decide) ?_
  refine zr_icmp_ltN 12 dX1_mix_7 (by decide) (by omega) (by omega) (fun h7 => ?_) (fun h7 => ?_)
  · refine zr_aload_n dX1_mix_12 rfl ?_
    refine zr_getR dX1_mix_13 lkX1_10 (by decide) (by decide) rfl hK hR ?_
    refine zr_iload_n dX1_mix_16 rfl ?_
    refine zr_iconst (v := nI 1) dX1_mix_17 (by decide) ?_
    refine zr_iaddN dX1_mix_18 ?_
    refine zr_baldN dX1_mix_19 hKb hNb (by omega) (by omega) (fun f19 => ?_)
    refine zr_sipush (v := nI 255) dX1_mix_20 (by decide) ?_
    refine zr_iand255 dX1_mix_23 ?_
    refine zr_istore (lv' := [some (.ref a), some (.long w), none, some (.int (nI p)), some (.int (nI (zb (zA M b (p + 1))))), none, none]) dX1_mix_24 (Nat.le_of_ble_eq_true rfl) (Nat.le_of_ble_eq_true rfl) rfl rfl ?_
    refine zr_aload_n dX1_mix_26 rfl ?_
    refine zr_getR dX1_mix_27 lkX1_10 (by decide) (by decide) rfl hK hR ?_
    refine zr_iload_n dX1_mix_30 rfl ?_
    refine zr_iconst (v := nI 2) dX1_mix_31 (by decide) ?_
    refine zr_iaddN dX1_mix_32 ?_
    refine zr_baldN dX1_mix_33 hKb hNb (by omega) (by omega) (fun f33 => ?_)
    refine zr_sipush (v := nI 255) dX1_mix_34 (by decide) ?_
    refine zr_iand255 dX1_mix_37 ?_
    refine zr_istore (lv' := [some (.ref a), some (.long w), none, some (.int (nI p)), some (.int (nI (zb (zA M b (p + 1))))), some (.int (nI (zb (zA M b (p + 2))))), none]) dX1_mix_38 (Nat.le_of_ble_eq_true rfl) (Nat.le_of_ble_eq_true rfl) rfl rfl ?_
    refine zr_iload_n dX1_mix_40 rfl ?_
    refine zr_bipush (v := nI 8) dX1_mix_41 (by decide) ?_
    refine zr_iaddN dX1_mix_43 ?_
    refine zr_istore (lv' := [some (.ref a), some (.long w), none, some (.int (nI p)), some (.int (nI (zb (zA M b (p + 1))))), some (.int (nI (zb (zA M b (p + 2))))), some (.int (nI (p + 8)))]) dX1_mix_44 (Nat.le_of_ble_eq_true rfl) (Nat.le_of_ble_eq_true rfl) rfl rfl ?_
    refine zr_aload_n dX1_mix_46 rfl ?_
    refine zr_aload_n dX1_mix_47 rfl ?_
    refine zr_lload_n dX1_mix_48 rfl ?_
    refine zr_iload dX1_mix_49 rfl ?_
    refine zr_iload dX1_mix_51 rfl ?_
    refine zr_callV (md' := mX1_mixRow) (As := [.long w, .int (nI (p + 8)), .int (nI (zb (zA M b (p + 1))))]) dX1_mix_53 mlX1_82 okX1_mixRow rfl inX1_mixRow slX1_mixRow (by decide) hK rfl (by omega) (Nat.le_of_ble_eq_true rfl) hcb (c_Disk_mixRow (d := d - 1) hcb hv (by have z1 := zb_lt (zA M b (p + 1)); have z2 := zb_lt (zA M b (p + 2)); omega)) (fun k M1 h => by cases h.1) (fun v M1 hq => ?_)
    obtain ⟨e0, e1⟩ := hq
    cases e0
    rw [e1]
    refine zr_iload dX1_mix_56 rfl ?_
    refine zr_iload dX1_mix_58 rfl ?_
    refine zr_iaddN dX1_mix_60 ?_
    refine zr_iload dX1_mix_61 rfl ?_
    refine zr_callV (md' := mX1_mixRow) (As := [.long ((zmf (zA M b) (p + 8) (w * 31 + Int32.toInt64 (nI (zb (zA M b (p + 1))))) (zb (zA M b (p + 1))))), .int (nI ((p + 8) + (zb (zA M b (p + 1))))), .int (nI (zb (zA M b (p + 2))))]) dX1_mix_63 mlX1_82 okX1_mixRow rfl inX1_mixRow slX1_mixRow (by decide) hK rfl (by omega) (Nat.le_of_ble_eq_true rfl) hcb (c_Disk_mixRow (d := d - 1) hcb hv (by have z1 := zb_lt (zA M b (p + 1)); have z2 := zb_lt (zA M b (p + 2)); omega)) (fun k M1 h => by cases h.1) (fun v M1 hq => ?_)
    obtain ⟨e0, e1⟩ := hq
    cases e0
    rw [e1]
    refine zr_lret dX1_mix_66 rfl ?_
    first | (exfalso; omega) | exact ⟨rfl, rfl⟩
  · refine zr_lload_n dX1_mix_10 rfl ?_
    refine zr_lret dX1_mix_11 rfl ?_
    first | (exfalso; omega) | exact ⟨rfl, rfl⟩
set_option maxRecDepth 100000 in
set_option maxHeartbeats 4000000 in
theorem c_Disk_copyKey {G : zG} {d a b p r rc len cap : Nat} {M : zM} (hd : 3 ≤ d) (hcb : zC M ≤ 600128 ∧ zS M ≤ 7301098) (hv : zDk M a b) (hw : zRw M r rc len cap) (hp : p < 303104) (hkl : ekl (zA M b) p ≤ cap) : zMet G mX1_copyKey d [.ref a, .int (nI p), .ref r] M (fun o M' => o = .inl none ∧ M' = zput (zsetA M rc (va_cpy (zA M b) (zA M rc) (p + 8) 0 (ekl (zA M b) p))) 193 r (nI (ekl (zA M b) p))) := by
  refine zMet_of (by decide +kernel) (Nat.le_of_ble_eq_true rfl) rfl hcb ?_
  show zw G mX1_copyKey d _ _ _ 0 [some (.ref a), some (.int (nI p)), some (.ref r)] [] M
  obtain ⟨hK, hR, hKb, hNb⟩ := id hv
  obtain ⟨gK, gR, gKb, gNb, gI, gl, gc⟩ := id hw
  refine zr_iload_n dX1_copyKey_0 rfl ?_
  refine zr_if_ltN 34 dX1_copyKey_1 (by decide) (by omega) ?_
  refine zr_iload_n dX1_copyKey_4 rfl ?_
  refine zr_ldc dX1_copyKey_5 ctX1_55 ?_
  refine zr_as (y := nI 303104) (by decide) ?_
  refine zr_icmp_geN 34 dX1_copyKey_7 (by decide) (by omega) (by omega) (fun h7 => ?_) (fun h7 => ?_)
  · refine zr_vret dX1_copyKey_34 rfl ?_
    first | (exfalso; omega) | exact ⟨rfl, rfl⟩
  · refine zr_aload_n dX1_copyKey_10 rfl ?_
    refine zr_aload_n dX1_copyKey_11 rfl ?_
    refine zr_getR dX1_copyKey_12 lkX1_10 (by decide) (by decide) rfl hK hR ?_
    refine zr_iload_n dX1_copyKey_15 rfl ?_
    refine zr_bipush (v := nI 8) dX1_copyKey_16 (by decide) ?_
    refine zr_iaddN dX1_copyKey_18 ?_
    refine zr_aload_n dX1_copyKey_19 rfl ?_
    refine zr_getR dX1_copyKey_20 lkX1_10 (by decide) (by decide) rfl hK hR ?_
    refine zr_iload_n dX1_copyKey_23 rfl ?_
    refine zr_iconst (v := nI 1) dX1_copyKey_24 (by decide) ?_
    refine zr_iaddN dX1_copyKey_25 ?_
    refine zr_baldN dX1_copyKey_26 hKb hNb (by omega) (by omega) (fun f26 => ?_)
    refine zr_sipush (v := nI 255) dX1_copyKey_27 (by decide) ?_
    refine zr_iand255 dX1_copyKey_30 ?_
    refine zr_callV (md' := mX6_copy) (As := [.ref b, .int (nI (p + 8)), .int (nI (zb (zA M b (p + 1))))]) dX1_copyKey_31 mlX1_66 okX6_copy rfl inX6_copy slX6_copy (by decide) gK rfl (by omega) (Nat.le_of_ble_eq_true rfl) hcb (c_Row_copy (d := d - 1) (by omega) hcb gK gR gKb hKb gNb hNb (by omega) (by omega) hkl (by have z1 := zb_lt (zA M b (p + 1)); have z2 := zb_lt (zA M b (p + 2)); omega)) (fun k M1 h => by cases h.1) (fun v M1 hq => ?_)
    obtain ⟨e0, e1⟩ := hq
    cases e0
    rw [e1]
    refine zr_vret dX1_copyKey_34 rfl ?_
    first | (exfalso; omega) | exact ⟨rfl, rfl⟩
set_option maxRecDepth 100000 in
set_option maxHeartbeats 4000000 in
theorem c_Disk_copyValue {G : zG} {d a b p r rc len cap : Nat} {M : zM} (hd : 3 ≤ d) (hcb : zC M ≤ 600128 ∧ zS M ≤ 7301098) (hv : zDk M a b) (hw : zRw M r rc len cap) (hp : p < 303104) (hkl : evl (zA M b) p ≤ cap) : zMet G mX1_copyValue d [.ref a, .int (nI p), .ref r] M (fun o M' => o = .inl none ∧ M' = zput (zsetA M rc (va_cpy (zA M b) (zA M rc) (p + 8 + ekl (zA M b) p) 0 (evl (zA M b) p))) 193 r (nI (evl (zA M b) p))) := by
  refine zMet_of (by decide +kernel) (Nat.le_of_ble_eq_true rfl) rfl hcb ?_
  show zw G mX1_copyValue d _ _ _ 0 [some (.ref a), some (.int (nI p)), some (.ref r), none] [] M
  obtain ⟨hK, hR, hKb, hNb⟩ := id hv
  obtain ⟨gK, gR, gKb, gNb, gI, gl, gc⟩ := id hw
  refine zr_iload_n dX1_copyValue_0 rfl ?_
  refine zr_if_ltN 49 dX1_copyValue_1 (by decide) (by omega) ?_
  refine zr_iload_n dX1_copyValue_4 rfl ?_
  refine zr_ldc dX1_copyValue_5 ctX1_55 ?_
  refine zr_as (y := nI 303104) (by decide) ?_
  refine zr_icmp_geN 49 dX1_copyValue_7 (by decide) (by omega) (by omega) (fun h7 => ?_) (fun h7 => ?_)
  · refine zr_vret dX1_copyValue_49 rfl ?_
    first | (exfalso; omega) | exact ⟨rfl, rfl⟩
  · refine zr_iload_n dX1_copyValue_10 rfl ?_
    refine zr_bipush (v := nI 8) dX1_copyValue_11 (by decide) ?_
    refine zr_iaddN dX1_copyValue_13 ?_
    refine zr_aload_n dX1_copyValue_14 rfl ?_
    refine zr_getR dX1_copyValue_15 lkX1_10 (by decide) (by decide) rfl hK hR ?_
    refine zr_iload_n dX1_copyValue_18 rfl ?_
    refine zr_iconst (v := nI 1) dX1_copyValue_19 (by decide) ?_
    refine zr_iaddN dX1_copyValue_20 ?_
    refine zr_baldN dX1_copyValue_21 hKb hNb (by omega) (by omega) (fun f21 => ?_)
    refine zr_sipush (v := nI 255) dX1_copyValue_22 (by decide) ?_
    refine zr_iand255 dX1_copyValue_25 ?_
    refine zr_iaddN dX1_copyValue_26 ?_
    refine zr_istore_n (lv' := [some (.ref a), some (.int (nI p)), some (.ref r), some (.int (nI ((p + 8) + (zb (zA M b (p + 1))))))]) dX1_copyValue_27 (Nat.le_of_ble_eq_true rfl) (Nat.le_of_ble_eq_true rfl) rfl rfl ?_
    refine zr_aload_n dX1_copyValue_28 rfl ?_
    refine zr_aload_n dX1_copyValue_29 rfl ?_
    refine zr_getR dX1_copyValue_30 lkX1_10 (by decide) (by decide) rfl hK hR ?_
    refine zr_iload_n dX1_copyValue_33 rfl ?_
    refine zr_aload_n dX1_copyValue_34 rfl ?_
    refine zr_getR dX1_copyValue_35 lkX1_10 (by decide) (by decide) rfl hK hR ?_
    refine zr_iload_n dX1_copyValue_38 rfl ?_
    refine zr_iconst (v := nI 2) dX1_copyValue_39 (by decide) ?_
    refine zr_iaddN dX1_copyValue_40 ?_
    refine zr_baldN dX1_copyValue_41 hKb hNb (by omega) (by omega) (fun f41 => ?_)
    refine zr_sipush (v := nI 255) dX1_copyValue_42 (by decide) ?_
    refine zr_iand255 dX1_copyValue_45 ?_
    refine zr_callV (md' := mX6_copy) (As := [.ref b, .int (nI ((p + 8) + (zb (zA M b (p + 1))))), .int (nI (zb (zA M b (p + 2))))]) dX1_copyValue_46 mlX1_66 okX6_copy rfl inX6_copy slX6_copy (by decide) gK rfl (by omega) (Nat.le_of_ble_eq_true rfl) hcb (c_Row_copy (d := d - 1) (by omega) hcb gK gR gKb hKb gNb hNb (by omega) (by omega) hkl (by have z1 := zb_lt (zA M b (p + 1)); have z2 := zb_lt (zA M b (p + 2)); omega)) (fun k M1 h => by cases h.1) (fun v M1 hq => ?_)
    obtain ⟨e0, e1⟩ := hq
    cases e0
    rw [e1]
    refine zr_vret dX1_copyValue_49 rfl ?_
    first | (exfalso; omega) | exact ⟨rfl, rfl⟩
