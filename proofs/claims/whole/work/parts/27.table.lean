/-! ===== LsmStore$Table ===== -/
/-- a table in the memory: its blocks, its last entry -/
def Tb (ad : Nat → Nat) (M : zM) (j : Nat) (bl : List Nat) (la : Option Nat) : Prop := zI M 258 (ad (tA j)) = nI bl.length ∧ bl.length ≤ 9 ∧ Ld (zA M (ad (tB j))) bl ∧ zI M 259 (ad (tA j)) = zvi la
/-- entries of a block: from p on, then ps -/
def Cb (D : Nat → Int32) : Nat → List Nat → Prop
  | p, [] => nib D p = none
  | p, q :: r => nib D p = some q ∧ Cb D q r
/-- blocks of a file: in range, each one once -/
def Br (bl : List Nat) : Prop := (∀ b ∈ bl, 80 ≤ b ∧ b < 592) ∧ bl.Nodup
/-- the start of the i-th data block -/
def sOf (bl : List Nat) (i : Nat) : Option Nat := if i + 1 < bl.length then bl[i]?.map (· * 512) else none
/-- where a file's next entry stands: k is the number of at's block -/
def nxt (D : Nat → Int32) (bl : List Nat) (k p : Nat) : Option Nat := match nib D p with
  | some q => some q
  | none => sOf bl (k + 1)
set_option maxRecDepth 100000 in
set_option maxHeartbeats 4000000 in
theorem c_Table_start {G : zG} {ad : Nat → Nat} {d j : Nat} {M : zM} (hcb : zC M ≤ 600128 ∧ zS M ≤ 7301098) (hL : Lay ad M) (hj : j < 259)  : zMet G mX8_start d [.ref ((ad (tA j)))] M (fun o M' => o = .inl none ∧ M' = zput (zput M 258 (ad (tA j)) (nI 0)) 259 (ad (tA j)) (-1)) := by
  refine zMet_of (by decide +kernel) (Nat.le_of_ble_eq_true rfl) rfl hcb ?_
  show zw G mX8_start d _ _ _ 0 [some (.ref ((ad (tA j))))] [] M
  refine zr_aload_n dX8_start_0 rfl ?_
  refine zr_iconst (v := nI 0) dX8_start_1 (by decide) ?_
  refine zr_putI dX8_start_2 lkX8_19 (by decide) (by decide) rfl rfl (hL.Kt hj) ?_
  refine zr_aload_n dX8_start_5 rfl ?_
  refine zr_iconst (v := -1) dX8_start_6 (by decide) ?_
  refine zr_putI dX8_start_7 lkX8_23 (by decide) (by decide) rfl rfl (hL.Kt hj) ?_
  refine zr_vret dX8_start_10 rfl ?_
  first | (exfalso; omega) | exact ⟨rfl, rfl⟩
set_option maxRecDepth 100000 in
set_option maxHeartbeats 4000000 in
theorem c_Table_addBlock {G : zG} {ad : Nat → Nat} {d j b : Nat} {bl : List Nat} {la : Option Nat} {M : zM} (hcb : zC M ≤ 600128 ∧ zS M ≤ 7301098) (hL : Lay ad M) (hj : j < 259) (hT : Tb ad M j bl la) (hlt : bl.length < 9)  : zMet G mX8_addBlock d [.ref ((ad (tA j))), .int (nI b)] M (fun o M' => o = .inl none ∧ M' = zput (zsetA M (ad (tB j)) (upd (zA M (ad (tB j))) bl.length (nI b))) 258 (ad (tA j)) (nI (bl.length + 1))) := by
  refine zMet_of (by decide +kernel) (Nat.le_of_ble_eq_true rfl) rfl hcb ?_
  show zw G mX8_addBlock d _ _ _ 0 [some (.ref ((ad (tA j)))), some (.int (nI b))] [] M
  obtain ⟨ht1, ht2, ht3, ht4⟩ := id hT
  refine zr_aload_n dX8_addBlock_0 rfl ?_
  refine zr_getI dX8_addBlock_1 lkX8_19 (by decide) (by decide) rfl (hL.Kt hj) ?_
  refine zr_as (y := (nI bl.length)) ht1 ?_
  refine zr_bipush (v := nI 9) dX8_addBlock_4 (by decide) ?_
  refine zr_icmp_geN 29 dX8_addBlock_6 (by decide) (by omega) (by omega) (fun h6 => ?_) (fun h6 => ?_)
  · refine zr_vret dX8_addBlock_29 rfl ?_
    first | (exfalso; omega) | exact ⟨rfl, rfl⟩
  · refine zr_aload_n dX8_addBlock_9 rfl ?_
    refine zr_getR dX8_addBlock_10 lkX8_9 (by decide) (by decide) rfl (hL.Kt hj) (hL.tb hj) ?_
    refine zr_aload_n dX8_addBlock_13 rfl ?_
    refine zr_getI dX8_addBlock_14 lkX8_19 (by decide) (by decide) rfl (hL.Kt hj) ?_
    refine zr_as (y := (nI bl.length)) ht1 ?_
    refine zr_iload_n dX8_addBlock_17 rfl ?_
    refine zr_iastN dX8_addBlock_18 (hL.Kb hj) (hL.Nb hj) (by omega) (by omega) ?_
    refine zr_aload_n dX8_addBlock_19 rfl ?_
    refine zr_dup dX8_addBlock_20 rfl ?_
    refine zr_getI dX8_addBlock_21 lkX8_19 (by decide) (by decide) rfl (hL.Kt hj) ?_
    refine zr_as (y := (nI bl.length)) ht1 ?_
    refine zr_iconst (v := nI 1) dX8_addBlock_24 (by decide) ?_
    refine zr_iaddN dX8_addBlock_25 ?_
    refine zr_putI dX8_addBlock_26 lkX8_19 (by decide) (by decide) rfl rfl (hL.Kt hj) ?_
    refine zr_vret dX8_addBlock_29 rfl ?_
    first | (exfalso; omega) | exact ⟨rfl, rfl⟩
set_option maxRecDepth 100000 in
set_option maxHeartbeats 4000000 in
theorem c_Table_isSmall {G : zG} {ad : Nat → Nat} {d j : Nat} {bl : List Nat} {la : Option Nat} {M : zM} (hcb : zC M ≤ 600128 ∧ zS M ≤ 7301098) (hL : Lay ad M) (hj : j < 259) (hT : Tb ad M j bl la)  : zMet G mX8_isSmall d [.ref ((ad (tA j)))] M (fun o M' => M' = M ∧ ∃ t : Nat, t ≤ 1 ∧ o = .inl (some (.int (nI t))) ∧ (t = 1 ↔ bl.length ≤ 4)) := by
  refine zMet_of (by decide +kernel) (Nat.le_of_ble_eq_true rfl) rfl hcb ?_
  show zw G mX8_isSmall d _ _ _ 0 [some (.ref ((ad (tA j))))] [] M
  obtain ⟨ht1, ht2, ht3, ht4⟩ := id hT
  refine zr_aload_n dX8_isSmall_0 rfl ?_
  refine zr_getI dX8_isSmall_1 lkX8_19 (by decide) (by decide) rfl (hL.Kt hj) ?_
  refine zr_as (y := (nI bl.length)) ht1 ?_
  refine zr_iconst (v := nI 4) dX8_isSmall_4 (by decide) ?_
  refine zr_icmp_gtN 12 dX8_isSmall_5 (by decide) (by omega) (by omega) (fun h5 => ?_) (fun h5 => ?_)
  · refine zr_iconst (v := nI 0) dX8_isSmall_12 (by decide) ?_
    refine zr_zret dX8_isSmall_13 rfl (Or.inl rfl) ?_
    exact ⟨rfl, 0, by decide, rfl, by omega⟩
  · refine zr_iconst (v := nI 1) dX8_isSmall_8 (by decide) ?_
    refine zr_goto 13 dX8_isSmall_9 (by decide) ?_
    refine zr_zret dX8_isSmall_13 rfl (Or.inr rfl) ?_
    exact ⟨rfl, 1, by decide, rfl, by omega⟩
set_option maxRecDepth 100000 in
set_option maxHeartbeats 4000000 in
theorem c_Table_startOf {G : zG} {ad : Nat → Nat} {d j i : Nat} {bl : List Nat} {la : Option Nat} {M : zM} (hcb : zC M ≤ 600128 ∧ zS M ≤ 7301098) (hL : Lay ad M) (hj : j < 259) (hT : Tb ad M j bl la) (hbr : Br bl) (hne : 1 ≤ bl.length) (hi : i < 2 ^ 31)  : zMet G mX8_startOf d [.ref ((ad (tA j))), .int (nI i)] M (fun o M' => o = .inl (some (.int (zvi (sOf bl i)))) ∧ M' = M) := by
  refine zMet_of (by decide +kernel) (Nat.le_of_ble_eq_true rfl) rfl hcb ?_
  show zw G mX8_startOf d _ _ _ 0 [some (.ref ((ad (tA j)))), some (.int (nI i))] [] M
  obtain ⟨ht1, ht2, ht3, ht4⟩ := id hT
  refine zr_iload_n dX8_startOf_0 rfl ?_
  refine zr_if_ltN 27 dX8_startOf_1 (by decide) (by omega) ?_
  refine zr_iload_n dX8_startOf_4 rfl ?_
  refine zr_aload_n dX8_startOf_5 rfl ?_
  refine zr_getI dX8_startOf_6 lkX8_19 (by decide) (by decide) rfl (hL.Kt hj) ?_
  refine zr_as (y := (nI bl.length)) ht1 ?_
  refine zr_iconst (v := nI 1) dX8_startOf_9 (by decide) ?_
  refine zr_isubN dX8_startOf_10 (by omega) ?_
  refine zr_icmp_geN 27 dX8_startOf_11 (by decide) (by omega) (by omega) (fun h11 => ?_) (fun h11 => ?_)
  · refine zr_iconst (v := -1) dX8_startOf_27 (by decide) ?_
    refine zr_iret dX8_startOf_28 rfl ?_
    refine ⟨?_, rfl⟩
    unfold sOf
    rw [if_neg (by omega)]
    rfl
  · obtain ⟨b, hb⟩ : ∃ b, bl[i]? = some b := ⟨_, List.getElem?_eq_getElem (by omega)⟩
    have hbr1 := hbr.1 b (List.mem_of_getElem? hb)
    refine zr_aload_n dX8_startOf_14 rfl ?_
    refine zr_getR dX8_startOf_15 lkX8_9 (by decide) (by decide) rfl (hL.Kt hj) (hL.tb hj) ?_
    refine zr_iload_n dX8_startOf_18 rfl ?_
    refine zr_ialdN dX8_startOf_19 (hL.Kb hj) (hL.Nb hj) (by omega) (by omega) ?_
    refine zr_as (y := (nI b)) (ht3 i b hb) ?_
    refine zr_sipush (v := nI 512) dX8_startOf_20 (by decide) ?_
    refine zr_imulN dX8_startOf_23 ?_
    refine zr_goto 28 dX8_startOf_24 (by decide) ?_
    refine zr_iret dX8_startOf_28 rfl ?_
    refine ⟨?_, rfl⟩
    unfold sOf
    rw [if_pos (by omega), hb]
    rfl
set_option maxRecDepth 100000 in
set_option maxHeartbeats 4000000 in
theorem c_Table_startOf0 {G : zG} {ad : Nat → Nat} {d j i : Nat} {bl : List Nat} {la : Option Nat} {M : zM} (hcb : zC M ≤ 600128 ∧ zS M ≤ 7301098) (hL : Lay ad M) (hj : j < 259) (hT : Tb ad M j bl la) (h0 : bl.length = 0) (hi : i < 2 ^ 31)  : zMet G mX8_startOf d [.ref ((ad (tA j))), .int (nI i)] M (fun o M' => o = .inl (some (.int (-1))) ∧ M' = M) := by
  refine zMet_of (by decide +kernel) (Nat.le_of_ble_eq_true rfl) rfl hcb ?_
  show zw G mX8_startOf d _ _ _ 0 [some (.ref ((ad (tA j)))), some (.int (nI i))] [] M
  obtain ⟨ht1, ht2, ht3, ht4⟩ := id hT
  refine zr_iload_n dX8_startOf_0 rfl ?_
  refine zr_if_ltN 27 dX8_startOf_1 (by decide) (by omega) ?_
  refine zr_iload_n dX8_startOf_4 rfl ?_
  refine zr_aload_n dX8_startOf_5 rfl ?_
  refine zr_getI dX8_startOf_6 lkX8_19 (by decide) (by decide) rfl (hL.Kt hj) ?_
  refine zr_as (y := (nI bl.length)) ht1 ?_
  refine zr_iconst (v := nI 1) dX8_startOf_9 (by decide) ?_
  refine zr_isub dX8_startOf_10 ?_
  refine zr_as (y := -1) (by rw [h0]; decide) ?_
  refine zr_icmp_ge 27 dX8_startOf_11 (by decide) (fun h11 => ?_) (fun h11 => ?_)
  · refine zr_iconst (v := -1) dX8_startOf_27 (by decide) ?_
    refine zr_iret dX8_startOf_28 rfl ?_
    exact ⟨rfl, rfl⟩
  · exact absurd (by rw [Int32.le_iff_toInt_le, nI_toInt hi]; have : (-1 : Int32).toInt = -1 := (by decide); omega) h11
theorem nodup_at {l : List Nat} {i k b : Nat} (h : l.Nodup) (hi : l[i - 1]? = some b) (hk : l[k]? = some b) (h0 : 1 ≤ i := by omega) : i = k + 1 := by
  rcases Nat.lt_trichotomy (i - 1) k with e | e | e
  · exact absurd rfl (pw_get h e hi hk)
  · omega
  · exact absurd rfl (pw_get h e hk hi)
set_option maxRecDepth 100000 in
set_option maxHeartbeats 4000000 in
theorem l_Table_following {G : zG} {ad : Nat → Nat} {d k0 n0 j k p : Nat} {bl : List Nat} {la x : Option Nat} {M : zM} {Q : zOut → zM → Prop} (hd : 1 ≤ d) (hcb : zC M ≤ 600128 ∧ zS M ≤ 7301098) (hL : Lay ad M) (hj : j < 259) (hT : Tb ad M j bl la) (hbr : Br bl) (hp : p < 303104) (hk : bl[k]? = some (p / 512)) (hk2 : k + 1 < bl.length) (hx : x = nib (zA M (ad 2)) p) (hbx : ∀ c, x = some c → c < 2 ^ 31) (hq0 : ∀ y, nxt (zA M (ad 2)) bl k p = y → Q (.inl (some (.int (zvi y)))) M) : ∀ (m i : Nat), bl.length - i = m → 1 ≤ i → i ≤ k + 1 → zw G mX8_following d k0 n0 Q 11 [some (.ref ((ad (tA j)))), some (.int (nI p)), some (.int (zvi x)), some (.int (nI i))] [] M := by
  intro m
  induction m using Nat.strongRecOn with
  | _ m ih =>
    intro i hm hi hik
    obtain ⟨ht1, ht2, ht3, ht4⟩ := id hT
    refine zr_iload_n dX8_following_11 rfl ?_
    refine zr_aload_n dX8_following_12 rfl ?_
    refine zr_getI dX8_following_13 lkX8_19 (by decide) (by decide) rfl (hL.Kt hj) ?_
    refine zr_as (y := (nI bl.length)) ht1 ?_
    refine zr_icmp_geN 52 dX8_following_16 (by decide) (by omega) (by omega) (fun h16 => ?_) (fun h16 => ?_)
    · refine zr_iload_n dX8_following_52 rfl ?_
      refine zr_iret dX8_following_53 rfl ?_
      first | (exfalso; omega) | exact hq0 _ (by unfold nxt; rw [← hx])
    · refine zr_iload_n dX8_following_19 rfl ?_
      refine zr_iconst (v := -1) dX8_following_20 (by decide) ?_
      refine zr_icmp_neO 52 dX8_following_21 (by decide) hbx (fun xv h21 => ?_) (fun h21 => ?_)
      · subst h21
        refine zr_iload_n dX8_following_52 rfl ?_
        refine zr_iret dX8_following_53 rfl ?_
        first | (exfalso; omega) | exact hq0 _ (by unfold nxt; rw [← hx])
      · subst h21
        obtain ⟨b, hb⟩ : ∃ b, bl[i - 1]? = some b := ⟨_, List.getElem?_eq_getElem (by omega)⟩
        have hbr1 := hbr.1 b (List.mem_of_getElem? hb)
        refine zr_aload_n dX8_following_24 rfl ?_
        refine zr_getR dX8_following_25 lkX8_9 (by decide) (by decide) rfl (hL.Kt hj) (hL.tb hj) ?_
        refine zr_iload_n dX8_following_28 rfl ?_
        refine zr_iconst (v := nI 1) dX8_following_29 (by decide) ?_
        refine zr_isubN dX8_following_30 (by omega) ?_
        refine zr_ialdN dX8_following_31 (hL.Kb hj) (hL.Nb hj) (by omega) (by omega) ?_
        refine zr_as (y := (nI b)) (ht3 (i - 1) b hb) ?_
        refine zr_iload_n dX8_following_32 rfl ?_
        refine zr_sipush (v := nI 512) dX8_following_33 (by decide) ?_
        refine zr_idivN dX8_following_36 (by omega) (by omega) (by omega) ?_
        refine zr_icmp_neN 46 dX8_following_37 (by decide) (by omega) (by omega) (fun h37 => ?_) (fun h37 => ?_)
        · refine zr_iincN (n := 1) (lv' := [some (.ref ((ad (tA j)))), some (.int (nI p)), some (.int ((-1))), some (.int (nI (i + 1)))]) dX8_following_46 (Nat.le_of_ble_eq_true rfl) (Nat.le_of_ble_eq_true rfl) rfl rfl rfl ?_
          refine zr_goto 11 dX8_following_49 (by decide) ?_
          have hne : i ≠ k + 1 := fun z => h37 (by rw [show i - 1 = k by omega, hk] at hb; exact (Option.some.inj hb).symm)
          exact ih _ (by omega) (i + 1) rfl (by omega) (by omega)
        · refine zr_aload_n dX8_following_40 rfl ?_
          refine zr_iload_n dX8_following_41 rfl ?_
          refine zr_callV (md' := mX8_startOf) (As := [.int (nI i)]) dX8_following_42 mlX8_26 okX8_startOf rfl inX8_startOf slX8_startOf (by decide) (hL.Kt hj) rfl (by omega) (Nat.le_of_ble_eq_true rfl) hcb (c_Table_startOf (d := d - 1) hcb hL hj hT hbr (by omega) (by omega)) (fun k M1 h => by cases h.1) (fun v M1 hq => ?_)
          obtain ⟨e0, e1⟩ := hq
          cases e0
          rw [e1]
          refine zr_iret dX8_following_45 rfl ?_
          exact hq0 _ (by unfold nxt; rw [← hx]; show sOf bl (k + 1) = _; rw [show i = k + 1 from nodup_at hbr.2 (h37 ▸ hb) hk])
theorem nib_lt {D : Nat → Int32} {p q : Nat} (h : nib D p = some q) (hp : p < 303104) : q < 2 ^ 31 := by
  unfold nib at h
  split at h
  · cases h
    have := zb_lt (D (p + 1))
    have := zb_lt (D (p + 2))
    unfold eln ekl evl
    omega
  · cases h
set_option maxRecDepth 100000 in
set_option maxHeartbeats 4000000 in
theorem c_Table_following {G : zG} {ad : Nat → Nat} {d j k p : Nat} {bl : List Nat} {la : Option Nat} {M : zM} (hd : 1 ≤ d) (hcb : zC M ≤ 600128 ∧ zS M ≤ 7301098) (hL : Lay ad M) (hj : j < 259) (hT : Tb ad M j bl la) (hbr : Br bl) (hp : p < 303104) (hk : bl[k]? = some (p / 512)) (hk2 : k + 1 < bl.length)  : zMet G mX8_following d [.ref ((ad (tA j))), .int (nI p)] M (fun o M' => o = .inl (some (.int (zvi (nxt (zA M (ad 2)) bl k p)))) ∧ M' = M) := by
  refine zMet_of (by decide +kernel) (Nat.le_of_ble_eq_true rfl) rfl hcb ?_
  show zw G mX8_following d _ _ _ 0 [some (.ref ((ad (tA j)))), some (.int (nI p)), none, none] [] M
  obtain ⟨ht1, ht2, ht3, ht4⟩ := id hT
  refine zr_aload_n dX8_following_0 rfl ?_
  refine zr_getR dX8_following_1 lkX8_15 (by decide) (by decide) rfl (hL.Kt hj) (hL.td hj) ?_
  refine zr_iload_n dX8_following_4 rfl ?_
  refine zr_callV (md' := mX1_nextInBlock) (As := [.int (nI p)]) dX8_following_5 mlX8_30 okX1_nextInBlock rfl inX1_nextInBlock slX1_nextInBlock (by decide) (hL.K 1 2) rfl (by omega) (Nat.le_of_ble_eq_true rfl) hcb (c_Disk_nextT (d := d - 1) hcb hL.dk hp) (fun k M1 h => by cases h.1) (fun v M1 hq => ?_)
  obtain ⟨e0, e1⟩ := hq
  cases e0
  rw [e1]
  obtain ⟨x, hx⟩ : ∃ x, x = nib (zA M (ad 2)) p := ⟨_, rfl⟩
  rw [← hx]
  have hbx : ∀ c, x = some c → c < 2 ^ 31 := fun c hc => nib_lt (hx.symm.trans hc) hp
  refine zr_istore_n (lv' := [some (.ref ((ad (tA j)))), some (.int (nI p)), some (.int (zvi x)), none]) dX8_following_8 (Nat.le_of_ble_eq_true rfl) (Nat.le_of_ble_eq_true rfl) rfl rfl ?_
  refine zr_iconst (v := nI 1) dX8_following_9 (by decide) ?_
  refine zr_istore_n (lv' := [some (.ref ((ad (tA j)))), some (.int (nI p)), some (.int (zvi x)), some (.int (nI 1))]) dX8_following_10 (Nat.le_of_ble_eq_true rfl) (Nat.le_of_ble_eq_true rfl) rfl rfl ?_
  exact l_Table_following hd hcb hL hj hT hbr hp hk hk2 hx hbx (fun y h => ⟨by rw [← h], rfl⟩) _ 1 rfl (by omega) (by omega)
