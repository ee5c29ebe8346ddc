/-! ===== bytes, keys, and what LsmStore$Disk reads ===== -/
/-- keys are ordered byte by byte, a beginning before what it begins -/
def klt : List Nat → List Nat → Prop
  | [], [] => False
  | [], _ :: _ => True
  | _ :: _, [] => False
  | x :: xs, y :: ys => x < y ∨ (x = y ∧ klt xs ys)
theorem klt_irrefl : ∀ a, ¬ klt a a
  | [] => fun h => h
  | x :: xs => fun h => h.elim (fun h => absurd h (Nat.lt_irrefl x)) (fun h => klt_irrefl xs h.2)
theorem klt_trans : ∀ a b c, klt a b → klt b c → klt a c
  | [], [], _, h, _ => h.elim
  | [], _ :: _, [], _, h => h.elim
  | [], _ :: _, _ :: _, _, _ => trivial
  | _ :: _, [], _, h, _ => h.elim
  | _ :: _, _ :: _, [], _, h => h.elim
  | x :: xs, y :: ys, z :: zs, h1, h2 => by
    rcases h1 with h1 | ⟨h1, g1⟩ <;> rcases h2 with h2 | ⟨h2, g2⟩
    · exact Or.inl (by omega)
    · exact Or.inl (by omega)
    · exact Or.inl (by omega)
    · exact Or.inr ⟨by omega, klt_trans xs ys zs g1 g2⟩
theorem klt_tri : ∀ a b, klt a b ∨ a = b ∨ klt b a
  | [], [] => Or.inr (Or.inl rfl)
  | [], _ :: _ => Or.inl trivial
  | _ :: _, [] => Or.inr (Or.inr trivial)
  | x :: xs, y :: ys => by
    rcases Nat.lt_trichotomy x y with h | h | h
    · exact Or.inl (Or.inl h)
    · rcases klt_tri xs ys with g | g | g
      · exact Or.inl (Or.inr ⟨h, g⟩)
      · exact Or.inr (Or.inl (by rw [h, g]))
      · exact Or.inr (Or.inr (Or.inr ⟨h.symm, g⟩))
    · exact Or.inr (Or.inr (Or.inl h))
/-- the first n bytes of a row -/
def rwl (f : Nat → Int32) (n : Nat) : List Nat := (List.range n).map (fun i => zb (f i))
theorem rwl_len (f : Nat → Int32) (n : Nat) : (rwl f n).length = n := by simp [rwl]
theorem rwl_succ (f : Nat → Int32) (n : Nat) : rwl f (n + 1) = zb (f 0) :: rwl (fun i => f (i + 1)) n := by
  unfold rwl
  rw [List.range_succ_eq_map, List.map_cons, List.map_map]
  rfl
theorem rwl_congr {f g : Nat → Int32} {n : Nat} (h : ∀ i, i < n → zb (f i) = zb (g i)) : rwl f n = rwl g n := List.map_congr_left (fun i hi => h i (List.mem_range.mp hi))
theorem rwl_inj {f g : Nat → Int32} {n m : Nat} (h : rwl f n = rwl g m) : n = m ∧ ∀ i, i < n → zb (f i) = zb (g i) := by
  have e : n = m := by have := congrArg List.length h; rwa [rwl_len, rwl_len] at this
  refine ⟨e, fun i hi => ?_⟩
  have h1 := congrArg (fun l => l[i]?) h
  simp only [rwl, List.getElem?_map, List.getElem?_range hi, List.getElem?_range (show i < m by omega), Option.map_some, Option.some.injEq] at h1
  exact h1
theorem klt_at : ∀ (i : Nat) {f g : Nat → Int32} {n m : Nat}, i < n → i < m → (∀ j, j < i → zb (f j) = zb (g j)) → zb (f i) < zb (g i) → klt (rwl f n) (rwl g m)
  | 0, f, g, n + 1, m + 1, _, _, _, h => by rw [rwl_succ, rwl_succ]; exact Or.inl h
  | i + 1, f, g, n + 1, m + 1, h1, h2, h3, h4 => by
    rw [rwl_succ, rwl_succ]
    exact Or.inr ⟨h3 0 (by omega), klt_at i (by omega) (by omega) (fun j hj => h3 (j + 1) (by omega)) h4⟩
theorem klt_all : ∀ {n m : Nat} {f g : Nat → Int32}, (∀ j, j < n → j < m → zb (f j) = zb (g j)) → (klt (rwl f n) (rwl g m) ↔ n < m)
  | 0, 0, f, g, _ => by simp [rwl, klt]
  | 0, m + 1, f, g, _ => by rw [rwl_succ]; simp [rwl, klt]
  | n + 1, 0, f, g, _ => by rw [rwl_succ]; simp [rwl, klt]
  | n + 1, m + 1, f, g, h => by
    rw [rwl_succ, rwl_succ]
    have h0 := h 0 (by omega) (by omega)
    have ih := klt_all (n := n) (m := m) (f := fun i => f (i + 1)) (g := fun i => g (i + 1)) (fun j h1 h2 => h (j + 1) (by omega) (by omega))
    constructor
    · rintro (h1 | ⟨h1, h2⟩)
      · omega
      · have := ih.mp h2; omega
    · intro h1
      exact Or.inr ⟨h0, ih.mpr (by omega)⟩
/-- an entry on the disk: its key, its value, how long it is, its commit's number -/
def ekl (D : Nat → Int32) (p : Nat) : Nat := zb (D (p + 1))
def evl (D : Nat → Int32) (p : Nat) : Nat := zb (D (p + 2))
def eln (D : Nat → Int32) (p : Nat) : Nat := 8 + ekl D p + evl D p
def eky (D : Nat → Int32) (p : Nat) : List Nat := rwl (fun i => D (p + 8 + i)) (ekl D p)
def nuN (D : Nat → Int32) (p : Nat) : Nat → Nat
  | 0 => 0
  | k + 1 => nuN D p k * 256 + zb (D (p + k))
def ecm (D : Nat → Int32) (p : Nat) : Nat := nuN D (p + 4) 4
theorem nuN_mono (D : Nat → Int32) (p : Nat) : ∀ {j k : Nat}, j ≤ k → nuN D p j ≤ nuN D p k
  | j, 0, h => by rw [Nat.le_zero.mp h]; exact Nat.le_refl _
  | j, k + 1, h => by
    rcases Nat.lt_or_ge j (k + 1) with h1 | h1
    · have := nuN_mono D p (j := j) (k := k) (by omega)
      show _ ≤ nuN D p k * 256 + zb (D (p + k))
      omega
    · rw [show j = k + 1 by omega]; exact Nat.le_refl _
theorem nI_or (a b : Nat) : nI a ||| nI b = nI (a ||| b) := by
  apply Int32.toBitVec_inj.mp
  show (nI a).toBitVec ||| (nI b).toBitVec = (nI (a ||| b)).toBitVec
  show BitVec.ofNat 32 a ||| BitVec.ofNat 32 b = BitVec.ofNat 32 (a ||| b)
  rw [BitVec.ofNat_or]
theorem nuN_step (D : Nat → Int32) (p k : Nat) (h : nuN D p (k + 1) < 2 ^ 31) : (nI (nuN D p k) <<< (nI 8 &&& 31)) ||| nI (zb (D (p + k))) = nI (nuN D p (k + 1)) := by
  have h1 : nuN D p k * 256 + zb (D (p + k)) < 2 ^ 31 := h
  have h3 : nuN D p k * 2 ^ 8 < 2 ^ 32 := by
    have h9 : (2 : Nat) ^ 8 = 256 := rfl
    rw [h9]
    exact Nat.lt_of_le_of_lt (Nat.le_add_right _ _) (Nat.lt_trans h1 (by decide))
  rw [pk_shlN (n := nuN D p k) (nI 8 &&& 31) 8 (by decide +kernel) h3, nI_or]
  congr 1
  have h2 := Nat.two_pow_add_eq_or_of_lt (i := 8) (b := zb (D (p + k))) (zb_lt _) (nuN D p k)
  show nuN D p k * 2 ^ 8 ||| zb (D (p + k)) = nuN D p k * 256 + zb (D (p + k))
  rw [Nat.mul_comm (nuN D p k) (2 ^ 8), ← h2, Nat.mul_comm]
theorem zdiff {x y : Nat} (hx : x < 2 ^ 30) (hy : y < 2 ^ 30) : (nI x - nI y < 0 ↔ x < y) ∧ (nI x - nI y = 0 ↔ x = y) := by
  have h := pk_sub_toInt hx hy
  have h0 : (0 : Int32).toInt = 0 := by decide
  constructor
  · rw [Int32.lt_iff_toInt_lt, h, h0]; omega
  · rw [← Int32.toInt_inj, h, h0]; omega
/-- the disk: where it lies, and its bytes -/
def zDk (M : zM) (a b : Nat) : Prop := zK M a = 2 ∧ zR M 32 a = some b ∧ zK M b = 14 ∧ zN M b = 304128
set_option maxRecDepth 100000 in
set_option maxHeartbeats 4000000 in
theorem c_Disk_kind {G : zG} {d a b p : Nat} {M : zM} (hcb : zC M ≤ 600128 ∧ zS M ≤ 7301098) (hv : zDk M a b) (hp : p < 303104)  : zMet G mX1_kind d [.ref a, .int (nI p)] M (fun o M' => o = .inl (some (.int (nI (zb (zA M b p))))) ∧ M' = M) := by
  refine zMet_of (by decide +kernel) (Nat.le_of_ble_eq_true rfl) rfl hcb ?_
  show zw G mX1_kind d _ _ _ 0 [some (.ref a), some (.int (nI p))] [] M
  obtain ⟨hK, hR, hKb, hNb⟩ := id hv
  refine zr_iload_n dX1_kind_0 rfl ?_
  refine zr_if_ltN 23 dX1_kind_1 (by decide) (by omega) ?_
  refine zr_iload_n dX1_kind_4 rfl ?_
  refine zr_ldc dX1_kind_5 ctX1_55 ?_
  refine zr_as (y := nI 303104) (by decide) ?_
  refine zr_icmp_geN 23 dX1_kind_7 (by decide) (by omega) (by omega) (fun h7 => ?_) (fun h7 => ?_)
  · refine zr_iconst (v := nI 0) dX1_kind_23 (by decide) ?_
    refine zr_iret dX1_kind_24 rfl ?_
    first | (exfalso; omega) | exact ⟨rfl, rfl⟩
  · refine zr_aload_n dX1_kind_10 rfl ?_
    refine zr_getR dX1_kind_11 lkX1_10 (by decide) (by decide) rfl hK hR ?_
    refine zr_iload_n dX1_kind_14 rfl ?_
    refine zr_baldN dX1_kind_15 hKb hNb (by omega) (by omega) (fun f15 => ?_)
    refine zr_sipush (v := nI 255) dX1_kind_16 (by decide) ?_
    refine zr_iand255 dX1_kind_19 ?_
    refine zr_goto 24 dX1_kind_20 (by decide) ?_
    refine zr_iret dX1_kind_24 rfl ?_
    first | (exfalso; omega) | exact ⟨rfl, rfl⟩
set_option maxRecDepth 100000 in
set_option maxHeartbeats 4000000 in
theorem c_Disk_kindM {G : zG} {d a b : Nat} {M : zM} (hcb : zC M ≤ 600128 ∧ zS M ≤ 7301098) (hv : zDk M a b)  : zMet G mX1_kind d [.ref a, .int ((-1))] M (fun o M' => o = .inl (some (.int (nI 0))) ∧ M' = M) := by
  refine zMet_of (by decide +kernel) (Nat.le_of_ble_eq_true rfl) rfl hcb ?_
  show zw G mX1_kind d _ _ _ 0 [some (.ref a), some (.int ((-1)))] [] M
  obtain ⟨hK, hR, hKb, hNb⟩ := id hv
  refine zr_iload_n dX1_kind_0 rfl ?_
  refine zr_if_ltM 23 dX1_kind_1 (by decide) ?_
  refine zr_iconst (v := nI 0) dX1_kind_23 (by decide) ?_
  refine zr_iret dX1_kind_24 rfl ?_
  first | (exfalso; omega) | exact ⟨rfl, rfl⟩
set_option maxRecDepth 100000 in
set_option maxHeartbeats 4000000 in
theorem c_Disk_entryLength {G : zG} {d a b p : Nat} {M : zM} (hcb : zC M ≤ 600128 ∧ zS M ≤ 7301098) (hv : zDk M a b) (hp : p < 303104)  : zMet G mX1_entryLength d [.ref a, .int (nI p)] M (fun o M' => o = .inl (some (.int (nI (eln (zA M b) p)))) ∧ M' = M) := by
  refine zMet_of (by decide +kernel) (Nat.le_of_ble_eq_true rfl) rfl hcb ?_
  show zw G mX1_entryLength d _ _ _ 0 [some (.ref a), some (.int (nI p))] [] M
  obtain ⟨hK, hR, hKb, hNb⟩ := id hv
  refine zr_iload_n dX1_entryLength_0 rfl ?_
  refine zr_if_ltN 10 dX1_entryLength_1 (by decide) (by omega) ?_
  refine zr_iload_n dX1_entryLength_4 rfl ?_
  refine zr_ldc dX1_entryLength_5 ctX1_55 ?_
  refine zr_as (y := nI 303104) (by decide) ?_
  refine zr_icmp_ltN 13 dX1_entryLength_7 (by decide) (by omega) (by omega) (fun h7 => ?_) (fun h7 => ?_)
  · refine zr_bipush (v := nI 8) dX1_entryLength_13 (by decide) ?_
    refine zr_aload_n dX1_entryLength_15 rfl ?_
    refine zr_getR dX1_entryLength_16 lkX1_10 (by decide) (by decide) rfl hK hR ?_
    refine zr_iload_n dX1_entryLength_19 rfl ?_
    refine zr_iconst (v := nI 1) dX1_entryLength_20 (by decide) ?_
    refine zr_iaddN dX1_entryLength_21 ?_
    refine zr_baldN dX1_entryLength_22 hKb hNb (by omega) (by omega) (fun f22 => ?_)
    refine zr_sipush (v := nI 255) dX1_entryLength_23 (by decide) ?_
    refine zr_iand255 dX1_entryLength_26 ?_
    refine zr_iaddN dX1_entryLength_27 ?_
    refine zr_aload_n dX1_entryLength_28 rfl ?_
    refine zr_getR dX1_entryLength_29 lkX1_10 (by decide) (by decide) rfl hK hR ?_
    refine zr_iload_n dX1_entryLength_32 rfl ?_
    refine zr_iconst (v := nI 2) dX1_entryLength_33 (by decide) ?_
    refine zr_iaddN dX1_entryLength_34 ?_
    refine zr_baldN dX1_entryLength_35 hKb hNb (by omega) (by omega) (fun f35 => ?_)
    refine zr_sipush (v := nI 255) dX1_entryLength_36 (by decide) ?_
    refine zr_iand255 dX1_entryLength_39 ?_
    refine zr_iaddN dX1_entryLength_40 ?_
    refine zr_iret dX1_entryLength_41 rfl ?_
    first | (exfalso; omega) | exact ⟨rfl, rfl⟩
  · refine zr_bipush (v := nI 8) dX1_entryLength_10 (by decide) ?_
    refine zr_iret dX1_entryLength_12 rfl ?_
    first | (exfalso; omega) | exact ⟨rfl, rfl⟩
set_option maxRecDepth 100000 in
set_option maxHeartbeats 4000000 in
theorem c_Disk_nextInBlock {G : zG} {d a b p : Nat} {M : zM} (hcb : zC M ≤ 600128 ∧ zS M ≤ 7301098) (hv : zDk M a b) (hp : p < 303104)  : zMet G mX1_nextInBlock d [.ref a, .int (nI p)] M (fun o M' => (((p + eln (zA M b) p) / 512 = p / 512 ∧ zA M b (p + eln (zA M b) p) ≠ 0 ∧ o = .inl (some (.int (nI (p + eln (zA M b) p)))) ∧ M' = M)) ∨ (¬ ((p + eln (zA M b) p) / 512 = p / 512 ∧ zA M b (p + eln (zA M b) p) ≠ 0) ∧ o = .inl (some (.int (-1))) ∧ M' = M)) := by
  refine zMet_of (by decide +kernel) (Nat.le_of_ble_eq_true rfl) rfl hcb ?_
  show zw G mX1_nextInBlock d _ _ _ 0 [some (.ref a), some (.int (nI p)), none] [] M
  obtain ⟨hK, hR, hKb, hNb⟩ := id hv
  refine zr_iload_n dX1_nextInBlock_0 rfl ?_
  refine zr_if_ltN 10 dX1_nextInBlock_1 (by decide) (by omega) ?_
  refine zr_iload_n dX1_nextInBlock_4 rfl ?_
  refine zr_ldc dX1_nextInBlock_5 ctX1_55 ?_
  refine zr_as (y := nI 303104) (by decide) ?_
  refine zr_icmp_ltN 12 dX1_nextInBlock_7 (by decide) (by omega) (by omega) (fun h7 => ?_) (fun h7 => ?_)
  · refine zr_iload_n dX1_nextInBlock_12 rfl ?_
    refine zr_bipush (v := nI 8) dX1_nextInBlock_13 (by decide) ?_
    refine zr_iaddN dX1_nextInBlock_15 ?_
    refine zr_aload_n dX1_nextInBlock_16 rfl ?_
    refine zr_getR dX1_nextInBlock_17 lkX1_10 (by decide) (by decide) rfl hK hR ?_
    refine zr_iload_n dX1_nextInBlock_20 rfl ?_
    refine zr_iconst (v := nI 1) dX1_nextInBlock_21 (by decide) ?_
    refine zr_iaddN dX1_nextInBlock_22 ?_
    refine zr_baldN dX1_nextInBlock_23 hKb hNb (by omega) (by omega) (fun f23 => ?_)
    refine zr_sipush (v := nI 255) dX1_nextInBlock_24 (by decide) ?_
    refine zr_iand255 dX1_nextInBlock_27 ?_
    refine zr_iaddN dX1_nextInBlock_28 ?_
    refine zr_aload_n dX1_nextInBlock_29 rfl ?_
    refine zr_getR dX1_nextInBlock_30 lkX1_10 (by decide) (by decide) rfl hK hR ?_
    refine zr_iload_n dX1_nextInBlock_33 rfl ?_
    refine zr_iconst (v := nI 2) dX1_nextInBlock_34 (by decide) ?_
    refine zr_iaddN dX1_nextInBlock_35 ?_
    refine zr_baldN dX1_nextInBlock_36 hKb hNb (by omega) (by omega) (fun f36 => ?_)
    refine zr_sipush (v := nI 255) dX1_nextInBlock_37 (by decide) ?_
    refine zr_iand255 dX1_nextInBlock_40 ?_
    refine zr_iaddN dX1_nextInBlock_41 ?_
    have z1 := zb_lt (zA M b (p + 1))
    have z2 := zb_lt (zA M b (p + 2))
    refine zr_istore_n (lv' := [some (.ref a), some (.int (nI p)), some (.int (nI (((p + 8) + (zb (zA M b (p + 1)))) + (zb (zA M b (p + 2))))))]) dX1_nextInBlock_42 (Nat.le_of_ble_eq_true rfl) (Nat.le_of_ble_eq_true rfl) rfl rfl ?_
    refine zr_iload_n dX1_nextInBlock_43 rfl ?_
    refine zr_sipush (v := nI 512) dX1_nextInBlock_44 (by decide) ?_
    refine zr_idivN dX1_nextInBlock_47 (by omega) (by omega) (by omega) ?_
    refine zr_iload_n dX1_nextInBlock_48 rfl ?_
    refine zr_sipush (v := nI 512) dX1_nextInBlock_49 (by decide) ?_
    refine zr_idivN dX1_nextInBlock_52 (by omega) (by omega) (by omega) ?_
    refine zr_icmp_neN 69 dX1_nextInBlock_53 (by decide) (by omega) (by omega) (fun h53 => ?_) (fun h53 => ?_)
    · refine zr_iconst (v := -1) dX1_nextInBlock_69 (by decide) ?_
      refine zr_iret dX1_nextInBlock_70 rfl ?_
      first | (exfalso; omega) | exact Or.inl ⟨by unfold eln ekl evl; omega, (fun z => h62 (by rw [show p + 8 + zb (zA M b (p + 1)) + zb (zA M b (p + 2)) = p + eln (zA M b) p from by unfold eln ekl evl; omega]; exact z)), by unfold eln ekl evl; rw [show p + (8 + zb (zA M b (p + 1)) + zb (zA M b (p + 2))) = p + 8 + zb (zA M b (p + 1)) + zb (zA M b (p + 2)) by omega], rfl⟩ | exact Or.inr ⟨fun z => (by unfold eln ekl evl at z; first | (exfalso; omega) | (exact z.2 (by rw [show p + (8 + zb (zA M b (p + 1)) + zb (zA M b (p + 2))) = p + 8 + zb (zA M b (p + 1)) + zb (zA M b (p + 2)) by omega]; exact h62))), rfl, rfl⟩
    · refine zr_aload_n dX1_nextInBlock_56 rfl ?_
      refine zr_getR dX1_nextInBlock_57 lkX1_10 (by decide) (by decide) rfl hK hR ?_
      refine zr_iload_n dX1_nextInBlock_60 rfl ?_
      refine zr_baldN dX1_nextInBlock_61 hKb hNb (by omega) (by omega) (fun f61 => ?_)
      refine zr_if_eq 69 dX1_nextInBlock_62 (by decide) (fun h62 => ?_) (fun h62 => ?_)
      · refine zr_iconst (v := -1) dX1_nextInBlock_69 (by decide) ?_
        refine zr_iret dX1_nextInBlock_70 rfl ?_
        first | (exfalso; omega) | exact Or.inl ⟨by unfold eln ekl evl; omega, (fun z => h62 (by rw [show p + 8 + zb (zA M b (p + 1)) + zb (zA M b (p + 2)) = p + eln (zA M b) p from by unfold eln ekl evl; omega]; exact z)), by unfold eln ekl evl; rw [show p + (8 + zb (zA M b (p + 1)) + zb (zA M b (p + 2))) = p + 8 + zb (zA M b (p + 1)) + zb (zA M b (p + 2)) by omega], rfl⟩ | exact Or.inr ⟨fun z => (by unfold eln ekl evl at z; first | (exfalso; omega) | (exact z.2 (by rw [show p + (8 + zb (zA M b (p + 1)) + zb (zA M b (p + 2))) = p + 8 + zb (zA M b (p + 1)) + zb (zA M b (p + 2)) by omega]; exact h62))), rfl, rfl⟩
      · refine zr_iload_n dX1_nextInBlock_65 rfl ?_
        refine zr_goto 70 dX1_nextInBlock_66 (by decide) ?_
        refine zr_iret dX1_nextInBlock_70 rfl ?_
        first | (exfalso; omega) | exact Or.inl ⟨by unfold eln ekl evl; omega, (fun z => h62 (by rw [show p + 8 + zb (zA M b (p + 1)) + zb (zA M b (p + 2)) = p + eln (zA M b) p from by unfold eln ekl evl; omega]; exact z)), by unfold eln ekl evl; rw [show p + (8 + zb (zA M b (p + 1)) + zb (zA M b (p + 2))) = p + 8 + zb (zA M b (p + 1)) + zb (zA M b (p + 2)) by omega], rfl⟩ | exact Or.inr ⟨fun z => (by unfold eln ekl evl at z; first | (exfalso; omega) | (exact z.2 (by rw [show p + (8 + zb (zA M b (p + 1)) + zb (zA M b (p + 2))) = p + 8 + zb (zA M b (p + 1)) + zb (zA M b (p + 2)) by omega]; exact h62))), rfl, rfl⟩
  · refine zr_iconst (v := -1) dX1_nextInBlock_10 (by decide) ?_
    refine zr_iret dX1_nextInBlock_11 rfl ?_
    first | (exfalso; omega) | exact Or.inl ⟨by unfold eln ekl evl; omega, (fun z => h62 (by rw [show p + 8 + zb (zA M b (p + 1)) + zb (zA M b (p + 2)) = p + eln (zA M b) p from by unfold eln ekl evl; omega]; exact z)), by unfold eln ekl evl; rw [show p + (8 + zb (zA M b (p + 1)) + zb (zA M b (p + 2))) = p + 8 + zb (zA M b (p + 1)) + zb (zA M b (p + 2)) by omega], rfl⟩ | exact Or.inr ⟨fun z => (by unfold eln ekl evl at z; first | (exfalso; omega) | (exact z.2 (by rw [show p + (8 + zb (zA M b (p + 1)) + zb (zA M b (p + 2))) = p + 8 + zb (zA M b (p + 1)) + zb (zA M b (p + 2)) by omega]; exact h62))), rfl, rfl⟩
set_option maxRecDepth 100000 in
set_option maxHeartbeats 4000000 in
theorem l_Disk_number {G : zG} {d k0 n0 a b p n : Nat} {M : zM} {Q : zOut → zM → Prop} (hv : zDk M a b) (hp : p < 303104) (hn : n ≤ 8) (hlt : nuN (zA M b) p n < 2 ^ 31) (hq : Q (.inl (some (.int (nI (nuN (zA M b) p n))))) M) : ∀ (m i : Nat) , n - i = m → i ≤ n → zw G mX1_number d k0 n0 Q 25 [some (.ref a), some (.int (nI p)), some (.int (nI n)), some (.int (nI (nuN (zA M b) p i))), some (.int (nI (p + i)))] [] M := by
  intro m
  induction m using Nat.strongRecOn with
  | _ m ih =>
    intro i hm hi
    obtain ⟨hK, hR, hKb, hNb⟩ := id hv
    refine zr_iload dX1_number_25 rfl ?_
    refine zr_iload_n dX1_number_27 rfl ?_
    refine zr_iload_n dX1_number_28 rfl ?_
    refine zr_iaddN dX1_number_29 ?_
    refine zr_icmp_geN 56 dX1_number_30 (by decide) (by omega) (by omega) (fun h30 => ?_) (fun h30 => ?_)
    · refine zr_iload_n dX1_number_56 rfl ?_
      refine zr_iret dX1_number_57 rfl ?_
      rw [show i = n by omega]
      exact hq
    · refine zr_iload_n dX1_number_33 rfl ?_
      refine zr_bipush (v := nI 8) dX1_number_34 (by decide) ?_
      refine zr_ishl dX1_number_36 ?_
      refine zr_aload_n dX1_number_37 rfl ?_
      refine zr_getR dX1_number_38 lkX1_10 (by decide) (by decide) rfl hK hR ?_
      refine zr_iload dX1_number_41 rfl ?_
      refine zr_baldN dX1_number_43 hKb hNb (by omega) (by omega) (fun f43 => ?_)
      refine zr_sipush (v := nI 255) dX1_number_44 (by decide) ?_
      refine zr_iand255 dX1_number_47 ?_
      refine zr_ior dX1_number_48 ?_
      refine zr_istore_n (lv' := [some (.ref a), some (.int (nI p)), some (.int (nI n)), some (.int ((((nI (nuN (zA M b) p i)) <<< ((nI 8) &&& 31)) ||| (nI (zb (zA M b (p + i))))))), some (.int (nI (p + i)))]) dX1_number_49 (Nat.le_of_ble_eq_true rfl) (Nat.le_of_ble_eq_true rfl) rfl rfl ?_
      refine zr_iincN (n := 1) (lv' := [some (.ref a), some (.int (nI p)), some (.int (nI n)), some (.int ((((nI (nuN (zA M b) p i)) <<< ((nI 8) &&& 31)) ||| (nI (zb (zA M b (p + i))))))), some (.int (nI ((p + i) + 1)))]) dX1_number_50 (Nat.le_of_ble_eq_true rfl) (Nat.le_of_ble_eq_true rfl) rfl rfl rfl ?_
      refine zr_goto 25 dX1_number_53 (by decide) ?_
      rw [nuN_step (zA M b) p i (Nat.lt_of_le_of_lt (nuN_mono (zA M b) p (by omega)) hlt)]
      exact ih _ (by omega) (i + 1) rfl (by omega)
set_option maxRecDepth 100000 in
set_option maxHeartbeats 4000000 in
theorem c_Disk_number {G : zG} {d a b p n : Nat} {M : zM} (hcb : zC M ≤ 600128 ∧ zS M ≤ 7301098) (hv : zDk M a b) (hp : p < 303104) (hn : n ≤ 8) (hlt : nuN (zA M b) p n < 2 ^ 31) : zMet G mX1_number d [.ref a, .int (nI p), .int (nI n)] M (fun o M' => o = .inl (some (.int (nI (nuN (zA M b) p n)))) ∧ M' = M) := by
  refine zMet_of (by decide +kernel) (Nat.le_of_ble_eq_true rfl) rfl hcb ?_
  show zw G mX1_number d _ _ _ 0 [some (.ref a), some (.int (nI p)), some (.int (nI n)), none, none] [] M
  obtain ⟨hK, hR, hKb, hNb⟩ := id hv
  refine zr_iconst (v := nI 0) dX1_number_0 (by decide) ?_
  refine zr_istore_n (lv' := [some (.ref a), some (.int (nI p)), some (.int (nI n)), some (.int (nI 0)), none]) dX1_number_1 (Nat.le_of_ble_eq_true rfl) (Nat.le_of_ble_eq_true rfl) rfl rfl ?_
  refine zr_iload_n dX1_number_2 rfl ?_
  refine zr_if_ltN 56 dX1_number_3 (by decide) (by omega) ?_
  refine zr_iload_n dX1_number_6 rfl ?_
  refine zr_ldc dX1_number_7 ctX1_55 ?_
  refine zr_as (y := nI 303104) (by decide) ?_
  refine zr_icmp_geN 56 dX1_number_9 (by decide) (by omega) (by omega) (fun h9 => ?_) (fun h9 => ?_)
  · refine zr_iload_n dX1_number_56 rfl ?_
    refine zr_iret dX1_number_57 rfl ?_
    first | (exfalso; omega) | exact ⟨rfl, rfl⟩
  · refine zr_iload_n dX1_number_12 rfl ?_
    refine zr_if_ltN 56 dX1_number_13 (by decide) (by omega) ?_
    refine zr_iload_n dX1_number_16 rfl ?_
    refine zr_bipush (v := nI 8) dX1_number_17 (by decide) ?_
    refine zr_icmp_gtN 56 dX1_number_19 (by decide) (by omega) (by omega) (fun h19 => ?_) (fun h19 => ?_)
    · refine zr_iload_n dX1_number_56 rfl ?_
      refine zr_iret dX1_number_57 rfl ?_
      first | (exfalso; omega) | exact ⟨rfl, rfl⟩
    · refine zr_iload_n dX1_number_22 rfl ?_
      refine zr_istore (lv' := [some (.ref a), some (.int (nI p)), some (.int (nI n)), some (.int (nI 0)), some (.int (nI p))]) dX1_number_23 (Nat.le_of_ble_eq_true rfl) (Nat.le_of_ble_eq_true rfl) rfl rfl ?_
      exact l_Disk_number hv hp hn hlt ⟨rfl, rfl⟩ _ 0 rfl (by omega)
set_option maxRecDepth 100000 in
set_option maxHeartbeats 4000000 in
theorem l_Disk_order {G : zG} {d k0 n0 a b p q la lb sh : Nat} {M : zM} {Q : zOut → zM → Prop} (hv : zDk M a b) (hp : p < 303104) (hq9 : q < 303104) (hla : la < 256) (hlb : lb < 256) (hsh : sh = min la lb) (hq : ∀ r : Int32, (r < 0 ↔ klt (rwl (fun i => zA M b (p + 8 + i)) la) (rwl (fun i => zA M b (q + 8 + i)) lb)) → (r = 0 ↔ rwl (fun i => zA M b (p + 8 + i)) la = rwl (fun i => zA M b (q + 8 + i)) lb) → Q (.inl (some (.int r))) M) : ∀ (m i : Nat) , sh - i = m → i ≤ sh → (∀ j, j < i → zb (zA M b (p + 8 + j)) = zb (zA M b (q + 8 + j))) → zw G mX1_order d k0 n0 Q 67 [some (.ref a), some (.int (nI p)), some (.int (nI q)), some (.int (nI la)), some (.int (nI lb)), some (.int (nI sh)), some (.int (nI (8 + i))), none] [] M := by
  intro m
  induction m using Nat.strongRecOn with
  | _ m ih =>
    intro i hm hi heq
    obtain ⟨hK, hR, hKb, hNb⟩ := id hv
    refine zr_iload dX1_order_67 rfl ?_
    refine zr_bipush (v := nI 8) dX1_order_69 (by decide) ?_
    refine zr_iload dX1_order_71 rfl ?_
    refine zr_iaddN dX1_order_73 ?_
    refine zr_icmp_geN 120 dX1_order_74 (by decide) (by omega) (by omega) (fun h74 => ?_) (fun h74 => ?_)
    · refine zr_iload_n dX1_order_120 rfl ?_
      refine zr_iload dX1_order_121 rfl ?_
      refine zr_isub dX1_order_123 ?_
      refine zr_iret dX1_order_124 rfl ?_
      refine hq _ ?_ ?_
      · rw [(zdiff (by omega) (by omega)).1]; exact (klt_all (fun j h1 h2 => heq j (by omega))).symm
      · rw [(zdiff (by omega) (by omega)).2]
        exact ⟨fun z => by rw [z]; exact rwl_congr (fun j hj => heq j (by omega)), fun z => (rwl_inj z).1⟩
    · refine zr_aload_n dX1_order_77 rfl ?_
      refine zr_getR dX1_order_78 lkX1_10 (by decide) (by decide) rfl hK hR ?_
      refine zr_iload_n dX1_order_81 rfl ?_
      refine zr_iload dX1_order_82 rfl ?_
      refine zr_iaddN dX1_order_84 ?_
      refine zr_baldN dX1_order_85 hKb hNb (by omega) (by omega) (fun f85 => ?_)
      refine zr_sipush (v := nI 255) dX1_order_86 (by decide) ?_
      refine zr_iand255 dX1_order_89 ?_
      refine zr_aload_n dX1_order_90 rfl ?_
      refine zr_getR dX1_order_91 lkX1_10 (by decide) (by decide) rfl hK hR ?_
      refine zr_iload_n dX1_order_94 rfl ?_
      refine zr_iload dX1_order_95 rfl ?_
      refine zr_iaddN dX1_order_97 ?_
      refine zr_baldN dX1_order_98 hKb hNb (by omega) (by omega) (fun f98 => ?_)
      refine zr_sipush (v := nI 255) dX1_order_99 (by decide) ?_
      refine zr_iand255 dX1_order_102 ?_
      refine zr_isub dX1_order_103 ?_
      refine zr_istore (lv' := [some (.ref a), some (.int (nI p)), some (.int (nI q)), some (.int (nI la)), some (.int (nI lb)), some (.int (nI sh)), some (.int (nI (8 + i))), some (.int (((nI (zb (zA M b (p + (8 + i))))) - (nI (zb (zA M b (q + (8 + i))))))))]) dX1_order_104 (Nat.le_of_ble_eq_true rfl) (Nat.le_of_ble_eq_true rfl) rfl rfl ?_
      refine zr_iload dX1_order_106 rfl ?_
      refine zr_if_eq 114 dX1_order_108 (by decide) (fun h108 => ?_) (fun h108 => ?_)
      · refine zr_iincN (n := 1) (lv' := [some (.ref a), some (.int (nI p)), some (.int (nI q)), some (.int (nI la)), some (.int (nI lb)), some (.int (nI sh)), some (.int (nI ((8 + i) + 1))), some (.int (((nI (zb (zA M b (p + (8 + i))))) - (nI (zb (zA M b (q + (8 + i))))))))]) dX1_order_114 (Nat.le_of_ble_eq_true rfl) (Nat.le_of_ble_eq_true rfl) rfl rfl rfl ?_
        refine zr_goto 67 dX1_order_117 (by decide) ?_
        refine zr_drop 7 rfl ?_
        refine ih _ (by omega) (i + 1) rfl (by omega) (fun j hj => ?_)
        rcases Nat.lt_or_ge j i with z | z
        · exact heq j z
        · rw [show j = i by omega]; exact (zdiff (Nat.lt_trans (zb_lt _) (by decide)) (Nat.lt_trans (zb_lt _) (by decide))).2.mp (by rw [Nat.add_assoc, Nat.add_assoc]; exact h108)
      · refine zr_iload dX1_order_111 rfl ?_
        refine zr_iret dX1_order_113 rfl ?_
        refine hq _ ?_ ?_
        · rw [(zdiff (Nat.lt_trans (zb_lt _) (by decide)) (Nat.lt_trans (zb_lt _) (by decide))).1]
          have hd9 : ¬ zb (zA M b (p + (8 + i))) = zb (zA M b (q + (8 + i))) := fun z => h108 ((zdiff (Nat.lt_trans (zb_lt _) (by decide)) (Nat.lt_trans (zb_lt _) (by decide))).2.mpr z)
          constructor
          · intro z; exact klt_at i (by omega) (by omega) heq (by rw [Nat.add_assoc, Nat.add_assoc]; exact z)
          · intro z
            rcases Nat.lt_or_ge (zb (zA M b (p + (8 + i)))) (zb (zA M b (q + (8 + i)))) with z1 | z1
            · exact z1
            · exact absurd (klt_trans _ _ _ z (klt_at i (by omega) (by omega) (fun j hj => (heq j hj).symm) (by rw [Nat.add_assoc, Nat.add_assoc]; omega))) (klt_irrefl _)
        · constructor
          · intro z; exact absurd z h108
          · intro z
            have z1 := (rwl_inj z).2 i (by omega)
            refine absurd ((zdiff (Nat.lt_trans (zb_lt _) (by decide)) (Nat.lt_trans (zb_lt _) (by decide))).2.mpr ?_) h108
            rw [← Nat.add_assoc, ← Nat.add_assoc]; exact z1
set_option maxRecDepth 100000 in
set_option maxHeartbeats 4000000 in
theorem c_Disk_order {G : zG} {d a b p q : Nat} {M : zM} (hcb : zC M ≤ 600128 ∧ zS M ≤ 7301098) (hv : zDk M a b) (hp : p < 303104) (hq9 : q < 303104) : zMet G mX1_order d [.ref a, .int (nI p), .int (nI q)] M (fun o M' => ∃ r : Int32, o = .inl (some (.int r)) ∧ M' = M ∧ (r < 0 ↔ klt (eky (zA M b) p) (eky (zA M b) q)) ∧ (r = 0 ↔ eky (zA M b) p = eky (zA M b) q)) := by
  refine zMet_of (by decide +kernel) (Nat.le_of_ble_eq_true rfl) rfl hcb ?_
  show zw G mX1_order d _ _ _ 0 [some (.ref a), some (.int (nI p)), some (.int (nI q)), none, none, none, none, none] [] M
  obtain ⟨hK, hR, hKb, hNb⟩ := id hv
  refine zr_iload_n dX1_order_0 rfl ?_
  refine zr_if_ltN 20 dX1_order_1 (by decide) (by omega) ?_
  refine zr_iload_n dX1_order_4 rfl ?_
  refine zr_ldc dX1_order_5 ctX1_55 ?_
  refine zr_as (y := nI 303104) (by decide) ?_
  refine zr_icmp_geN 20 dX1_order_7 (by decide) (by omega) (by omega) (fun h7 => ?_) (fun h7 => ?_)
  · refine zr_iconst (v := nI 0) dX1_order_20 (by decide) ?_
    refine zr_iret dX1_order_21 rfl ?_
    exfalso; omega
  · refine zr_iload_n dX1_order_10 rfl ?_
    refine zr_if_ltN 20 dX1_order_11 (by decide) (by omega) ?_
    refine zr_iload_n dX1_order_14 rfl ?_
    refine zr_ldc dX1_order_15 ctX1_55 ?_
    refine zr_as (y := nI 303104) (by decide) ?_
    refine zr_icmp_ltN 22 dX1_order_17 (by decide) (by omega) (by omega) (fun h17 => ?_) (fun h17 => ?_)
    · refine zr_aload_n dX1_order_22 rfl ?_
      refine zr_getR dX1_order_23 lkX1_10 (by decide) (by decide) rfl hK hR ?_
      refine zr_iload_n dX1_order_26 rfl ?_
      refine zr_iconst (v := nI 1) dX1_order_27 (by decide) ?_
      refine zr_iaddN dX1_order_28 ?_
      refine zr_baldN dX1_order_29 hKb hNb (by omega) (by omega) (fun f29 => ?_)
      refine zr_sipush (v := nI 255) dX1_order_30 (by decide) ?_
      refine zr_iand255 dX1_order_33 ?_
      refine zr_istore_n (lv' := [some (.ref a), some (.int (nI p)), some (.int (nI q)), some (.int (nI (zb (zA M b (p + 1))))), none, none, none, none]) dX1_order_34 (Nat.le_of_ble_eq_true rfl) (Nat.le_of_ble_eq_true rfl) rfl rfl ?_
      refine zr_aload_n dX1_order_35 rfl ?_
      refine zr_getR dX1_order_36 lkX1_10 (by decide) (by decide) rfl hK hR ?_
      refine zr_iload_n dX1_order_39 rfl ?_
      refine zr_iconst (v := nI 1) dX1_order_40 (by decide) ?_
      refine zr_iaddN dX1_order_41 ?_
      refine zr_baldN dX1_order_42 hKb hNb (by omega) (by omega) (fun f42 => ?_)
      refine zr_sipush (v := nI 255) dX1_order_43 (by decide) ?_
      refine zr_iand255 dX1_order_46 ?_
      refine zr_istore (lv' := [some (.ref a), some (.int (nI p)), some (.int (nI q)), some (.int (nI (zb (zA M b (p + 1))))), some (.int (nI (zb (zA M b (q + 1))))), none, none, none]) dX1_order_47 (Nat.le_of_ble_eq_true rfl) (Nat.le_of_ble_eq_true rfl) rfl rfl ?_
      have z1 := zb_lt (zA M b (p + 1))
      have z2 := zb_lt (zA M b (q + 1))
      refine zr_iload_n dX1_order_49 rfl ?_
      refine zr_iload dX1_order_50 rfl ?_
      refine zr_icmp_geN 59 dX1_order_52 (by decide) (by omega) (by omega) (fun h52 => ?_) (fun h52 => ?_)
      · refine zr_iload dX1_order_59 rfl ?_
        refine zr_istore (lv' := [some (.ref a), some (.int (nI p)), some (.int (nI q)), some (.int (nI (zb (zA M b (p + 1))))), some (.int (nI (zb (zA M b (q + 1))))), some (.int (nI (zb (zA M b (q + 1))))), none, none]) dX1_order_61 (Nat.le_of_ble_eq_true rfl) (Nat.le_of_ble_eq_true rfl) rfl rfl ?_
        refine zr_bipush (v := nI 8) dX1_order_63 (by decide) ?_
        refine zr_istore (lv' := [some (.ref a), some (.int (nI p)), some (.int (nI q)), some (.int (nI (zb (zA M b (p + 1))))), some (.int (nI (zb (zA M b (q + 1))))), some (.int (nI (zb (zA M b (q + 1))))), some (.int (nI 8)), none]) dX1_order_65 (Nat.le_of_ble_eq_true rfl) (Nat.le_of_ble_eq_true rfl) rfl rfl ?_
        exact l_Disk_order hv hp hq9 (zb_lt _) (zb_lt _) (by omega) (fun r h1 h2 => ⟨r, rfl, rfl, h1, h2⟩) _ 0 rfl (by omega) (fun j hj => by omega)
      · refine zr_iload_n dX1_order_55 rfl ?_
        refine zr_goto 61 dX1_order_56 (by decide) ?_
        refine zr_istore (lv' := [some (.ref a), some (.int (nI p)), some (.int (nI q)), some (.int (nI (zb (zA M b (p + 1))))), some (.int (nI (zb (zA M b (q + 1))))), some (.int (nI (zb (zA M b (p + 1))))), none, none]) dX1_order_61 (Nat.le_of_ble_eq_true rfl) (Nat.le_of_ble_eq_true rfl) rfl rfl ?_
        refine zr_bipush (v := nI 8) dX1_order_63 (by decide) ?_
        refine zr_istore (lv' := [some (.ref a), some (.int (nI p)), some (.int (nI q)), some (.int (nI (zb (zA M b (p + 1))))), some (.int (nI (zb (zA M b (q + 1))))), some (.int (nI (zb (zA M b (p + 1))))), some (.int (nI 8)), none]) dX1_order_65 (Nat.le_of_ble_eq_true rfl) (Nat.le_of_ble_eq_true rfl) rfl rfl ?_
        exact l_Disk_order hv hp hq9 (zb_lt _) (zb_lt _) (by omega) (fun r h1 h2 => ⟨r, rfl, rfl, h1, h2⟩) _ 0 rfl (by omega) (fun j hj => by omega)
    · refine zr_iconst (v := nI 0) dX1_order_20 (by decide) ?_
      refine zr_iret dX1_order_21 rfl ?_
      exfalso; omega
set_option maxRecDepth 100000 in
set_option maxHeartbeats 4000000 in
theorem c_Disk_precedes {G : zG} {d a b p q : Nat} {M : zM} (hd : 1 ≤ d) (hcb : zC M ≤ 600128 ∧ zS M ≤ 7301098) (hv : zDk M a b) (hp : p < 303096) (hq : q < 303096) (hcp : ecm (zA M b) p < 2 ^ 31) (hcq : ecm (zA M b) q < 2 ^ 31) : zMet G mX1_precedes d [.ref a, .int (nI p), .int (nI q)] M (fun o M' => ((klt (eky (zA M b) p) (eky (zA M b) q) ∨ (eky (zA M b) p = eky (zA M b) q ∧ ecm (zA M b) q < ecm (zA M b) p)) ∧ o = .inl (some (.int (nI 1))) ∧ M' = M) ∨ (¬ (klt (eky (zA M b) p) (eky (zA M b) q) ∨ (eky (zA M b) p = eky (zA M b) q ∧ ecm (zA M b) q < ecm (zA M b) p)) ∧ o = .inl (some (.int (nI 0))) ∧ M' = M)) := by
  refine zMet_of (by decide +kernel) (Nat.le_of_ble_eq_true rfl) rfl hcb ?_
  show zw G mX1_precedes d _ _ _ 0 [some (.ref a), some (.int (nI p)), some (.int (nI q)), none] [] M
  obtain ⟨hK, hR, hKb, hNb⟩ := id hv
  refine zr_aload_n dX1_precedes_0 rfl ?_
  refine zr_iload_n dX1_precedes_1 rfl ?_
  refine zr_iload_n dX1_precedes_2 rfl ?_
  refine zr_callV (md' := mX1_order) (As := [.int (nI p), .int (nI q)]) dX1_precedes_3 mlX1_72 okX1_order rfl inX1_order slX1_order (by decide) hK rfl (by omega) (Nat.le_of_ble_eq_true rfl) hcb (c_Disk_order (d := d - 1) hcb hv (by omega) (by omega)) (fun k M1 h => by obtain ⟨r, h1, h2⟩ := h; cases h1) (fun v M1 hq => ?_)
  obtain ⟨ro, e0, e1, ho1, ho2⟩ := hq
  cases e0
  rw [e1]
  refine zr_istore_n (lv' := [some (.ref a), some (.int (nI p)), some (.int (nI q)), some (.int ro)]) dX1_precedes_6 (Nat.le_of_ble_eq_true rfl) (Nat.le_of_ble_eq_true rfl) rfl rfl ?_
  refine zr_iload_n dX1_precedes_7 rfl ?_
  refine zr_if_lt 34 dX1_precedes_8 (by decide) (fun h8 => ?_) (fun h8 => ?_)
  · refine zr_iconst (v := nI 1) dX1_precedes_34 (by decide) ?_
    refine zr_goto 39 dX1_precedes_35 (by decide) ?_
    refine zr_zret dX1_precedes_39 rfl (Or.inr rfl) ?_
    first
      | exact Or.inl ⟨Or.inl (ho1.mp h8), rfl, rfl⟩
      | exact Or.inl ⟨Or.inr ⟨ho2.mp (by first | exact h12 | exact Decidable.not_not.mp h12), h31⟩, rfl, rfl⟩
      | exact Or.inr ⟨fun z => z.elim (fun z => h8 (ho1.mpr z)) (fun z => h12 (ho2.mpr z.1)), rfl, rfl⟩
      | exact Or.inr ⟨fun z => z.elim (fun z => h8 (ho1.mpr z)) (fun z => absurd z.2 (Nat.not_lt.mpr h31)), rfl, rfl⟩
  · refine zr_iload_n dX1_precedes_11 rfl ?_
    refine zr_if_ne 38 dX1_precedes_12 (by decide) (fun h12 => ?_) (fun h12 => ?_)
    · refine zr_iconst (v := nI 0) dX1_precedes_38 (by decide) ?_
      refine zr_zret dX1_precedes_39 rfl (Or.inl rfl) ?_
      first
        | exact Or.inl ⟨Or.inl (ho1.mp h8), rfl, rfl⟩
        | exact Or.inl ⟨Or.inr ⟨ho2.mp (by first | exact h12 | exact Decidable.not_not.mp h12), h31⟩, rfl, rfl⟩
        | exact Or.inr ⟨fun z => z.elim (fun z => h8 (ho1.mpr z)) (fun z => h12 (ho2.mpr z.1)), rfl, rfl⟩
        | exact Or.inr ⟨fun z => z.elim (fun z => h8 (ho1.mpr z)) (fun z => absurd z.2 (Nat.not_lt.mpr h31)), rfl, rfl⟩
    · refine zr_aload_n dX1_precedes_15 rfl ?_
      refine zr_iload_n dX1_precedes_16 rfl ?_
      refine zr_iconst (v := nI 4) dX1_precedes_17 (by decide) ?_
      refine zr_iaddN dX1_precedes_18 ?_
      refine zr_iconst (v := nI 4) dX1_precedes_19 (by decide) ?_
      refine zr_callV (md' := mX1_number) (As := [.int (nI (p + 4)), .int (nI 4)]) dX1_precedes_20 mlX1_75 okX1_number rfl inX1_number slX1_number (by decide) hK rfl (by omega) (Nat.le_of_ble_eq_true rfl) hcb (c_Disk_number (d := d - 1) hcb hv (by omega) (by decide) hcp) (fun k M1 h => by cases h.1) (fun v M1 hq => ?_)
      obtain ⟨e0, e1⟩ := hq
      cases e0
      rw [e1]
      refine zr_aload_n dX1_precedes_23 rfl ?_
      refine zr_iload_n dX1_precedes_24 rfl ?_
      refine zr_iconst (v := nI 4) dX1_precedes_25 (by decide) ?_
      refine zr_iaddN dX1_precedes_26 ?_
      refine zr_iconst (v := nI 4) dX1_precedes_27 (by decide) ?_
      refine zr_callV (md' := mX1_number) (As := [.int (nI (q + 4)), .int (nI 4)]) dX1_precedes_28 mlX1_75 okX1_number rfl inX1_number slX1_number (by decide) hK rfl (by omega) (Nat.le_of_ble_eq_true rfl) hcb (c_Disk_number (d := d - 1) hcb hv (by omega) (by decide) hcq) (fun k M1 h => by cases h.1) (fun v M1 hq => ?_)
      obtain ⟨e0, e1⟩ := hq
      cases e0
      rw [e1]
      refine zr_icmp_leN 38 dX1_precedes_31 (by decide) hcp hcq (fun h31 => ?_) (fun h31 => ?_)
      · refine zr_iconst (v := nI 0) dX1_precedes_38 (by decide) ?_
        refine zr_zret dX1_precedes_39 rfl (Or.inl rfl) ?_
        first
          | exact Or.inl ⟨Or.inl (ho1.mp h8), rfl, rfl⟩
          | exact Or.inl ⟨Or.inr ⟨ho2.mp (by first | exact h12 | exact Decidable.not_not.mp h12), h31⟩, rfl, rfl⟩
          | exact Or.inr ⟨fun z => z.elim (fun z => h8 (ho1.mpr z)) (fun z => h12 (ho2.mpr z.1)), rfl, rfl⟩
          | exact Or.inr ⟨fun z => z.elim (fun z => h8 (ho1.mpr z)) (fun z => absurd z.2 (Nat.not_lt.mpr h31)), rfl, rfl⟩
      · refine zr_iconst (v := nI 1) dX1_precedes_34 (by decide) ?_
        refine zr_goto 39 dX1_precedes_35 (by decide) ?_
        refine zr_zret dX1_precedes_39 rfl (Or.inr rfl) ?_
        first
          | exact Or.inl ⟨Or.inl (ho1.mp h8), rfl, rfl⟩
          | exact Or.inl ⟨Or.inr ⟨ho2.mp (by first | exact h12 | exact Decidable.not_not.mp h12), h31⟩, rfl, rfl⟩
          | exact Or.inr ⟨fun z => z.elim (fun z => h8 (ho1.mpr z)) (fun z => h12 (ho2.mpr z.1)), rfl, rfl⟩
          | exact Or.inr ⟨fun z => z.elim (fun z => h8 (ho1.mpr z)) (fun z => absurd z.2 (Nat.not_lt.mpr h31)), rfl, rfl⟩
