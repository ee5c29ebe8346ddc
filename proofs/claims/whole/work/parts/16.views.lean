/-! ===== LsmStore$Views ===== -/
/-- a snapshot's number, as the row has it -/
def zvi (o : Option Nat) : Int32 := match o with
  | none => -1
  | some c => nI c
theorem zvi_none {o : Option Nat} (ho : ∀ c, o = some c → c < 2 ^ 31) : zvi o = -1 ↔ o = none := by
  cases o with
  | none => exact ⟨fun _ => rfl, fun _ => rfl⟩
  | some c => exact ⟨fun h => absurd h (znot (ho c rfl)), fun h => by cases h⟩
/-- the snapshots: where, and what is in each -/
def zVw (M : zM) (a b : Nat) (v : Nat → Option Nat) : Prop := zK M a = 10 ∧ zR M 288 a = some b ∧ zK M b = 15 ∧ zN M b = 8 ∧ (∀ i, i < 8 → zA M b i = zvi (v i)) ∧ ∀ i c, v i = some c → c < 2 ^ 31
theorem zi_ge {x : Int32} {n : Nat} (h : nI n ≤ x) (hn : n < 2 ^ 31) : (n : Int) ≤ x.toInt := by
  rw [Int32.le_iff_toInt_le, nI_toInt hn] at h
  exact h
theorem zi_le7 {x : Int32} (h : ¬ nI 8 ≤ x) : x ≤ nI 7 := by
  rw [Int32.le_iff_toInt_le, show (nI 8).toInt = 8 from by decide] at h
  rw [Int32.le_iff_toInt_le, show (nI 7).toInt = 7 from by decide]
  omega
set_option maxRecDepth 100000 in
set_option maxHeartbeats 4000000 in
theorem c_Views_has {G : zG} {d a b : Nat} {v : Nat → Option Nat} {s : Int32} {M : zM} (hcb : zC M ≤ 600128 ∧ zS M ≤ 7301098) (hv : zVw M a b v)  : zMet G mX9_has d [.ref a, .int s] M (fun o M' => M' = M ∧ ∃ r : Nat, o = .inl (some (.int (nI r))) ∧ r ≤ 1 ∧ (r = 1 ↔ ∃ j, s = nI j ∧ j < 8 ∧ v j ≠ none)) := by
  refine zMet_of (by decide +kernel) (Nat.le_of_ble_eq_true rfl) rfl hcb ?_
  show zw G mX9_has d _ _ _ 0 [some (.ref a), some (.int s)] [] M
  obtain ⟨hK, hR, hKb, hNb, hA, hc⟩ := id hv
  refine zr_iload_n dX9_has_0 rfl ?_
  refine zr_if_lt 24 dX9_has_1 (by decide) (fun h1 => ?_) (fun h1 => ?_)
  · refine zr_iconst (v := nI 0) dX9_has_24 (by decide) ?_
    refine zr_zret dX9_has_25 rfl (Or.inl rfl) ?_
    refine ⟨rfl, 0, rfl, by decide, ?_⟩
    first
      | (have z1 := zi_neg h1; constructor <;> intro z <;> (try omega); obtain ⟨j, e, z2, z3⟩ := z; rw [e, nI_toInt (by omega)] at z1; omega)
      | (have z1 := zi_ge h7 (by decide); constructor <;> intro z <;> (try omega); obtain ⟨j, e, z2, z3⟩ := z; rw [e, nI_toInt (by omega)] at z1; omega)
      | (constructor <;> intro z <;> (try omega); obtain ⟨j, e, z2, z3⟩ := z; rw [nI_eq (by omega) (by omega)] at e; rw [e] at h17; exact absurd ((zvi_none (hc j)).mp h17) z3)
      | exact ⟨fun _ => ⟨k, rfl, by omega, fun z => h17 ((zvi_none (hc k)).mpr z)⟩, fun _ => rfl⟩
  · refine zr_iload_n dX9_has_4 rfl ?_
    refine zr_bipush (v := nI 8) dX9_has_5 (by decide) ?_
    refine zr_icmp_ge 24 dX9_has_7 (by decide) (fun h7 => ?_) (fun h7 => ?_)
    · refine zr_iconst (v := nI 0) dX9_has_24 (by decide) ?_
      refine zr_zret dX9_has_25 rfl (Or.inl rfl) ?_
      refine ⟨rfl, 0, rfl, by decide, ?_⟩
      first
        | (have z1 := zi_neg h1; constructor <;> intro z <;> (try omega); obtain ⟨j, e, z2, z3⟩ := z; rw [e, nI_toInt (by omega)] at z1; omega)
        | (have z1 := zi_ge h7 (by decide); constructor <;> intro z <;> (try omega); obtain ⟨j, e, z2, z3⟩ := z; rw [e, nI_toInt (by omega)] at z1; omega)
        | (constructor <;> intro z <;> (try omega); obtain ⟨j, e, z2, z3⟩ := z; rw [nI_eq (by omega) (by omega)] at e; rw [e] at h17; exact absurd ((zvi_none (hc j)).mp h17) z3)
        | exact ⟨fun _ => ⟨k, rfl, by omega, fun z => h17 ((zvi_none (hc k)).mpr z)⟩, fun _ => rfl⟩
    · obtain ⟨k, hk8, rfl⟩ := nI_of2 (n := 7) (M := nI 7) (by decide) h1 (zi_le7 h7)
      refine zr_aload_n dX9_has_10 rfl ?_
      refine zr_getR dX9_has_11 lkX9_9 (by decide) (by decide) rfl hK hR ?_
      refine zr_iload_n dX9_has_14 rfl ?_
      refine zr_ialdN dX9_has_15 hKb hNb (by omega) (by omega) ?_
      refine zr_as (y := (zvi (v k))) (hA k (by omega)) ?_
      refine zr_iconst (v := -1) dX9_has_16 (by decide) ?_
      refine zr_icmp_eq 24 dX9_has_17 (by decide) (fun h17 => ?_) (fun h17 => ?_)
      · refine zr_iconst (v := nI 0) dX9_has_24 (by decide) ?_
        refine zr_zret dX9_has_25 rfl (Or.inl rfl) ?_
        refine ⟨rfl, 0, rfl, by decide, ?_⟩
        first
          | (have z1 := zi_neg h1; constructor <;> intro z <;> (try omega); obtain ⟨j, e, z2, z3⟩ := z; rw [e, nI_toInt (by omega)] at z1; omega)
          | (have z1 := zi_ge h7 (by decide); constructor <;> intro z <;> (try omega); obtain ⟨j, e, z2, z3⟩ := z; rw [e, nI_toInt (by omega)] at z1; omega)
          | (constructor <;> intro z <;> (try omega); obtain ⟨j, e, z2, z3⟩ := z; rw [nI_eq (by omega) (by omega)] at e; rw [e] at h17; exact absurd ((zvi_none (hc j)).mp h17) z3)
          | exact ⟨fun _ => ⟨k, rfl, by omega, fun z => h17 ((zvi_none (hc k)).mpr z)⟩, fun _ => rfl⟩
      · refine zr_iconst (v := nI 1) dX9_has_20 (by decide) ?_
        refine zr_goto 25 dX9_has_21 (by decide) ?_
        refine zr_zret dX9_has_25 rfl (Or.inr rfl) ?_
        refine ⟨rfl, 1, rfl, by decide, ?_⟩
        first
          | (have z1 := zi_neg h1; constructor <;> intro z <;> (try omega); obtain ⟨j, e, z2, z3⟩ := z; rw [e, nI_toInt (by omega)] at z1; omega)
          | (have z1 := zi_ge h7 (by decide); constructor <;> intro z <;> (try omega); obtain ⟨j, e, z2, z3⟩ := z; rw [e, nI_toInt (by omega)] at z1; omega)
          | (constructor <;> intro z <;> (try omega); obtain ⟨j, e, z2, z3⟩ := z; rw [nI_eq (by omega) (by omega)] at e; rw [e] at h17; exact absurd ((zvi_none (hc j)).mp h17) z3)
          | exact ⟨fun _ => ⟨k, rfl, by omega, fun z => h17 ((zvi_none (hc k)).mpr z)⟩, fun _ => rfl⟩
set_option maxRecDepth 100000 in
set_option maxHeartbeats 4000000 in
theorem c_Views_drop {G : zG} {d a b j : Nat} {v : Nat → Option Nat} {M : zM} (hcb : zC M ≤ 600128 ∧ zS M ≤ 7301098) (hv : zVw M a b v) (hj : j < 8) : zMet G mX9_drop d [.ref a, .int (nI j)] M (fun o M' => o = .inl none ∧ M' = zsetA M b (upd (zA M b) j (-1))) := by
  refine zMet_of (by decide +kernel) (Nat.le_of_ble_eq_true rfl) rfl hcb ?_
  show zw G mX9_drop d _ _ _ 0 [some (.ref a), some (.int (nI j))] [] M
  obtain ⟨hK, hR, hKb, hNb, hA, hc⟩ := id hv
  refine zr_iload_n dX9_drop_0 rfl ?_
  refine zr_if_ltN 17 dX9_drop_1 (by decide) (by omega) ?_
  refine zr_iload_n dX9_drop_4 rfl ?_
  refine zr_bipush (v := nI 8) dX9_drop_5 (by decide) ?_
  refine zr_icmp_geN 17 dX9_drop_7 (by decide) (by omega) (by omega) (fun h7 => ?_) (fun h7 => ?_)
  · refine zr_vret dX9_drop_17 rfl ?_
    first | (exfalso; omega) | exact ⟨rfl, rfl⟩
  · refine zr_aload_n dX9_drop_10 rfl ?_
    refine zr_getR dX9_drop_11 lkX9_9 (by decide) (by decide) rfl hK hR ?_
    refine zr_iload_n dX9_drop_14 rfl ?_
    refine zr_iconst (v := -1) dX9_drop_15 (by decide) ?_
    refine zr_iastN dX9_drop_16 hKb hNb (by omega) (by omega) ?_
    refine zr_vret dX9_drop_17 rfl ?_
    first | (exfalso; omega) | exact ⟨rfl, rfl⟩
set_option maxRecDepth 100000 in
set_option maxHeartbeats 4000000 in
theorem l_Views_take {G : zG} {d k0 n0 a b c : Nat} {v : Nat → Option Nat} {M : zM} {Q : zOut → zM → Prop} (hv : zVw M a b v) (hno : (∀ i, i < 8 → v i ≠ none) → Q (.inl (some (.int (-1)))) M) (hyes : ∀ i, i < 8 → v i = none → (∀ j, j < i → v j ≠ none) → Q (.inl (some (.int (nI i)))) (zsetA M b (upd (zA M b) i (nI c)))) : ∀ (m i : Nat) , 8 - i = m → i ≤ 8 → (∀ j, j < i → v j ≠ none) → zw G mX9_take d k0 n0 Q 2 [some (.ref a), some (.int (nI c)), some (.int (nI i))] [] M := by
  intro m
  induction m using Nat.strongRecOn with
  | _ m ih =>
    intro i hm hi hall
    obtain ⟨hK, hR, hKb, hNb, hA, hc⟩ := id hv
    refine zr_iload_n dX9_take_2 rfl ?_
    refine zr_bipush (v := nI 8) dX9_take_3 (by decide) ?_
    refine zr_icmp_geN 33 dX9_take_5 (by decide) (by omega) (by omega) (fun h5 => ?_) (fun h5 => ?_)
    · refine zr_iconst (v := -1) dX9_take_33 (by decide) ?_
      refine zr_iret dX9_take_34 rfl ?_
      first | exact hno (fun j hj => hall j (by omega)) | exact hyes i (by omega) ((zvi_none (hc i)).mp h15) hall
    · refine zr_aload_n dX9_take_8 rfl ?_
      refine zr_getR dX9_take_9 lkX9_9 (by decide) (by decide) rfl hK hR ?_
      refine zr_iload_n dX9_take_12 rfl ?_
      refine zr_ialdN dX9_take_13 hKb hNb (by omega) (by omega) ?_
      refine zr_as (y := (zvi (v i))) (hA i (by omega)) ?_
      refine zr_iconst (v := -1) dX9_take_14 (by decide) ?_
      refine zr_icmp_ne 27 dX9_take_15 (by decide) (fun h15 => ?_) (fun h15 => ?_)
      · refine zr_iincN (n := 1) (lv' := [some (.ref a), some (.int (nI c)), some (.int (nI (i + 1)))]) dX9_take_27 (Nat.le_of_ble_eq_true rfl) (Nat.le_of_ble_eq_true rfl) rfl rfl rfl ?_
        refine zr_goto 2 dX9_take_30 (by decide) ?_
        exact ih _ (by omega) (i + 1) rfl (by omega) (fun j hj => (Nat.lt_or_ge j i).elim (fun z => hall j z) (fun z => by rw [show j = i by omega]; exact fun z => h15 ((zvi_none (hc i)).mpr z)))
      · refine zr_aload_n dX9_take_18 rfl ?_
        refine zr_getR dX9_take_19 lkX9_9 (by decide) (by decide) rfl hK hR ?_
        refine zr_iload_n dX9_take_22 rfl ?_
        refine zr_iload_n dX9_take_23 rfl ?_
        refine zr_iastN dX9_take_24 hKb hNb (by omega) (by omega) ?_
        refine zr_iload_n dX9_take_25 rfl ?_
        refine zr_iret dX9_take_26 rfl ?_
        first | exact hno (fun j hj => hall j (by omega)) | exact hyes i (by omega) ((zvi_none (hc i)).mp h15) hall
set_option maxRecDepth 100000 in
set_option maxHeartbeats 4000000 in
theorem c_Views_take {G : zG} {d a b c : Nat} {v : Nat → Option Nat} {M : zM} (hcb : zC M ≤ 600128 ∧ zS M ≤ 7301098) (hv : zVw M a b v)  : zMet G mX9_take d [.ref a, .int (nI c)] M (fun o M' => (∃ i, i < 8 ∧ v i = none ∧ (∀ j, j < i → v j ≠ none) ∧ o = .inl (some (.int (nI i))) ∧ M' = zsetA M b (upd (zA M b) i (nI c))) ∨ ((∀ i, i < 8 → v i ≠ none) ∧ o = .inl (some (.int (-1))) ∧ M' = M)) := by
  refine zMet_of (by decide +kernel) (Nat.le_of_ble_eq_true rfl) rfl hcb ?_
  show zw G mX9_take d _ _ _ 0 [some (.ref a), some (.int (nI c)), none] [] M
  obtain ⟨hK, hR, hKb, hNb, hA, hc⟩ := id hv
  refine zr_iconst (v := nI 0) dX9_take_0 (by decide) ?_
  refine zr_istore_n (lv' := [some (.ref a), some (.int (nI c)), some (.int (nI 0))]) dX9_take_1 (Nat.le_of_ble_eq_true rfl) (Nat.le_of_ble_eq_true rfl) rfl rfl ?_
  exact l_Views_take hv (fun h => Or.inr ⟨h, rfl, rfl⟩) (fun i h1 h2 h3 => Or.inl ⟨i, h1, h2, h3, rfl, rfl⟩) _ 0 rfl (by omega) (fun j hj => by omega)
def zclr (f : Nat → Int32) (i : Nat) : Nat → Int32 := fun j => if j < i then -1 else f j
theorem zclr_step (f : Nat → Int32) (i : Nat) : upd (zclr f i) i (-1) = zclr f (i + 1) := by
  funext j
  unfold upd zclr
  by_cases e : j = i
  · rw [if_pos e, if_pos (by omega)]
  · rw [if_neg e]
    by_cases e2 : j < i
    · rw [if_pos e2, if_pos (by omega)]
    · rw [if_neg e2, if_neg (by omega)]
theorem zclr_0 (f : Nat → Int32) : zclr f 0 = f := by
  funext j
  unfold zclr
  rw [if_neg (by omega)]
set_option maxRecDepth 100000 in
set_option maxHeartbeats 4000000 in
theorem l_Views_clear {G : zG} {d k0 n0 a b : Nat} {v : Nat → Option Nat} {M : zM} {Q : zOut → zM → Prop} (hv : zVw M a b v) (hq : Q (.inl none) (zsetA M b (zclr (zA M b) 8))) : ∀ (m i : Nat) , 8 - i = m → i ≤ 8 → zw G mX9_clear d k0 n0 Q 2 [some (.ref a), some (.int (nI i))] [] (zsetA M b (zclr (zA M b) i)) := by
  intro m
  induction m using Nat.strongRecOn with
  | _ m ih =>
    intro i hm hi
    obtain ⟨hK, hR, hKb, hNb, hA, hc⟩ := id hv
    refine zr_iload_n dX9_clear_2 rfl ?_
    refine zr_bipush (v := nI 8) dX9_clear_3 (by decide) ?_
    refine zr_icmp_geN 21 dX9_clear_5 (by decide) (by omega) (by omega) (fun h5 => ?_) (fun h5 => ?_)
    · refine zr_vret dX9_clear_21 rfl ?_
      rw [show i = 8 by omega]
      exact hq
    · refine zr_aload_n dX9_clear_8 rfl ?_
      refine zr_getR dX9_clear_9 lkX9_9 (by decide) (by decide) rfl hK hR ?_
      refine zr_iload_n dX9_clear_12 rfl ?_
      refine zr_iconst (v := -1) dX9_clear_13 (by decide) ?_
      refine zr_iastN dX9_clear_14 hKb hNb (by omega) (by omega) ?_
      refine zr_iincN (n := 1) (lv' := [some (.ref a), some (.int (nI (i + 1)))]) dX9_clear_15 (Nat.le_of_ble_eq_true rfl) (Nat.le_of_ble_eq_true rfl) rfl rfl rfl ?_
      refine zr_goto 2 dX9_clear_18 (by decide) ?_
      refine zr_asM (M' := zsetA M b (zclr (zA M b) (i + 1))) (by rw [zsetA_hit, zclr_step, zsetA_setA]) ?_
      exact ih _ (by omega) (i + 1) rfl (by omega)
set_option maxRecDepth 100000 in
set_option maxHeartbeats 4000000 in
theorem c_Views_clear {G : zG} {d a b : Nat} {v : Nat → Option Nat} {M : zM} (hcb : zC M ≤ 600128 ∧ zS M ≤ 7301098) (hv : zVw M a b v)  : zMet G mX9_clear d [.ref a] M (fun o M' => o = .inl none ∧ M' = zsetA M b (zclr (zA M b) 8)) := by
  refine zMet_of (by decide +kernel) (Nat.le_of_ble_eq_true rfl) rfl hcb ?_
  show zw G mX9_clear d _ _ _ 0 [some (.ref a), none] [] M
  obtain ⟨hK, hR, hKb, hNb, hA, hc⟩ := id hv
  refine zr_iconst (v := nI 0) dX9_clear_0 (by decide) ?_
  refine zr_istore_n (lv' := [some (.ref a), some (.int (nI 0))]) dX9_clear_1 (Nat.le_of_ble_eq_true rfl) (Nat.le_of_ble_eq_true rfl) rfl rfl ?_
  refine zr_asM (M' := zsetA M b (zclr (zA M b) 0)) (by rw [zclr_0, zsetA_self rfl]) ?_
  exact l_Views_clear hv ⟨rfl, rfl⟩ _ 0 rfl (by omega)
theorem zvi_ge {o : Option Nat} {c : Nat} (ho : ∀ c, o = some c → c < 2 ^ 31) (hc : c < 2 ^ 31) (h : ¬ zvi o < nI c) : ∃ x, o = some x ∧ c ≤ x := by
  cases o with
  | none => exact absurd (show (-1 : Int32) < nI c from by rw [Int32.lt_iff_toInt_lt, nI_toInt hc, show (-1 : Int32).toInt = -1 from by decide]; omega) h
  | some x => exact ⟨x, rfl, Nat.not_lt.mp (fun z => h ((nI_ltI (ho x rfl) hc).mpr z))⟩
theorem zvi_lt {o : Option Nat} {c : Nat} (ho : ∀ c, o = some c → c < 2 ^ 31) (hc : c < 2 ^ 31) (h : zvi o < nI c) : ∀ x, o = some x → x < c := by
  intro x e
  rw [e] at h
  exact (nI_ltI (ho x e) hc).mp h
set_option maxRecDepth 100000 in
set_option maxHeartbeats 4000000 in
theorem l_Views_see {G : zG} {d k0 n0 a b c c2 : Nat} {v : Nat → Option Nat} {M : zM} {Q : zOut → zM → Prop} (hv : zVw M a b v) (h1 : c < 2 ^ 31) (h2 : c2 < 2 ^ 31) (hno : (∀ j, j < 8 → ∀ x, v j = some x → ¬ (c ≤ x ∧ x < c2)) → Q (.inl (some (.int (nI 0)))) M) (hyes : (∃ j, j < 8 ∧ ∃ x, v j = some x ∧ c ≤ x ∧ x < c2) → Q (.inl (some (.int (nI 1)))) M) : ∀ (m i : Nat) , 8 - i = m → i ≤ 8 → (∀ j, j < i → ∀ x, v j = some x → ¬ (c ≤ x ∧ x < c2)) → zw G mX9_see d k0 n0 Q 2 [some (.ref a), some (.int (nI c)), some (.int (nI c2)), some (.int (nI i))] [] M := by
  intro m
  induction m using Nat.strongRecOn with
  | _ m ih =>
    intro i hm hi hall
    obtain ⟨hK, hR, hKb, hNb, hA, hc⟩ := id hv
    refine zr_iload_n dX9_see_2 rfl ?_
    refine zr_bipush (v := nI 8) dX9_see_3 (by decide) ?_
    refine zr_icmp_geN 36 dX9_see_5 (by decide) (by omega) (by omega) (fun h5 => ?_) (fun h5 => ?_)
    · refine zr_iconst (v := nI 0) dX9_see_36 (by decide) ?_
      refine zr_zret dX9_see_37 rfl (Or.inl rfl) ?_
      first
        | exact hno (fun j hj x hx => hall j (by omega) x hx)
        | (obtain ⟨x, e, z1⟩ := zvi_ge (hc i) (by omega) h15; exact hyes ⟨i, by omega, x, e, z1, zvi_lt (hc i) (by omega) (Int32.not_le.mp h25) x e⟩)
    · refine zr_aload_n dX9_see_8 rfl ?_
      refine zr_getR dX9_see_9 lkX9_9 (by decide) (by decide) rfl hK hR ?_
      refine zr_iload_n dX9_see_12 rfl ?_
      refine zr_ialdN dX9_see_13 hKb hNb (by omega) (by omega) ?_
      refine zr_as (y := (zvi (v i))) (hA i (by omega)) ?_
      refine zr_iload_n dX9_see_14 rfl ?_
      refine zr_icmp_lt 30 dX9_see_15 (by decide) (fun h15 => ?_) (fun h15 => ?_)
      · refine zr_iincN (n := 1) (lv' := [some (.ref a), some (.int (nI c)), some (.int (nI c2)), some (.int (nI (i + 1)))]) dX9_see_30 (Nat.le_of_ble_eq_true rfl) (Nat.le_of_ble_eq_true rfl) rfl rfl rfl ?_
        refine zr_goto 2 dX9_see_33 (by decide) ?_
        refine ih _ (by omega) (i + 1) rfl (by omega) (fun j hj x hx => ?_)
        rcases Nat.lt_or_ge j i with z | z
        · exact hall j z x hx
        · rw [show j = i by omega] at hx
          first
            | (have z1 := zvi_lt (hc i) (by omega) h15 x hx; omega)
            | (obtain ⟨y, e, z1⟩ := zvi_ge (hc i) (by omega) (Int32.not_lt.mpr h25); rw [hx] at e; cases e; omega)
      · refine zr_aload_n dX9_see_18 rfl ?_
        refine zr_getR dX9_see_19 lkX9_9 (by decide) (by decide) rfl hK hR ?_
        refine zr_iload_n dX9_see_22 rfl ?_
        refine zr_ialdN dX9_see_23 hKb hNb (by omega) (by omega) ?_
        refine zr_as (y := (zvi (v i))) (hA i (by omega)) ?_
        refine zr_iload_n dX9_see_24 rfl ?_
        refine zr_icmp_ge 30 dX9_see_25 (by decide) (fun h25 => ?_) (fun h25 => ?_)
        · refine zr_iincN (n := 1) (lv' := [some (.ref a), some (.int (nI c)), some (.int (nI c2)), some (.int (nI (i + 1)))]) dX9_see_30 (Nat.le_of_ble_eq_true rfl) (Nat.le_of_ble_eq_true rfl) rfl rfl rfl ?_
          refine zr_goto 2 dX9_see_33 (by decide) ?_
          refine ih _ (by omega) (i + 1) rfl (by omega) (fun j hj x hx => ?_)
          rcases Nat.lt_or_ge j i with z | z
          · exact hall j z x hx
          · rw [show j = i by omega] at hx
            first
              | (have z1 := zvi_lt (hc i) (by omega) h15 x hx; omega)
              | (obtain ⟨y, e, z1⟩ := zvi_ge (hc i) (by omega) (Int32.not_lt.mpr h25); rw [hx] at e; cases e; omega)
        · refine zr_iconst (v := nI 1) dX9_see_28 (by decide) ?_
          refine zr_zret dX9_see_29 rfl (Or.inr rfl) ?_
          first
            | exact hno (fun j hj x hx => hall j (by omega) x hx)
            | (obtain ⟨x, e, z1⟩ := zvi_ge (hc i) (by omega) h15; exact hyes ⟨i, by omega, x, e, z1, zvi_lt (hc i) (by omega) (Int32.not_le.mp h25) x e⟩)
set_option maxRecDepth 100000 in
set_option maxHeartbeats 4000000 in
theorem c_Views_see {G : zG} {d a b c c2 : Nat} {v : Nat → Option Nat} {M : zM} (hcb : zC M ≤ 600128 ∧ zS M ≤ 7301098) (hv : zVw M a b v) (h1 : c < 2 ^ 31) (h2 : c2 < 2 ^ 31) : zMet G mX9_see d [.ref a, .int (nI c), .int (nI c2)] M (fun o M' => ((∃ j, j < 8 ∧ ∃ x, v j = some x ∧ c ≤ x ∧ x < c2) ∧ o = .inl (some (.int (nI 1))) ∧ M' = M) ∨ ((∀ j, j < 8 → ∀ x, v j = some x → ¬ (c ≤ x ∧ x < c2)) ∧ o = .inl (some (.int (nI 0))) ∧ M' = M)) := by
  refine zMet_of (by decide +kernel) (Nat.le_of_ble_eq_true rfl) rfl hcb ?_
  show zw G mX9_see d _ _ _ 0 [some (.ref a), some (.int (nI c)), some (.int (nI c2)), none] [] M
  obtain ⟨hK, hR, hKb, hNb, hA, hc⟩ := id hv
  refine zr_iconst (v := nI 0) dX9_see_0 (by decide) ?_
  refine zr_istore_n (lv' := [some (.ref a), some (.int (nI c)), some (.int (nI c2)), some (.int (nI 0))]) dX9_see_1 (Nat.le_of_ble_eq_true rfl) (Nat.le_of_ble_eq_true rfl) rfl rfl ?_
  exact l_Views_see hv h1 h2 (fun h => Or.inr ⟨h, rfl, rfl⟩) (fun h => Or.inl ⟨h, rfl, rfl⟩) _ 0 rfl (by omega) (fun j hj => by omega)
