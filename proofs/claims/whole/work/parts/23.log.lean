/-! ===== sorted runs of entries; what LsmStore$Log reads ===== -/
/-- two places of a sorted list -/
theorem pw_get {α : Type} {R : α → α → Prop} : ∀ {l : List α} {i j : Nat} {p q : α}, l.Pairwise R → i < j → l[i]? = some p → l[j]? = some q → R p q
  | [], i, j, p, q, _, _, h, _ => by simp at h
  | x :: l, 0, j + 1, p, q, h, _, hi, hj => by
    rw [List.pairwise_cons] at h
    simp at hi hj
    rw [← hi]; exact h.1 q (List.mem_of_getElem? hj)
  | x :: l, i + 1, j + 1, p, q, h, hij, hi, hj => by
    rw [List.pairwise_cons] at h
    rw [List.getElem?_cons_succ] at hi hj
    exact pw_get h.2 (by omega) hi hj
/-- of the entries E those before (k, v) are the first n -/
def spn (D : Nat → Int32) (E : List Nat) (k : List Nat) (v n : Nat) : Prop := n ≤ E.length ∧ ∀ (i p : Nat), E[i]? = some p → (bef D p k v ↔ i < n)
/-- x is the version of the key k that the view v sees in E -/
def Hit (D : Nat → Int32) (E : List Nat) (k : List Nat) (v : Nat) (x : Option Nat) : Prop := (∀ p, x = some p → p ∈ E ∧ eky D p = k ∧ ecm D p ≤ v ∧ ∀ q ∈ E, eky D q = k → ecm D q ≤ v → ecm D q ≤ ecm D p) ∧ (x = none → ∀ q ∈ E, eky D q = k → v < ecm D q)
/-- x is the first entry of E that is not before (k, v); x is the last that is -/
def Frm (D : Nat → Int32) (E : List Nat) (k : List Nat) (v : Nat) (x : Option Nat) : Prop := (∀ p, x = some p → p ∈ E ∧ ¬ bef D p k v ∧ ∀ q ∈ E, ¬ bef D q k v → q = p ∨ pre D p q) ∧ (x = none → ∀ q ∈ E, bef D q k v)
def Lst (D : Nat → Int32) (E : List Nat) (k : List Nat) (v : Nat) (x : Option Nat) : Prop := (∀ p, x = some p → p ∈ E ∧ bef D p k v ∧ ∀ q ∈ E, bef D q k v → q = p ∨ pre D q p) ∧ (x = none → ∀ q ∈ E, ¬ bef D q k v)
theorem spn.frm {D : Nat → Int32} {E : List Nat} {k : List Nat} {v n : Nat} (hs : E.Pairwise (pre D)) (h : spn D E k v n) : Frm D E k v E[n]? := by
  refine ⟨fun p hp => ⟨List.mem_of_getElem? hp, fun z => absurd ((h.2 n p hp).mp z) (Nat.lt_irrefl _), fun q hq hb => ?_⟩, fun hn q hq => ?_⟩
  · obtain ⟨j, hj⟩ := List.getElem?_of_mem hq
    have h1 : ¬ j < n := fun z => hb ((h.2 j q hj).mpr z)
    rcases Nat.lt_or_ge n j with h2 | h2
    · exact Or.inr (pw_get hs h2 hp hj)
    · rw [show j = n by omega, hp] at hj; exact Or.inl (Option.some.inj hj).symm
  · obtain ⟨j, hj⟩ := List.getElem?_of_mem hq
    have h1 := (List.getElem?_eq_some_iff.mp hj).1
    have h2 := List.getElem?_eq_none_iff.mp hn
    exact (h.2 j q hj).mpr (by omega)
theorem spn.lst {D : Nat → Int32} {E : List Nat} {k : List Nat} {v n : Nat} (hs : E.Pairwise (pre D)) (h : spn D E k v n) : Lst D E k v (if n = 0 then none else E[n - 1]?) := by
  by_cases h0 : n = 0
  · rw [if_pos h0]
    refine ⟨fun p hp => (by cases hp), fun _ q hq hb => ?_⟩
    obtain ⟨j, hj⟩ := List.getElem?_of_mem hq
    have := (h.2 j q hj).mp hb
    omega
  · rw [if_neg h0]
    refine ⟨fun p hp => ⟨List.mem_of_getElem? hp, (h.2 _ p hp).mpr (by omega), fun q hq hb => ?_⟩, fun hn => ?_⟩
    · obtain ⟨j, hj⟩ := List.getElem?_of_mem hq
      have h1 := (h.2 j q hj).mp hb
      rcases Nat.lt_or_ge j (n - 1) with h2 | h2
      · exact Or.inr (pw_get hs h2 hj hp)
      · rw [show j = n - 1 by omega, hp] at hj; exact Or.inl (Option.some.inj hj).symm
    · have h2 := List.getElem?_eq_none_iff.mp hn
      have := h.1
      omega
/-- the first that is not before (k, v), if it has the key, is what the view sees -/
theorem Frm.hit {D : Nat → Int32} {E : List Nat} {k : List Nat} {v : Nat} {x : Option Nat} (h : Frm D E k v x) : (∀ p, x = some p → eky D p = k → Hit D E k v x) ∧ ((∀ p, x = some p → eky D p ≠ k) → Hit D E k v none) := by
  constructor
  · intro p hp hk
    obtain ⟨h1, h2, h3⟩ := h.1 p hp
    refine ⟨fun p' hp' => ?_, fun hn => by rw [hn] at hp; cases hp⟩
    rw [hp] at hp'; cases hp'
    refine ⟨h1, hk, Nat.not_lt.mp (fun z => h2 (Or.inr ⟨hk, z⟩)), fun q hq hqk hqv => ?_⟩
    have hb : ¬ bef D q k v := by
      rintro (z | ⟨-, z⟩)
      · rw [hqk] at z; exact klt_irrefl _ z
      · omega
    rcases h3 q hq hb with rfl | z | ⟨-, z⟩
    · exact Nat.le_refl _
    · rw [hk, hqk] at z; exact absurd z (klt_irrefl _)
    · omega
  · intro hne
    refine ⟨fun p hp => (by cases hp), fun _ q hq hqk => ?_⟩
    rcases Nat.lt_or_ge v (ecm D q) with z | z
    · exact z
    · exfalso
      have hb : ¬ bef D q k v := by
        rintro (z1 | ⟨-, z1⟩)
        · rw [hqk] at z1; exact klt_irrefl _ z1
        · omega
      cases hx : x with
      | none => exact hb (h.2 hx q hq)
      | some p =>
        obtain ⟨h1, h2, h3⟩ := h.1 p hx
        have h4 := hne p hx
        rcases klt_tri (eky D p) k with e | e | e
        · exact h2 (Or.inl e)
        · exact h4 e
        · rcases h3 q hq hb with rfl | z2 | ⟨z2, -⟩
          · exact h4 hqk
          · rw [hqk] at z2; exact klt_irrefl _ (klt_trans _ _ _ e z2)
          · exact h4 (z2.trans hqk)
/-- entries that can be read: where they lie, their numbers -/
def Eb (D : Nat → Int32) (E : List Nat) : Prop := ∀ p ∈ E, p < 303096 ∧ ecm D p < 2 ^ 31
/-- the log's entries in order -/
def Lg (ad : Nat → Nat) (M : zM) (E : List Nat) : Prop := zI M 162 (ad 15) = nI E.length ∧ E.length ≤ 2048 ∧ ∀ (i p : Nat), E[i]? = some p → zA M (ad 16) i = nI p
theorem c_Disk_hasKeyT {G : zG} {d a b p r rc len cap : Nat} {M : zM} (hcb : zC M ≤ 600128 ∧ zS M ≤ 7301098) (hv : zDk M a b) (hw : zRw M r rc len cap) (hp : p < 303104) : zMet G mX1_hasKey d [.ref a, .int (nI p), .ref r] M (fun o M' => M' = M ∧ ∃ t : Nat, t ≤ 1 ∧ o = .inl (some (.int (nI t))) ∧ (t = 1 ↔ eky (zA M b) p = rwl (zA M rc) len)) :=
  (c_Disk_hasKey hcb hv hw hp).mono (fun o M' h => by
    rcases h with ⟨h, h1, h2⟩ | ⟨h, h1, h2⟩
    · exact ⟨h2, 1, by decide, h1, fun _ => h, fun _ => rfl⟩
    · exact ⟨h2, 0, by decide, h1, fun z => absurd z (by decide), fun z => absurd z h⟩)
theorem c_Disk_precedesT {G : zG} {d a b p q : Nat} {M : zM} (hd : 1 ≤ d) (hcb : zC M ≤ 600128 ∧ zS M ≤ 7301098) (hv : zDk M a b) (hp : p < 303096) (hq : q < 303096) (hcp : ecm (zA M b) p < 2 ^ 31) (hcq : ecm (zA M b) q < 2 ^ 31) : zMet G mX1_precedes d [.ref a, .int (nI p), .int (nI q)] M (fun o M' => M' = M ∧ ∃ t : Nat, t ≤ 1 ∧ o = .inl (some (.int (nI t))) ∧ (t = 1 ↔ pre (zA M b) p q)) :=
  (c_Disk_precedes hd hcb hv hp hq hcp hcq).mono (fun o M' h => by
    rcases h with ⟨h, h1, h2⟩ | ⟨h, h1, h2⟩
    · exact ⟨h2, 1, by decide, h1, fun _ => h, fun _ => rfl⟩
    · exact ⟨h2, 0, by decide, h1, fun z => absurd z (by decide), fun z => absurd z h⟩)
/-- the next entry of the block -/
def nib (D : Nat → Int32) (p : Nat) : Option Nat := if (p + eln D p) / 512 = p / 512 ∧ D (p + eln D p) ≠ 0 then some (p + eln D p) else none
theorem c_Disk_nextT {G : zG} {d a b p : Nat} {M : zM} (hcb : zC M ≤ 600128 ∧ zS M ≤ 7301098) (hv : zDk M a b) (hp : p < 303104) : zMet G mX1_nextInBlock d [.ref a, .int (nI p)] M (fun o M' => o = .inl (some (.int (zvi (nib (zA M b) p)))) ∧ M' = M) :=
  (c_Disk_nextInBlock hcb hv hp).mono (fun o M' h => by
    unfold nib
    rcases h with ⟨h, h1, h2, h3⟩ | ⟨h, h1, h2⟩
    · rw [if_pos ⟨h, h1⟩]; exact ⟨h2, h3⟩
    · rw [if_neg h]; exact ⟨h1, h2⟩)
set_option maxRecDepth 100000 in
set_option maxHeartbeats 4000000 in
theorem l_Log_countBefore {G : zG} {ad : Nat → Nat} {d k0 n0 v r rc len cap : Nat} {E : List Nat} {M : zM} {Q : zOut → zM → Prop} (hd : 2 ≤ d) (hcb : zC M ≤ 600128 ∧ zS M ≤ 7301098) (hL : Lay ad M) (hG : Lg ad M E) (hE : Eb (zA M (ad 2)) E) (hs : E.Pairwise (pre (zA M (ad 2)))) (hw : zRw M r rc len cap) (hvb : v < 2 ^ 31) (hq : ∀ n : Nat, spn (zA M (ad 2)) E (rwl (zA M rc) len) v n → Q (.inl (some (.int (nI n)))) M) : ∀ (m lo hi i : Nat), hi - lo = m → lo ≤ hi → hi ≤ E.length → i + (hi - lo) ≤ 2048 → (∀ j q, j < lo → E[j]? = some q → bef (zA M (ad 2)) q (rwl (zA M rc) len) v) → (∀ j q, hi ≤ j → E[j]? = some q → ¬ bef (zA M (ad 2)) q (rwl (zA M rc) len) v) → zw G mX5_countBefore d k0 n0 Q 11 [some (.ref ((ad 15))), some (.ref r), some (.int (nI v)), some (.int (nI lo)), some (.int (nI hi)), some (.int (nI i)), none] [] M := by
  intro m
  induction m using Nat.strongRecOn with
  | _ m ih =>
    intro lo hi i hm h1 h2 h3 hlo hhi
    obtain ⟨hg1, hg2, hg3⟩ := id hG
    obtain ⟨gK, gR, gKb, gNb, gI, gl, gc⟩ := id hw
    refine zr_iload dX5_countBefore_11 rfl ?_
    refine zr_sipush (v := nI 2048) dX5_countBefore_13 (by decide) ?_
    refine zr_icmp_geN 70 dX5_countBefore_16 (by decide) (by omega) (by omega) (fun h16 => ?_) (fun h16 => ?_)
    · refine zr_iload_n dX5_countBefore_70 rfl ?_
      refine zr_iret dX5_countBefore_71 rfl ?_
      have e9 : lo = hi := by omega
      subst e9
      exact hq lo ⟨by omega, fun j q hjq => ⟨fun z => Nat.not_le.mp (fun y => hhi j q y hjq z), fun z => hlo j q z hjq⟩⟩
    · refine zr_iload_n dX5_countBefore_19 rfl ?_
      refine zr_iload dX5_countBefore_20 rfl ?_
      refine zr_icmp_geN 70 dX5_countBefore_22 (by decide) (by omega) (by omega) (fun h22 => ?_) (fun h22 => ?_)
      · refine zr_iload_n dX5_countBefore_70 rfl ?_
        refine zr_iret dX5_countBefore_71 rfl ?_
        have e9 : lo = hi := by omega
        subst e9
        exact hq lo ⟨by omega, fun j q hjq => ⟨fun z => Nat.not_le.mp (fun y => hhi j q y hjq z), fun z => hlo j q z hjq⟩⟩
      · refine zr_iload_n dX5_countBefore_25 rfl ?_
        refine zr_iload dX5_countBefore_26 rfl ?_
        refine zr_iaddN dX5_countBefore_28 ?_
        refine zr_iconst (v := nI 2) dX5_countBefore_29 (by decide) ?_
        refine zr_idivN dX5_countBefore_30 (by omega) (by omega) (by omega) ?_
        refine zr_istore (lv' := [some (.ref ((ad 15))), some (.ref r), some (.int (nI v)), some (.int (nI lo)), some (.int (nI hi)), some (.int (nI i)), some (.int (nI ((lo + hi) / 2)))]) dX5_countBefore_31 (Nat.le_of_ble_eq_true rfl) (Nat.le_of_ble_eq_true rfl) rfl rfl ?_
        obtain ⟨p, hp⟩ : ∃ p, E[(lo + hi) / 2]? = some p := ⟨_, List.getElem?_eq_getElem (by omega)⟩
        refine zr_aload_n dX5_countBefore_33 rfl ?_
        refine zr_getR dX5_countBefore_34 lkX5_15 (by decide) (by decide) rfl (hL.K 15 6) (hL.R 160 15 1) ?_
        refine zr_aload_n dX5_countBefore_37 rfl ?_
        refine zr_getR dX5_countBefore_38 lkX5_9 (by decide) (by decide) rfl (hL.K 15 6) (hL.R 161 15 16) ?_
        refine zr_iload dX5_countBefore_41 rfl ?_
        refine zr_ialdN dX5_countBefore_43 (hL.K 16 15) (hL.N 16 2048) (by omega) (by omega) ?_
        refine zr_as (y := (nI p)) (hg3 _ p hp) ?_
        refine zr_aload_n dX5_countBefore_44 rfl ?_
        refine zr_iload_n dX5_countBefore_45 rfl ?_
        refine zr_callV (md' := mX1_isBefore) (As := [.int (nI p), .ref r, .int (nI v)]) dX5_countBefore_46 mlX5_102 okX1_isBefore rfl inX1_isBefore slX1_isBefore (by decide) (hL.K 1 2) rfl (by omega) (Nat.le_of_ble_eq_true rfl) hcb (c_Disk_isBefore (d := d - 1) (by omega) hcb hL.dk hw (hE p (List.mem_of_getElem? hp)).1 (hE p (List.mem_of_getElem? hp)).2 hvb) (fun k M1 h => by obtain ⟨-, t, -, h, -⟩ := h; cases h) (fun v M1 hq => ?_)
        obtain ⟨e1, t, ht, e0, htk⟩ := hq
        cases e0
        rw [e1]
        refine zr_if_eqN 60 dX5_countBefore_49 (by decide) (by omega) (fun h49 => ?_) (fun h49 => ?_)
        · refine zr_iload dX5_countBefore_60 rfl ?_
          refine zr_istore (lv' := [some (.ref ((ad 15))), some (.ref r), some (.int (nI v)), some (.int (nI lo)), some (.int (nI ((lo + hi) / 2))), some (.int (nI i)), some (.int (nI ((lo + hi) / 2)))]) dX5_countBefore_62 (Nat.le_of_ble_eq_true rfl) (Nat.le_of_ble_eq_true rfl) rfl rfl ?_
          refine zr_iincN (n := 1) (lv' := [some (.ref ((ad 15))), some (.ref r), some (.int (nI v)), some (.int (nI lo)), some (.int (nI ((lo + hi) / 2))), some (.int (nI (i + 1))), some (.int (nI ((lo + hi) / 2)))]) dX5_countBefore_64 (Nat.le_of_ble_eq_true rfl) (Nat.le_of_ble_eq_true rfl) rfl rfl rfl ?_
          refine zr_goto 11 dX5_countBefore_67 (by decide) ?_
          refine zr_drop 6 rfl ?_
          exact ih _ (by omega) lo (((lo + hi) / 2)) (i + 1) rfl (by omega) (by omega) (by omega) hlo (fun j q hj hjq => (Nat.lt_or_ge ((lo + hi) / 2) j).elim (fun y z => absurd (htk.mpr (bef_pre (pw_get hs y hp hjq) z)) (by omega)) (fun y => by rw [show j = (lo + hi) / 2 by omega, hp] at hjq; cases hjq; exact fun z => absurd (htk.mpr z) (by omega)))
        · refine zr_iload dX5_countBefore_52 rfl ?_
          refine zr_iconst (v := nI 1) dX5_countBefore_54 (by decide) ?_
          refine zr_iaddN dX5_countBefore_55 ?_
          refine zr_istore_n (lv' := [some (.ref ((ad 15))), some (.ref r), some (.int (nI v)), some (.int (nI (((lo + hi) / 2) + 1))), some (.int (nI hi)), some (.int (nI i)), some (.int (nI ((lo + hi) / 2)))]) dX5_countBefore_56 (Nat.le_of_ble_eq_true rfl) (Nat.le_of_ble_eq_true rfl) rfl rfl ?_
          refine zr_goto 64 dX5_countBefore_57 (by decide) ?_
          refine zr_iincN (n := 1) (lv' := [some (.ref ((ad 15))), some (.ref r), some (.int (nI v)), some (.int (nI (((lo + hi) / 2) + 1))), some (.int (nI hi)), some (.int (nI (i + 1))), some (.int (nI ((lo + hi) / 2)))]) dX5_countBefore_64 (Nat.le_of_ble_eq_true rfl) (Nat.le_of_ble_eq_true rfl) rfl rfl rfl ?_
          refine zr_goto 11 dX5_countBefore_67 (by decide) ?_
          refine zr_drop 6 rfl ?_
          exact ih _ (by omega) ((((lo + hi) / 2) + 1)) hi (i + 1) rfl (by omega) (by omega) (by omega) (fun j q hj hjq => (Nat.lt_or_ge j lo).elim (fun z => hlo j q z hjq) (fun z => (Nat.lt_or_ge j ((lo + hi) / 2)).elim (fun y => bef_pre (pw_get hs y hjq hp) (htk.mp (by omega))) (fun y => by rw [show j = (lo + hi) / 2 by omega, hp] at hjq; cases hjq; exact htk.mp (by omega)))) hhi
set_option maxRecDepth 100000 in
set_option maxHeartbeats 4000000 in
theorem c_Log_countBefore {G : zG} {ad : Nat → Nat} {d v r rc len cap : Nat} {E : List Nat} {M : zM} (hd : 2 ≤ d) (hcb : zC M ≤ 600128 ∧ zS M ≤ 7301098) (hL : Lay ad M) (hG : Lg ad M E) (hE : Eb (zA M (ad 2)) E) (hs : E.Pairwise (pre (zA M (ad 2)))) (hw : zRw M r rc len cap) (hvb : v < 2 ^ 31)  : zMet G mX5_countBefore d [.ref ((ad 15)), .ref r, .int (nI v)] M (fun o M' => M' = M ∧ ∃ n : Nat, o = .inl (some (.int (nI n))) ∧ spn (zA M (ad 2)) E (rwl (zA M rc) len) v n) := by
  refine zMet_of (by decide +kernel) (Nat.le_of_ble_eq_true rfl) rfl hcb ?_
  show zw G mX5_countBefore d _ _ _ 0 [some (.ref ((ad 15))), some (.ref r), some (.int (nI v)), none, none, none, none] [] M
  obtain ⟨hg1, hg2, hg3⟩ := id hG
  refine zr_iconst (v := nI 0) dX5_countBefore_0 (by decide) ?_
  refine zr_istore_n (lv' := [some (.ref ((ad 15))), some (.ref r), some (.int (nI v)), some (.int (nI 0)), none, none, none]) dX5_countBefore_1 (Nat.le_of_ble_eq_true rfl) (Nat.le_of_ble_eq_true rfl) rfl rfl ?_
  refine zr_aload_n dX5_countBefore_2 rfl ?_
  refine zr_getI dX5_countBefore_3 lkX5_31 (by decide) (by decide) rfl (hL.K 15 6) ?_
  refine zr_as (y := (nI E.length)) hg1 ?_
  refine zr_istore (lv' := [some (.ref ((ad 15))), some (.ref r), some (.int (nI v)), some (.int (nI 0)), some (.int (nI E.length)), none, none]) dX5_countBefore_6 (Nat.le_of_ble_eq_true rfl) (Nat.le_of_ble_eq_true rfl) rfl rfl ?_
  refine zr_iconst (v := nI 0) dX5_countBefore_8 (by decide) ?_
  refine zr_istore (lv' := [some (.ref ((ad 15))), some (.ref r), some (.int (nI v)), some (.int (nI 0)), some (.int (nI E.length)), some (.int (nI 0)), none]) dX5_countBefore_9 (Nat.le_of_ble_eq_true rfl) (Nat.le_of_ble_eq_true rfl) rfl rfl ?_
  exact l_Log_countBefore hd hcb hL hG hE hs hw hvb (fun n h => ⟨rfl, n, rfl, h⟩) _ 0 E.length 0 rfl (by omega) (by omega) (by omega) (fun j q h => by omega) (fun j q h hq => by have := (List.getElem?_eq_some_iff.mp hq).1; omega)
set_option maxRecDepth 100000 in
set_option maxHeartbeats 4000000 in
theorem c_Log_find {G : zG} {ad : Nat → Nat} {d v r rc len cap : Nat} {E : List Nat} {M : zM} (hd : 3 ≤ d) (hcb : zC M ≤ 600128 ∧ zS M ≤ 7301098) (hL : Lay ad M) (hG : Lg ad M E) (hE : Eb (zA M (ad 2)) E) (hs : E.Pairwise (pre (zA M (ad 2)))) (hw : zRw M r rc len cap) (hvb : v < 2 ^ 31)  : zMet G mX5_find d [.ref ((ad 15)), .ref r, .int (nI v)] M (fun o M' => M' = M ∧ ∃ x : Option Nat, o = .inl (some (.int (zvi x))) ∧ Hit (zA M (ad 2)) E (rwl (zA M rc) len) v x) := by
  refine zMet_of (by decide +kernel) (Nat.le_of_ble_eq_true rfl) rfl hcb ?_
  show zw G mX5_find d _ _ _ 0 [some (.ref ((ad 15))), some (.ref r), some (.int (nI v)), none] [] M
  obtain ⟨hg1, hg2, hg3⟩ := id hG
  obtain ⟨gK, gR, gKb, gNb, gI, gl, gc⟩ := id hw
  refine zr_aload_n dX5_find_0 rfl ?_
  refine zr_aload_n dX5_find_1 rfl ?_
  refine zr_iload_n dX5_find_2 rfl ?_
  refine zr_callV (md' := mX5_countBefore) (As := [.ref r, .int (nI v)]) dX5_find_3 mlX5_93 okX5_countBefore rfl inX5_countBefore slX5_countBefore (by decide) (hL.K 15 6) rfl (by omega) (Nat.le_of_ble_eq_true rfl) hcb (c_Log_countBefore (d := d - 1) (by omega) hcb hL hG hE hs hw hvb) (fun k M1 h => by obtain ⟨-, t, h, -⟩ := h; cases h) (fun v M1 hq => ?_)
  obtain ⟨e1, n, e0, hn⟩ := hq
  cases e0
  rw [e1]
  have hnl := hn.1
  refine zr_istore_n (lv' := [some (.ref ((ad 15))), some (.ref r), some (.int (nI v)), some (.int (nI n))]) dX5_find_6 (Nat.le_of_ble_eq_true rfl) (Nat.le_of_ble_eq_true rfl) rfl rfl ?_
  refine zr_iload_n dX5_find_7 rfl ?_
  refine zr_aload_n dX5_find_8 rfl ?_
  refine zr_getI dX5_find_9 lkX5_31 (by decide) (by decide) rfl (hL.K 15 6) ?_
  refine zr_as (y := (nI E.length)) hg1 ?_
  refine zr_icmp_geN 41 dX5_find_12 (by decide) (by omega) (by omega) (fun h12 => ?_) (fun h12 => ?_)
  · refine zr_iconst (v := -1) dX5_find_41 (by decide) ?_
    refine zr_iret dX5_find_42 rfl ?_
    have hF := hn.frm hs
    first
      | (rw [List.getElem?_eq_none_iff.mpr h12] at hF; exact ⟨rfl, none, rfl, hF.hit.2 (fun p hp => by cases hp)⟩)
      | (rw [hp] at hF; exact ⟨rfl, none, rfl, hF.hit.2 (fun p0 hp0 z => by cases hp0; exact absurd (htk.mpr z) (by omega))⟩)
  · obtain ⟨p, hp⟩ : ∃ p, E[n]? = some p := ⟨_, List.getElem?_eq_getElem (by omega)⟩
    refine zr_aload_n dX5_find_15 rfl ?_
    refine zr_getR dX5_find_16 lkX5_15 (by decide) (by decide) rfl (hL.K 15 6) (hL.R 160 15 1) ?_
    refine zr_aload_n dX5_find_19 rfl ?_
    refine zr_getR dX5_find_20 lkX5_9 (by decide) (by decide) rfl (hL.K 15 6) (hL.R 161 15 16) ?_
    refine zr_iload_n dX5_find_23 rfl ?_
    refine zr_ialdN dX5_find_24 (hL.K 16 15) (hL.N 16 2048) (by omega) (by omega) ?_
    refine zr_as (y := (nI p)) (hg3 _ p hp) ?_
    refine zr_aload_n dX5_find_25 rfl ?_
    refine zr_callV (md' := mX1_hasKey) (As := [.int (nI p), .ref r]) dX5_find_26 mlX5_97 okX1_hasKey rfl inX1_hasKey slX1_hasKey (by decide) (hL.K 1 2) rfl (by omega) (Nat.le_of_ble_eq_true rfl) hcb (c_Disk_hasKeyT (d := d - 1) hcb hL.dk hw (Nat.lt_trans (hE p (List.mem_of_getElem? hp)).1 (by decide))) (fun k M1 h => by obtain ⟨-, t, -, h, -⟩ := h; cases h) (fun v M1 hq => ?_)
    obtain ⟨e1, t, ht, e0, htk⟩ := hq
    cases e0
    rw [e1]
    refine zr_if_eqN 41 dX5_find_29 (by decide) (by omega) (fun h29 => ?_) (fun h29 => ?_)
    · refine zr_iconst (v := -1) dX5_find_41 (by decide) ?_
      refine zr_iret dX5_find_42 rfl ?_
      have hF := hn.frm hs
      first
        | (rw [List.getElem?_eq_none_iff.mpr h12] at hF; exact ⟨rfl, none, rfl, hF.hit.2 (fun p hp => by cases hp)⟩)
        | (rw [hp] at hF; exact ⟨rfl, none, rfl, hF.hit.2 (fun p0 hp0 z => by cases hp0; exact absurd (htk.mpr z) (by omega))⟩)
    · refine zr_aload_n dX5_find_32 rfl ?_
      refine zr_getR dX5_find_33 lkX5_9 (by decide) (by decide) rfl (hL.K 15 6) (hL.R 161 15 16) ?_
      refine zr_iload_n dX5_find_36 rfl ?_
      refine zr_ialdN dX5_find_37 (hL.K 16 15) (hL.N 16 2048) (by omega) (by omega) ?_
      refine zr_as (y := (nI p)) (hg3 _ p hp) ?_
      refine zr_goto 42 dX5_find_38 (by decide) ?_
      refine zr_iret dX5_find_42 rfl ?_
      have hF := hn.frm hs
      rw [hp] at hF
      exact ⟨rfl, some p, rfl, hF.hit.1 p rfl (htk.mp (by omega))⟩
set_option maxRecDepth 100000 in
set_option maxHeartbeats 4000000 in
theorem c_Log_from {G : zG} {ad : Nat → Nat} {d v r rc len cap : Nat} {E : List Nat} {M : zM} (hd : 3 ≤ d) (hcb : zC M ≤ 600128 ∧ zS M ≤ 7301098) (hL : Lay ad M) (hG : Lg ad M E) (hE : Eb (zA M (ad 2)) E) (hs : E.Pairwise (pre (zA M (ad 2)))) (hw : zRw M r rc len cap) (hvb : v < 2 ^ 31)  : zMet G mX5_from d [.ref ((ad 15)), .ref r, .int (nI v)] M (fun o M' => M' = M ∧ ∃ x : Option Nat, o = .inl (some (.int (zvi x))) ∧ Frm (zA M (ad 2)) E (rwl (zA M rc) len) v x) := by
  refine zMet_of (by decide +kernel) (Nat.le_of_ble_eq_true rfl) rfl hcb ?_
  show zw G mX5_from d _ _ _ 0 [some (.ref ((ad 15))), some (.ref r), some (.int (nI v)), none] [] M
  obtain ⟨hg1, hg2, hg3⟩ := id hG
  obtain ⟨gK, gR, gKb, gNb, gI, gl, gc⟩ := id hw
  refine zr_aload_n dX5_from_0 rfl ?_
  refine zr_aload_n dX5_from_1 rfl ?_
  refine zr_iload_n dX5_from_2 rfl ?_
  refine zr_callV (md' := mX5_countBefore) (As := [.ref r, .int (nI v)]) dX5_from_3 mlX5_93 okX5_countBefore rfl inX5_countBefore slX5_countBefore (by decide) (hL.K 15 6) rfl (by omega) (Nat.le_of_ble_eq_true rfl) hcb (c_Log_countBefore (d := d - 1) (by omega) hcb hL hG hE hs hw hvb) (fun k M1 h => by obtain ⟨-, t, h, -⟩ := h; cases h) (fun v M1 hq => ?_)
  obtain ⟨e1, n, e0, hn⟩ := hq
  cases e0
  rw [e1]
  have hnl := hn.1
  refine zr_istore_n (lv' := [some (.ref ((ad 15))), some (.ref r), some (.int (nI v)), some (.int (nI n))]) dX5_from_6 (Nat.le_of_ble_eq_true rfl) (Nat.le_of_ble_eq_true rfl) rfl rfl ?_
  refine zr_iload_n dX5_from_7 rfl ?_
  refine zr_aload_n dX5_from_8 rfl ?_
  refine zr_getI dX5_from_9 lkX5_31 (by decide) (by decide) rfl (hL.K 15 6) ?_
  refine zr_as (y := (nI E.length)) hg1 ?_
  refine zr_icmp_geN 24 dX5_from_12 (by decide) (by omega) (by omega) (fun h12 => ?_) (fun h12 => ?_)
  · refine zr_iconst (v := -1) dX5_from_24 (by decide) ?_
    refine zr_iret dX5_from_25 rfl ?_
    have hF := hn.frm hs
    rw [List.getElem?_eq_none_iff.mpr h12] at hF
    exact ⟨rfl, none, rfl, hF⟩
  · obtain ⟨p, hp⟩ : ∃ p, E[n]? = some p := ⟨_, List.getElem?_eq_getElem (by omega)⟩
    refine zr_aload_n dX5_from_15 rfl ?_
    refine zr_getR dX5_from_16 lkX5_9 (by decide) (by decide) rfl (hL.K 15 6) (hL.R 161 15 16) ?_
    refine zr_iload_n dX5_from_19 rfl ?_
    refine zr_ialdN dX5_from_20 (hL.K 16 15) (hL.N 16 2048) (by omega) (by omega) ?_
    refine zr_as (y := (nI p)) (hg3 _ p hp) ?_
    refine zr_goto 25 dX5_from_21 (by decide) ?_
    refine zr_iret dX5_from_25 rfl ?_
    have hF := hn.frm hs
    rw [hp] at hF
    exact ⟨rfl, some p, rfl, hF⟩
set_option maxRecDepth 100000 in
set_option maxHeartbeats 4000000 in
theorem c_Log_lastBefore {G : zG} {ad : Nat → Nat} {d r rc len cap : Nat} {E : List Nat} {M : zM} (hd : 3 ≤ d) (hcb : zC M ≤ 600128 ∧ zS M ≤ 7301098) (hL : Lay ad M) (hG : Lg ad M E) (hE : Eb (zA M (ad 2)) E) (hs : E.Pairwise (pre (zA M (ad 2)))) (hw : zRw M r rc len cap)  : zMet G mX5_lastBefore d [.ref ((ad 15)), .ref r] M (fun o M' => M' = M ∧ ∃ x : Option Nat, o = .inl (some (.int (zvi x))) ∧ Lst (zA M (ad 2)) E (rwl (zA M rc) len) 2147483647 x) := by
  refine zMet_of (by decide +kernel) (Nat.le_of_ble_eq_true rfl) rfl hcb ?_
  show zw G mX5_lastBefore d _ _ _ 0 [some (.ref ((ad 15))), some (.ref r), none] [] M
  obtain ⟨hg1, hg2, hg3⟩ := id hG
  obtain ⟨gK, gR, gKb, gNb, gI, gl, gc⟩ := id hw
  refine zr_aload_n dX5_lastBefore_0 rfl ?_
  refine zr_aload_n dX5_lastBefore_1 rfl ?_
  refine zr_ldc dX5_lastBefore_2 ctX5_101 ?_
  refine zr_as (y := nI 2147483647) (by decide) ?_
  refine zr_callV (md' := mX5_countBefore) (As := [.ref r, .int (nI 2147483647)]) dX5_lastBefore_4 mlX5_93 okX5_countBefore rfl inX5_countBefore slX5_countBefore (by decide) (hL.K 15 6) rfl (by omega) (Nat.le_of_ble_eq_true rfl) hcb (c_Log_countBefore (d := d - 1) (by omega) hcb hL hG hE hs hw (by decide)) (fun k M1 h => by obtain ⟨-, t, h, -⟩ := h; cases h) (fun v M1 hq => ?_)
  obtain ⟨e1, n, e0, hn⟩ := hq
  cases e0
  rw [e1]
  have hnl := hn.1
  refine zr_istore_n (lv' := [some (.ref ((ad 15))), some (.ref r), some (.int (nI n))]) dX5_lastBefore_7 (Nat.le_of_ble_eq_true rfl) (Nat.le_of_ble_eq_true rfl) rfl rfl ?_
  refine zr_iload_n dX5_lastBefore_8 rfl ?_
  refine zr_if_leN 23 dX5_lastBefore_9 (by decide) (by omega) (fun h9 => ?_) (fun h9 => ?_)
  · refine zr_iconst (v := -1) dX5_lastBefore_23 (by decide) ?_
    refine zr_iret dX5_lastBefore_24 rfl ?_
    have hF := hn.lst hs
    rw [if_pos (by omega)] at hF
    exact ⟨rfl, none, rfl, hF⟩
  · obtain ⟨p, hp⟩ : ∃ p, E[n - 1]? = some p := ⟨_, List.getElem?_eq_getElem (by omega)⟩
    refine zr_aload_n dX5_lastBefore_12 rfl ?_
    refine zr_getR dX5_lastBefore_13 lkX5_9 (by decide) (by decide) rfl (hL.K 15 6) (hL.R 161 15 16) ?_
    refine zr_iload_n dX5_lastBefore_16 rfl ?_
    refine zr_iconst (v := nI 1) dX5_lastBefore_17 (by decide) ?_
    refine zr_isubN dX5_lastBefore_18 (by omega) ?_
    refine zr_ialdN dX5_lastBefore_19 (hL.K 16 15) (hL.N 16 2048) (by omega) (by omega) ?_
    refine zr_as (y := (nI p)) (hg3 _ p hp) ?_
    refine zr_goto 24 dX5_lastBefore_20 (by decide) ?_
    refine zr_iret dX5_lastBefore_24 rfl ?_
    have hF := hn.lst hs
    rw [if_neg (by omega), hp] at hF
    exact ⟨rfl, some p, rfl, hF⟩
set_option maxRecDepth 100000 in
set_option maxHeartbeats 4000000 in
theorem c_Log_first {G : zG} {ad : Nat → Nat} {d : Nat} {E : List Nat} {M : zM} (hcb : zC M ≤ 600128 ∧ zS M ≤ 7301098) (hL : Lay ad M) (hG : Lg ad M E)  : zMet G mX5_first d [.ref ((ad 15))] M (fun o M' => o = .inl (some (.int (zvi E[0]?))) ∧ M' = M) := by
  refine zMet_of (by decide +kernel) (Nat.le_of_ble_eq_true rfl) rfl hcb ?_
  show zw G mX5_first d _ _ _ 0 [some (.ref ((ad 15)))] [] M
  obtain ⟨hg1, hg2, hg3⟩ := id hG
  refine zr_aload_n dX5_first_0 rfl ?_
  refine zr_getI dX5_first_1 lkX5_31 (by decide) (by decide) rfl (hL.K 15 6) ?_
  refine zr_as (y := (nI E.length)) hg1 ?_
  refine zr_if_leN 16 dX5_first_4 (by decide) (by omega) (fun h4 => ?_) (fun h4 => ?_)
  · refine zr_iconst (v := -1) dX5_first_16 (by decide) ?_
    refine zr_iret dX5_first_17 rfl ?_
    exact ⟨by rw [List.getElem?_eq_none_iff.mpr (by omega)]; rfl, rfl⟩
  · obtain ⟨p, hp⟩ : ∃ p, E[0]? = some p := ⟨_, List.getElem?_eq_getElem (by omega)⟩
    refine zr_aload_n dX5_first_7 rfl ?_
    refine zr_getR dX5_first_8 lkX5_9 (by decide) (by decide) rfl (hL.K 15 6) (hL.R 161 15 16) ?_
    refine zr_iconst (v := nI 0) dX5_first_11 (by decide) ?_
    refine zr_ialdN dX5_first_12 (hL.K 16 15) (hL.N 16 2048) (by omega) (by omega) ?_
    refine zr_as (y := (nI p)) (hg3 _ p hp) ?_
    refine zr_goto 17 dX5_first_13 (by decide) ?_
    refine zr_iret dX5_first_17 rfl ?_
    exact ⟨by rw [hp]; rfl, rfl⟩
set_option maxRecDepth 100000 in
set_option maxHeartbeats 4000000 in
theorem c_Log_last {G : zG} {ad : Nat → Nat} {d : Nat} {E : List Nat} {M : zM} (hcb : zC M ≤ 600128 ∧ zS M ≤ 7301098) (hL : Lay ad M) (hG : Lg ad M E)  : zMet G mX5_last d [.ref ((ad 15))] M (fun o M' => o = .inl (some (.int (zvi E[E.length - 1]?))) ∧ M' = M) := by
  refine zMet_of (by decide +kernel) (Nat.le_of_ble_eq_true rfl) rfl hcb ?_
  show zw G mX5_last d _ _ _ 0 [some (.ref ((ad 15)))] [] M
  obtain ⟨hg1, hg2, hg3⟩ := id hG
  refine zr_aload_n dX5_last_0 rfl ?_
  refine zr_getI dX5_last_1 lkX5_31 (by decide) (by decide) rfl (hL.K 15 6) ?_
  refine zr_as (y := (nI E.length)) hg1 ?_
  refine zr_if_leN 31 dX5_last_4 (by decide) (by omega) (fun h4 => ?_) (fun h4 => ?_)
  · refine zr_iconst (v := -1) dX5_last_31 (by decide) ?_
    refine zr_iret dX5_last_32 rfl ?_
    first | (exfalso; omega) | exact ⟨by rw [List.getElem?_eq_none_iff.mpr (by omega)]; rfl, rfl⟩
  · refine zr_aload_n dX5_last_7 rfl ?_
    refine zr_getI dX5_last_8 lkX5_31 (by decide) (by decide) rfl (hL.K 15 6) ?_
    refine zr_as (y := (nI E.length)) hg1 ?_
    refine zr_sipush (v := nI 2048) dX5_last_11 (by decide) ?_
    refine zr_icmp_gtN 31 dX5_last_14 (by decide) (by omega) (by omega) (fun h14 => ?_) (fun h14 => ?_)
    · refine zr_iconst (v := -1) dX5_last_31 (by decide) ?_
      refine zr_iret dX5_last_32 rfl ?_
      first | (exfalso; omega) | exact ⟨by rw [List.getElem?_eq_none_iff.mpr (by omega)]; rfl, rfl⟩
    · obtain ⟨p, hp⟩ : ∃ p, E[E.length - 1]? = some p := ⟨_, List.getElem?_eq_getElem (by omega)⟩
      refine zr_aload_n dX5_last_17 rfl ?_
      refine zr_getR dX5_last_18 lkX5_9 (by decide) (by decide) rfl (hL.K 15 6) (hL.R 161 15 16) ?_
      refine zr_aload_n dX5_last_21 rfl ?_
      refine zr_getI dX5_last_22 lkX5_31 (by decide) (by decide) rfl (hL.K 15 6) ?_
      refine zr_as (y := (nI E.length)) hg1 ?_
      refine zr_iconst (v := nI 1) dX5_last_25 (by decide) ?_
      refine zr_isubN dX5_last_26 (by omega) ?_
      refine zr_ialdN dX5_last_27 (hL.K 16 15) (hL.N 16 2048) (by omega) (by omega) ?_
      refine zr_as (y := (nI p)) (hg3 _ p hp) ?_
      refine zr_goto 32 dX5_last_28 (by decide) ?_
      refine zr_iret dX5_last_32 rfl ?_
      exact ⟨by rw [hp]; rfl, rfl⟩
set_option maxRecDepth 100000 in
set_option maxHeartbeats 4000000 in
theorem c_Log_other {G : zG} {ad : Nat → Nat} {d ar : Nat} {M : zM} (hcb : zC M ≤ 600128 ∧ zS M ≤ 7301098) (hL : Lay ad M) (ha : zI M 164 (ad 15) = nI ar) (har : ar ≤ 1)  : zMet G mX5_other d [.ref ((ad 15))] M (fun o M' => o = .inl (some (.int (nI (1 - ar)))) ∧ M' = M) := by
  refine zMet_of (by decide +kernel) (Nat.le_of_ble_eq_true rfl) rfl hcb ?_
  show zw G mX5_other d _ _ _ 0 [some (.ref ((ad 15)))] [] M
  refine zr_iconst (v := nI 1) dX5_other_0 (by decide) ?_
  refine zr_aload_n dX5_other_1 rfl ?_
  refine zr_getI dX5_other_2 lkX5_19 (by decide) (by decide) rfl (hL.K 15 6) ?_
  refine zr_as (y := (nI ar)) ha ?_
  refine zr_isubN dX5_other_5 (by omega) ?_
  refine zr_iret dX5_other_6 rfl ?_
  first | (exfalso; omega) | exact ⟨rfl, rfl⟩
set_option maxRecDepth 100000 in
set_option maxHeartbeats 4000000 in
theorem c_Log_hasRoom {G : zG} {ad : Nat → Nat} {d cn us st len : Nat} {M : zM} (hcb : zC M ≤ 600128 ∧ zS M ≤ 7301098) (hL : Lay ad M) (h1 : zI M 162 (ad 15) = nI cn) (h2 : zI M 163 (ad 15) = nI us) (h3 : zI M 2 (ad 10) = nI st) (h4 : zI M 3 (ad 10) = nI len) (b1 : cn ≤ 2048) (b2 : us ≤ 18432) (b3 : st ≤ 64) (b4 : len ≤ 15363)  : zMet G mX5_hasRoom d [.ref ((ad 15)), .ref ((ad 10))] M (fun o M' => M' = M ∧ ∃ t : Nat, t ≤ 1 ∧ o = .inl (some (.int (nI t))) ∧ (t = 1 ↔ us + len < 18432 ∧ cn + st ≤ 2048)) := by
  refine zMet_of (by decide +kernel) (Nat.le_of_ble_eq_true rfl) rfl hcb ?_
  show zw G mX5_hasRoom d _ _ _ 0 [some (.ref ((ad 15))), some (.ref ((ad 10)))] [] M
  refine zr_aload_n dX5_hasRoom_0 rfl ?_
  refine zr_getI dX5_hasRoom_1 lkX5_23 (by decide) (by decide) rfl (hL.K 15 6) ?_
  refine zr_as (y := (nI us)) h2 ?_
  refine zr_aload_n dX5_hasRoom_4 rfl ?_
  refine zr_getI dX5_hasRoom_5 lkX5_26 (by decide) (by decide) rfl (hL.K 10 1) ?_
  refine zr_as (y := (nI len)) h4 ?_
  refine zr_iaddN dX5_hasRoom_8 ?_
  refine zr_sipush (v := nI 18432) dX5_hasRoom_9 (by decide) ?_
  refine zr_icmp_geN 34 dX5_hasRoom_12 (by decide) (by omega) (by omega) (fun h12 => ?_) (fun h12 => ?_)
  · refine zr_iconst (v := nI 0) dX5_hasRoom_34 (by decide) ?_
    refine zr_zret dX5_hasRoom_35 rfl (Or.inl rfl) ?_
    exact ⟨rfl, 0, by decide, rfl, by omega⟩
  · refine zr_aload_n dX5_hasRoom_15 rfl ?_
    refine zr_getI dX5_hasRoom_16 lkX5_31 (by decide) (by decide) rfl (hL.K 15 6) ?_
    refine zr_as (y := (nI cn)) h1 ?_
    refine zr_aload_n dX5_hasRoom_19 rfl ?_
    refine zr_getI dX5_hasRoom_20 lkX5_34 (by decide) (by decide) rfl (hL.K 10 1) ?_
    refine zr_as (y := (nI st)) h3 ?_
    refine zr_iaddN dX5_hasRoom_23 ?_
    refine zr_sipush (v := nI 2048) dX5_hasRoom_24 (by decide) ?_
    refine zr_icmp_gtN 34 dX5_hasRoom_27 (by decide) (by omega) (by omega) (fun h27 => ?_) (fun h27 => ?_)
    · refine zr_iconst (v := nI 0) dX5_hasRoom_34 (by decide) ?_
      refine zr_zret dX5_hasRoom_35 rfl (Or.inl rfl) ?_
      exact ⟨rfl, 0, by decide, rfl, by omega⟩
    · refine zr_iconst (v := nI 1) dX5_hasRoom_30 (by decide) ?_
      refine zr_goto 35 dX5_hasRoom_31 (by decide) ?_
      refine zr_zret dX5_hasRoom_35 rfl (Or.inr rfl) ?_
      exact ⟨rfl, 1, by decide, rfl, by omega⟩
set_option maxRecDepth 100000 in
set_option maxHeartbeats 4000000 in
theorem c_Log_open {G : zG} {ad : Nat → Nat} {d ar : Nat} {M : zM} (hcb : zC M ≤ 600128 ∧ zS M ≤ 7301098) (hL : Lay ad M) (har : ar ≤ 1)  : zMet G mX5_open d [.ref ((ad 15)), .int (nI ar)] M (fun o M' => o = .inl none ∧ M' = zput (zput (zput (zput (zput M 164 (ad 15) (nI ar)) 162 (ad 15) (nI 0)) 163 (ad 15) (nI 0)) 165 (ad 15) (nI 36)) 166 (ad 15) (nI 36)) := by
  refine zMet_of (by decide +kernel) (Nat.le_of_ble_eq_true rfl) rfl hcb ?_
  show zw G mX5_open d _ _ _ 0 [some (.ref ((ad 15))), some (.int (nI ar))] [] M
  refine zr_aload_n dX5_open_0 rfl ?_
  refine zr_iload_n dX5_open_1 rfl ?_
  refine zr_iconst (v := nI 1) dX5_open_2 (by decide) ?_
  refine zr_icmp_neN 10 dX5_open_3 (by decide) (by omega) (by omega) (fun h3 => ?_) (fun h3 => ?_)
  · refine zr_iconst (v := nI 0) dX5_open_10 (by decide) ?_
    refine zr_putI dX5_open_11 lkX5_19 (by decide) (by decide) rfl rfl (hL.K 15 6) ?_
    refine zr_aload_n dX5_open_14 rfl ?_
    refine zr_iconst (v := nI 0) dX5_open_15 (by decide) ?_
    refine zr_putI dX5_open_16 lkX5_31 (by decide) (by decide) rfl rfl (hL.K 15 6) ?_
    refine zr_aload_n dX5_open_19 rfl ?_
    refine zr_iconst (v := nI 0) dX5_open_20 (by decide) ?_
    refine zr_putI dX5_open_21 lkX5_23 (by decide) (by decide) rfl rfl (hL.K 15 6) ?_
    refine zr_aload_n dX5_open_24 rfl ?_
    refine zr_bipush (v := nI 36) dX5_open_25 (by decide) ?_
    refine zr_putI dX5_open_27 lkX5_53 (by decide) (by decide) rfl rfl (hL.K 15 6) ?_
    refine zr_aload_n dX5_open_30 rfl ?_
    refine zr_bipush (v := nI 36) dX5_open_31 (by decide) ?_
    refine zr_putI dX5_open_33 lkX5_81 (by decide) (by decide) rfl rfl (hL.K 15 6) ?_
    refine zr_vret dX5_open_36 rfl ?_
    exact ⟨rfl, by first | rw [show ar = 1 by omega] | rw [show ar = 0 by omega]⟩
  · refine zr_iconst (v := nI 1) dX5_open_6 (by decide) ?_
    refine zr_goto 11 dX5_open_7 (by decide) ?_
    refine zr_putI dX5_open_11 lkX5_19 (by decide) (by decide) rfl rfl (hL.K 15 6) ?_
    refine zr_aload_n dX5_open_14 rfl ?_
    refine zr_iconst (v := nI 0) dX5_open_15 (by decide) ?_
    refine zr_putI dX5_open_16 lkX5_31 (by decide) (by decide) rfl rfl (hL.K 15 6) ?_
    refine zr_aload_n dX5_open_19 rfl ?_
    refine zr_iconst (v := nI 0) dX5_open_20 (by decide) ?_
    refine zr_putI dX5_open_21 lkX5_23 (by decide) (by decide) rfl rfl (hL.K 15 6) ?_
    refine zr_aload_n dX5_open_24 rfl ?_
    refine zr_bipush (v := nI 36) dX5_open_25 (by decide) ?_
    refine zr_putI dX5_open_27 lkX5_53 (by decide) (by decide) rfl rfl (hL.K 15 6) ?_
    refine zr_aload_n dX5_open_30 rfl ?_
    refine zr_bipush (v := nI 36) dX5_open_31 (by decide) ?_
    refine zr_putI dX5_open_33 lkX5_81 (by decide) (by decide) rfl rfl (hL.K 15 6) ?_
    refine zr_vret dX5_open_36 rfl ?_
    exact ⟨rfl, by first | rw [show ar = 1 by omega] | rw [show ar = 0 by omega]⟩
set_option maxRecDepth 100000 in
set_option maxHeartbeats 4000000 in
theorem c_Log_change {G : zG} {ad : Nat → Nat} {d ar to : Nat} {M : zM} (hcb : zC M ≤ 600128 ∧ zS M ≤ 7301098) (hL : Lay ad M) (ha : zI M 164 (ad 15) = nI ar) (har : ar ≤ 1) (h5 : zI M 165 (ad 15) = nI to)  : zMet G mX5_change d [.ref ((ad 15))] M (fun o M' => o = .inl none ∧ M' = zput (zput (zput (zput (zput M 164 (ad 15) (nI (1 - ar))) 166 (ad 15) (nI to)) 165 (ad 15) (nI 0)) 162 (ad 15) (nI 0)) 163 (ad 15) (nI 0)) := by
  refine zMet_of (by decide +kernel) (Nat.le_of_ble_eq_true rfl) rfl hcb ?_
  show zw G mX5_change d _ _ _ 0 [some (.ref ((ad 15)))] [] M
  refine zr_aload_n dX5_change_0 rfl ?_
  refine zr_iconst (v := nI 1) dX5_change_1 (by decide) ?_
  refine zr_aload_n dX5_change_2 rfl ?_
  refine zr_getI dX5_change_3 lkX5_19 (by decide) (by decide) rfl (hL.K 15 6) ?_
  refine zr_as (y := (nI ar)) ha ?_
  refine zr_isubN dX5_change_6 (by omega) ?_
  refine zr_putI dX5_change_7 lkX5_19 (by decide) (by decide) rfl rfl (hL.K 15 6) ?_
  refine zr_aload_n dX5_change_10 rfl ?_
  refine zr_aload_n dX5_change_11 rfl ?_
  refine zr_getI dX5_change_12 lkX5_53 (by decide) (by decide) rfl (hL.K 15 6) ?_
  refine zr_as (y := (nI to)) (zput_ms (by decide) h5) ?_
  refine zr_putI dX5_change_15 lkX5_81 (by decide) (by decide) rfl rfl (hL.K 15 6) ?_
  refine zr_aload_n dX5_change_18 rfl ?_
  refine zr_iconst (v := nI 0) dX5_change_19 (by decide) ?_
  refine zr_putI dX5_change_20 lkX5_53 (by decide) (by decide) rfl rfl (hL.K 15 6) ?_
  refine zr_aload_n dX5_change_23 rfl ?_
  refine zr_iconst (v := nI 0) dX5_change_24 (by decide) ?_
  refine zr_putI dX5_change_25 lkX5_31 (by decide) (by decide) rfl rfl (hL.K 15 6) ?_
  refine zr_aload_n dX5_change_28 rfl ?_
  refine zr_iconst (v := nI 0) dX5_change_29 (by decide) ?_
  refine zr_putI dX5_change_30 lkX5_23 (by decide) (by decide) rfl rfl (hL.K 15 6) ?_
  refine zr_vret dX5_change_33 rfl ?_
  first | (exfalso; omega) | exact ⟨rfl, rfl⟩
