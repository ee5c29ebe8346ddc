/-! ===== LsmStore$Log: enlist, append, replay, clearOther, collect; Rows.add ===== -/
theorem pre_tri (D : Nat → Int32) (p q : Nat) : pre D p q ∨ (eky D p = eky D q ∧ ecm D p = ecm D q) ∨ pre D q p := by
  rcases klt_tri (eky D p) (eky D q) with h | h | h
  · exact Or.inl (Or.inl h)
  · rcases Nat.lt_trichotomy (ecm D p) (ecm D q) with g | g | g
    · exact Or.inr (Or.inr (Or.inr ⟨h.symm, g⟩))
    · exact Or.inr (Or.inl ⟨h, g⟩)
    · exact Or.inl (Or.inr ⟨h, g⟩)
  · exact Or.inr (Or.inr (Or.inl h))
theorem pre_same {D : Nat → Int32} {p q : Nat} (h : pre D p q) : ¬ (eky D p = eky D q ∧ ecm D p = ecm D q) := by
  rintro ⟨h1, h2⟩
  rcases h with h | ⟨-, h⟩
  · rw [h1] at h; exact klt_irrefl _ h
  · omega
theorem pre_cl {D : Nat → Int32} {p q r : Nat} (h : eky D p = eky D q ∧ ecm D p = ecm D q) : (pre D p r ↔ pre D q r) ∧ (pre D r p ↔ pre D r q) := by
  unfold pre
  rw [h.1, h.2]
  exact ⟨Iff.rfl, Iff.rfl⟩
/-- of the entries E those that precede a are the first n -/
def spp (D : Nat → Int32) (E : List Nat) (a n : Nat) : Prop := n ≤ E.length ∧ ∀ (i p : Nat), E[i]? = some p → (pre D p a ↔ i < n)
theorem spp.split {D : Nat → Int32} {E : List Nat} {a n : Nat} (h : spp D E a n) : ∃ l1 l2, E = l1 ++ l2 ∧ l1.length = n ∧ (∀ p ∈ l1, pre D p a) ∧ ∀ p ∈ l2, ¬ pre D p a := by
  have h1 := h.1
  refine ⟨E.take n, E.drop n, (List.take_append_drop n E).symm, by rw [List.length_take]; omega, fun p hp => ?_, fun p hp => ?_⟩
  · obtain ⟨i, hi⟩ := List.getElem?_of_mem hp
    rw [List.getElem?_take] at hi
    split at hi
    · next hlt => exact (h.2 i p hi).mpr hlt
    · cases hi
  · obtain ⟨i, hi⟩ := List.getElem?_of_mem hp
    rw [List.getElem?_drop] at hi
    intro z
    have := (h.2 _ p hi).mp z
    omega
/-- E' is E with a in its place; an older one of the same key and commit goes -/
def Ins (D : Nat → Int32) (E : List Nat) (a : Nat) (E' : List Nat) : Prop := E'.Pairwise (pre D) ∧ (∀ q, q ∈ E' ↔ q = a ∨ (q ∈ E ∧ ¬ (eky D q = eky D a ∧ ecm D q = ecm D a))) ∧ E'.length ≤ E.length + 1
theorem ins_new {D : Nat → Int32} {l1 l2 : List Nat} {a : Nat} (hs : (l1 ++ l2).Pairwise (pre D)) (h1 : ∀ p ∈ l1, pre D p a) (h2 : ∀ p ∈ l2, pre D a p) : Ins D (l1 ++ l2) a (l1 ++ a :: l2) := by
  rw [List.pairwise_append] at hs
  refine ⟨?_, fun q => ?_, by simp; omega⟩
  · rw [List.pairwise_append, List.pairwise_cons]
    refine ⟨hs.1, ⟨h2, hs.2.1⟩, fun x hx y hy => ?_⟩
    rcases List.mem_cons.mp hy with rfl | hy
    · exact h1 x hx
    · exact hs.2.2 x hx y hy
  · rw [List.mem_append, List.mem_cons, List.mem_append]
    constructor
    · rintro (h | h | h)
      · exact Or.inr ⟨Or.inl h, pre_same (h1 q h)⟩
      · exact Or.inl h
      · exact Or.inr ⟨Or.inr h, fun z => pre_same (h2 q h) ⟨z.1.symm, z.2.symm⟩⟩
    · rintro (h | ⟨h | h, -⟩)
      · exact Or.inr (Or.inl h)
      · exact Or.inl h
      · exact Or.inr (Or.inr h)
theorem ins_rep {D : Nat → Int32} {l1 l2 : List Nat} {a x : Nat} (hs : (l1 ++ x :: l2).Pairwise (pre D)) (hx : eky D x = eky D a ∧ ecm D x = ecm D a) : Ins D (l1 ++ x :: l2) a (l1 ++ a :: l2) := by
  rw [List.pairwise_append, List.pairwise_cons] at hs
  obtain ⟨s1, ⟨s2, s3⟩, s4⟩ := hs
  have h1 : ∀ p ∈ l1, pre D p a := fun p hp => (pre_cl hx).2.mp (s4 p hp x List.mem_cons_self)
  have h2 : ∀ p ∈ l2, pre D a p := fun p hp => (pre_cl hx).1.mp (s2 p hp)
  refine ⟨?_, fun q => ?_, by simp⟩
  · rw [List.pairwise_append, List.pairwise_cons]
    refine ⟨s1, ⟨h2, s3⟩, fun u hu y hy => ?_⟩
    rcases List.mem_cons.mp hy with rfl | hy
    · exact h1 u hu
    · exact s4 u hu y (List.mem_cons_of_mem _ hy)
  · rw [List.mem_append, List.mem_cons, List.mem_append, List.mem_cons]
    constructor
    · rintro (h | h | h)
      · exact Or.inr ⟨Or.inl h, pre_same (h1 q h)⟩
      · exact Or.inl h
      · exact Or.inr ⟨Or.inr (Or.inr h), fun z => pre_same (h2 q h) ⟨z.1.symm, z.2.symm⟩⟩
    · rintro (h | ⟨h | h | h, hn⟩)
      · exact Or.inr (Or.inl h)
      · exact Or.inl h
      · rw [h] at hn; exact absurd hx hn
      · exact Or.inr (Or.inr h)
def insM (ad : Nat → Nat) (M : zM) (g : Nat → Int32) (c : Nat) : zM := zput (zsetA M (ad 16) g) 162 (ad 15) (nI c)
theorem insM_insM (ad : Nat → Nat) (M : zM) (g g' : Nat → Int32) (c c' : Nat) : insM ad (insM ad M g c) g' c' = insM ad M g' c' := by
  unfold insM
  rw [zsetA_put, zsetA_setA, zput_put]
theorem insM_upd (ad : Nat → Nat) (M : zM) (g : Nat → Int32) (c n : Nat) (x : Int32) : zsetA (insM ad M g c) (ad 16) (upd (zA (insM ad M g c) (ad 16)) n x) = insM ad M (upd g n x) c := by
  have h : zA (insM ad M g c) (ad 16) = g := zsetA_hit _ _ _
  rw [h]
  unfold insM
  rw [zsetA_put, zsetA_setA]
def InsL (D : Nat → Int32) : List Nat → List Nat → List Nat → Prop
  | E, [], E' => E = E'
  | E, a :: as, E' => ∃ E1, Ins D E a E1 ∧ InsL D E1 as E'
def Ld (g : Nat → Int32) (E : List Nat) : Prop := ∀ (i p : Nat), E[i]? = some p → g i = nI p
set_option maxRecDepth 100000 in
set_option maxHeartbeats 4000000 in
theorem l_Log_enlistOne {G : zG} {ad : Nat → Nat} {d k0 n0 a : Nat} {E : List Nat} {M : zM} {Q : zOut → zM → Prop} (hd : 2 ≤ d) (hcb : zC M ≤ 600128 ∧ zS M ≤ 7301098) (hL : Lay ad M) (hG : Lg ad M E) (hE : Eb (zA M (ad 2)) E) (hs : E.Pairwise (pre (zA M (ad 2)))) (ha : a < 303096) (hac : ecm (zA M (ad 2)) a < 2 ^ 31) (hk : ∀ n h i : Nat, spp (zA M (ad 2)) E a n → zw G mX5_enlistOne d k0 n0 Q 65 [some (.ref ((ad 15))), some (.int (nI a)), some (.int (nI n)), some (.int (nI h)), some (.int (nI i)), none] [] M) : ∀ (m lo hi i : Nat), hi - lo = m → lo ≤ hi → hi ≤ E.length → i + (hi - lo) ≤ 2048 → (∀ j q, j < lo → E[j]? = some q → pre (zA M (ad 2)) q a) → (∀ j q, hi ≤ j → E[j]? = some q → ¬ pre (zA M (ad 2)) q a) → zw G mX5_enlistOne d k0 n0 Q 10 [some (.ref ((ad 15))), some (.int (nI a)), some (.int (nI lo)), some (.int (nI hi)), some (.int (nI i)), none] [] M := by
  intro m
  induction m using Nat.strongRecOn with
  | _ m ih =>
    intro lo hi i hm h1 h2 h3 hlo hhi
    obtain ⟨hg1, hg2, hg3⟩ := id hG
    refine zr_iload dX5_enlistOne_10 rfl ?_
    refine zr_sipush (v := nI 2048) dX5_enlistOne_12 (by decide) ?_
    refine zr_icmp_geN 65 dX5_enlistOne_15 (by decide) (by omega) (by omega) (fun h15 => ?_) (fun h15 => ?_)
    · have e9 : lo = hi := by omega
      subst e9
      exact hk lo lo i ⟨by omega, fun j q hjq => ⟨fun z => Nat.not_le.mp (fun y => hhi j q y hjq z), fun z => hlo j q z hjq⟩⟩
    · refine zr_iload_n dX5_enlistOne_18 rfl ?_
      refine zr_iload_n dX5_enlistOne_19 rfl ?_
      refine zr_icmp_geN 65 dX5_enlistOne_20 (by decide) (by omega) (by omega) (fun h20 => ?_) (fun h20 => ?_)
      · have e9 : lo = hi := by omega
        subst e9
        exact hk lo lo i ⟨by omega, fun j q hjq => ⟨fun z => Nat.not_le.mp (fun y => hhi j q y hjq z), fun z => hlo j q z hjq⟩⟩
      · refine zr_iload_n dX5_enlistOne_23 rfl ?_
        refine zr_iload_n dX5_enlistOne_24 rfl ?_
        refine zr_iaddN dX5_enlistOne_25 ?_
        refine zr_iconst (v := nI 2) dX5_enlistOne_26 (by decide) ?_
        refine zr_idivN dX5_enlistOne_27 (by omega) (by omega) (by omega) ?_
        refine zr_istore (lv' := [some (.ref ((ad 15))), some (.int (nI a)), some (.int (nI lo)), some (.int (nI hi)), some (.int (nI i)), some (.int (nI ((lo + hi) / 2)))]) dX5_enlistOne_28 (Nat.le_of_ble_eq_true rfl) (Nat.le_of_ble_eq_true rfl) rfl rfl ?_
        obtain ⟨p, hp⟩ : ∃ p, E[(lo + hi) / 2]? = some p := ⟨_, List.getElem?_eq_getElem (by omega)⟩
        refine zr_aload_n dX5_enlistOne_30 rfl ?_
        refine zr_getR dX5_enlistOne_31 lkX5_15 (by decide) (by decide) rfl (hL.K 15 6) (hL.R 160 15 1) ?_
        refine zr_aload_n dX5_enlistOne_34 rfl ?_
        refine zr_getR dX5_enlistOne_35 lkX5_9 (by decide) (by decide) rfl (hL.K 15 6) (hL.R 161 15 16) ?_
        refine zr_iload dX5_enlistOne_38 rfl ?_
        refine zr_ialdN dX5_enlistOne_40 (hL.K 16 15) (hL.N 16 2048) (by omega) (by omega) ?_
        refine zr_as (y := (nI p)) (hg3 _ p hp) ?_
        refine zr_iload_n dX5_enlistOne_41 rfl ?_
        refine zr_callV (md' := mX1_precedes) (As := [.int (nI p), .int (nI a)]) dX5_enlistOne_42 mlX5_71 okX1_precedes rfl inX1_precedes slX1_precedes (by decide) (hL.K 1 2) rfl (by omega) (Nat.le_of_ble_eq_true rfl) hcb (c_Disk_precedesT (d := d - 1) (by omega) hcb hL.dk (hE p (List.mem_of_getElem? hp)).1 ha (hE p (List.mem_of_getElem? hp)).2 hac) (fun k M1 h => by obtain ⟨-, t, -, h, -⟩ := h; cases h) (fun v M1 hq => ?_)
        obtain ⟨e1, t, ht, e0, htk⟩ := hq
        cases e0
        rw [e1]
        refine zr_if_eqN 56 dX5_enlistOne_45 (by decide) (by omega) (fun h45 => ?_) (fun h45 => ?_)
        · refine zr_iload dX5_enlistOne_56 rfl ?_
          refine zr_istore_n (lv' := [some (.ref ((ad 15))), some (.int (nI a)), some (.int (nI lo)), some (.int (nI ((lo + hi) / 2))), some (.int (nI i)), some (.int (nI ((lo + hi) / 2)))]) dX5_enlistOne_58 (Nat.le_of_ble_eq_true rfl) (Nat.le_of_ble_eq_true rfl) rfl rfl ?_
          refine zr_iincN (n := 1) (lv' := [some (.ref ((ad 15))), some (.int (nI a)), some (.int (nI lo)), some (.int (nI ((lo + hi) / 2))), some (.int (nI (i + 1))), some (.int (nI ((lo + hi) / 2)))]) dX5_enlistOne_59 (Nat.le_of_ble_eq_true rfl) (Nat.le_of_ble_eq_true rfl) rfl rfl rfl ?_
          refine zr_goto 10 dX5_enlistOne_62 (by decide) ?_
          refine zr_drop 5 rfl ?_
          exact ih _ (by omega) lo (((lo + hi) / 2)) (i + 1) rfl (by omega) (by omega) (by omega) hlo (fun j q hj hjq => (Nat.lt_or_ge ((lo + hi) / 2) j).elim (fun y z => absurd (htk.mpr (pre_trans (pw_get hs y hp hjq) z)) (by omega)) (fun y => by rw [show j = (lo + hi) / 2 by omega, hp] at hjq; cases hjq; exact fun z => absurd (htk.mpr z) (by omega)))
        · refine zr_iload dX5_enlistOne_48 rfl ?_
          refine zr_iconst (v := nI 1) dX5_enlistOne_50 (by decide) ?_
          refine zr_iaddN dX5_enlistOne_51 ?_
          refine zr_istore_n (lv' := [some (.ref ((ad 15))), some (.int (nI a)), some (.int (nI (((lo + hi) / 2) + 1))), some (.int (nI hi)), some (.int (nI i)), some (.int (nI ((lo + hi) / 2)))]) dX5_enlistOne_52 (Nat.le_of_ble_eq_true rfl) (Nat.le_of_ble_eq_true rfl) rfl rfl ?_
          refine zr_goto 59 dX5_enlistOne_53 (by decide) ?_
          refine zr_iincN (n := 1) (lv' := [some (.ref ((ad 15))), some (.int (nI a)), some (.int (nI (((lo + hi) / 2) + 1))), some (.int (nI hi)), some (.int (nI (i + 1))), some (.int (nI ((lo + hi) / 2)))]) dX5_enlistOne_59 (Nat.le_of_ble_eq_true rfl) (Nat.le_of_ble_eq_true rfl) rfl rfl rfl ?_
          refine zr_goto 10 dX5_enlistOne_62 (by decide) ?_
          refine zr_drop 5 rfl ?_
          exact ih _ (by omega) ((((lo + hi) / 2) + 1)) hi (i + 1) rfl (by omega) (by omega) (by omega) (fun j q hj hjq => (Nat.lt_or_ge j lo).elim (fun z => hlo j q z hjq) (fun z => (Nat.lt_or_ge j ((lo + hi) / 2)).elim (fun y => pre_trans (pw_get hs y hjq hp) (htk.mp (by omega))) (fun y => by rw [show j = (lo + hi) / 2 by omega, hp] at hjq; cases hjq; exact htk.mp (by omega)))) hhi
set_option maxRecDepth 100000 in
set_option maxHeartbeats 4000000 in
theorem t_Log_enlistOne1 {G : zG} {ad : Nat → Nat} {d k0 n0 a n h i : Nat} {E : List Nat} {M : zM} {Q : zOut → zM → Prop} (hd : 2 ≤ d) (hcb : zC M ≤ 600128 ∧ zS M ≤ 7301098) (hL : Lay ad M) (hG : Lg ad M E) (hE : Eb (zA M (ad 2)) E) (hs : E.Pairwise (pre (zA M (ad 2)))) (ha : a < 303096) (hac : ecm (zA M (ad 2)) a < 2 ^ 31) (hn : n ≤ E.length) (hk0 : (∀ x, E[n]? = some x → pre (zA M (ad 2)) a x) → zw G mX5_enlistOne d k0 n0 Q 95 [some (.ref ((ad 15))), some (.int (nI a)), some (.int (nI n)), some (.int (nI h)), some (.int (nI i)), none] [.int (nI 0)] M) (hk1 : ∀ x, E[n]? = some x → ¬ pre (zA M (ad 2)) a x → zw G mX5_enlistOne d k0 n0 Q 95 [some (.ref ((ad 15))), some (.int (nI a)), some (.int (nI n)), some (.int (nI h)), some (.int (nI i)), none] [.int (nI 1)] M) : zw G mX5_enlistOne d k0 n0 Q 65 [some (.ref ((ad 15))), some (.int (nI a)), some (.int (nI n)), some (.int (nI h)), some (.int (nI i)), none] [] M := by
  obtain ⟨hg1, hg2, hg3⟩ := id hG
  refine zr_iload_n dX5_enlistOne_65 rfl ?_
  refine zr_aload_n dX5_enlistOne_66 rfl ?_
  refine zr_getI dX5_enlistOne_67 lkX5_31 (by decide) (by decide) rfl (hL.K 15 6) ?_
  refine zr_as (y := (nI E.length)) hg1 ?_
  refine zr_icmp_geN 94 dX5_enlistOne_70 (by decide) (by omega) (by omega) (fun h70 => ?_) (fun h70 => ?_)
  · refine zr_iconst (v := nI 0) dX5_enlistOne_94 (by decide) ?_
    first | exact hk0 (fun x hx => absurd (List.getElem?_eq_some_iff.mp hx).1 (by omega)) | exact hk0 (fun x hx => by rw [hp] at hx; cases hx; exact htk.mp (by omega))
  · obtain ⟨p, hp⟩ : ∃ p, E[n]? = some p := ⟨_, List.getElem?_eq_getElem (by omega)⟩
    refine zr_aload_n dX5_enlistOne_73 rfl ?_
    refine zr_getR dX5_enlistOne_74 lkX5_15 (by decide) (by decide) rfl (hL.K 15 6) (hL.R 160 15 1) ?_
    refine zr_iload_n dX5_enlistOne_77 rfl ?_
    refine zr_aload_n dX5_enlistOne_78 rfl ?_
    refine zr_getR dX5_enlistOne_79 lkX5_9 (by decide) (by decide) rfl (hL.K 15 6) (hL.R 161 15 16) ?_
    refine zr_iload_n dX5_enlistOne_82 rfl ?_
    refine zr_ialdN dX5_enlistOne_83 (hL.K 16 15) (hL.N 16 2048) (by omega) (by omega) ?_
    refine zr_as (y := (nI p)) (hg3 _ p hp) ?_
    refine zr_callV (md' := mX1_precedes) (As := [.int (nI a), .int (nI p)]) dX5_enlistOne_84 mlX5_71 okX1_precedes rfl inX1_precedes slX1_precedes (by decide) (hL.K 1 2) rfl (by omega) (Nat.le_of_ble_eq_true rfl) hcb (c_Disk_precedesT (d := d - 1) (by omega) hcb hL.dk ha (hE p (List.mem_of_getElem? hp)).1 hac (hE p (List.mem_of_getElem? hp)).2) (fun k M1 h => by obtain ⟨-, t, -, h, -⟩ := h; cases h) (fun v M1 hq => ?_)
    obtain ⟨e1, t, ht, e0, htk⟩ := hq
    cases e0
    rw [e1]
    refine zr_if_neN 94 dX5_enlistOne_87 (by decide) (by omega) (fun h87 => ?_) (fun h87 => ?_)
    · refine zr_iconst (v := nI 0) dX5_enlistOne_94 (by decide) ?_
      first | exact hk0 (fun x hx => absurd (List.getElem?_eq_some_iff.mp hx).1 (by omega)) | exact hk0 (fun x hx => by rw [hp] at hx; cases hx; exact htk.mp (by omega))
    · refine zr_iconst (v := nI 1) dX5_enlistOne_90 (by decide) ?_
      refine zr_goto 95 dX5_enlistOne_91 (by decide) ?_
      exact hk1 p hp (fun z => absurd (htk.mpr z) (by omega))
theorem ld_ins {X : Nat → Int32} {l1 l2 : List Nat} {a : Nat} (h : Ld X (l1 ++ l2)) : Ld (upd (va_cpy X X l1.length (l1.length + 1) ((l1 ++ l2).length - l1.length)) l1.length (nI a)) (l1 ++ a :: l2) := by
  intro i q hi
  rcases Nat.lt_trichotomy i l1.length with e | e | e
  · rw [List.getElem?_append_left e] at hi
    rw [pk_un (by omega), pk_cpy_out (by omega)]
    exact h i q (by rw [List.getElem?_append_left e]; exact hi)
  · rw [e, List.getElem?_append_right (Nat.le_refl _), Nat.sub_self, List.getElem?_cons_zero] at hi
    cases hi
    rw [e, pk_us]
  · rw [List.getElem?_append_right (by omega), show i - l1.length = (i - 1 - l1.length) + 1 by omega, List.getElem?_cons_succ] at hi
    have h2 := (List.getElem?_eq_some_iff.mp hi).1
    rw [pk_un (by omega), pk_cpy_in (by omega) (by rw [List.length_append]; omega), show l1.length + (i - (l1.length + 1)) = i - 1 by omega]
    exact h (i - 1) q (by rw [List.getElem?_append_right (by omega)]; exact hi)
theorem ld_rep {X : Nat → Int32} {l1 l2 : List Nat} {a x : Nat} (h : Ld X (l1 ++ x :: l2)) : Ld (upd X l1.length (nI a)) (l1 ++ a :: l2) := by
  intro i q hi
  rcases Nat.lt_trichotomy i l1.length with e | e | e
  · rw [List.getElem?_append_left e] at hi
    rw [pk_un (by omega)]
    exact h i q (by rw [List.getElem?_append_left e]; exact hi)
  · rw [e, List.getElem?_append_right (Nat.le_refl _), Nat.sub_self, List.getElem?_cons_zero] at hi
    cases hi
    rw [e, pk_us]
  · rw [List.getElem?_append_right (by omega), show i - l1.length = (i - 1 - l1.length) + 1 by omega, List.getElem?_cons_succ] at hi
    rw [pk_un (by omega)]
    exact h i q (by rw [List.getElem?_append_right (by omega), show i - l1.length = (i - 1 - l1.length) + 1 by omega, List.getElem?_cons_succ]; exact hi)
set_option maxRecDepth 100000 in
set_option maxHeartbeats 4000000 in
theorem t_Log_enlistOne2_0 {G : zG} {ad : Nat → Nat} {d k0 n0 a n h i : Nat} {E : List Nat} {M : zM} {Q : zOut → zM → Prop} (hd : 2 ≤ d) (hL : Lay ad M) (hG : Lg ad M E) (hn : n ≤ E.length) (hlt : E.length < 2048) (hq : Q (.inl none) (insM ad M (upd (va_cpy (zA M (ad 16)) (zA M (ad 16)) n (n + 1) (E.length - n)) n (nI a)) (E.length + 1))) : zw G mX5_enlistOne d k0 n0 Q 95 [some (.ref ((ad 15))), some (.int (nI a)), some (.int (nI n)), some (.int (nI h)), some (.int (nI i)), none] [.int (nI 0)] M := by
  obtain ⟨hg1, hg2, hg3⟩ := id hG
  refine zr_istore (lv' := [some (.ref ((ad 15))), some (.int (nI a)), some (.int (nI n)), some (.int (nI h)), some (.int (nI 0)), none]) dX5_enlistOne_95 (Nat.le_of_ble_eq_true rfl) (Nat.le_of_ble_eq_true rfl) rfl rfl ?_
  refine zr_iload dX5_enlistOne_97 rfl ?_
  refine zr_if_ne 143 dX5_enlistOne_99 (by decide) (fun h99 => absurd rfl h99) (fun h99 => ?_)
  refine zr_aload_n dX5_enlistOne_102 rfl ?_
  refine zr_getI dX5_enlistOne_103 lkX5_31 (by decide) (by decide) rfl (hL.K 15 6) ?_
  refine zr_as (y := (nI E.length)) hg1 ?_
  refine zr_sipush (v := nI 2048) dX5_enlistOne_106 (by decide) ?_
  refine zr_icmp_geN 143 dX5_enlistOne_109 (by decide) (by omega) (by omega) (fun h109 => ?_) (fun h109 => ?_)
  · refine zr_iload_n dX5_enlistOne_143 rfl ?_
    refine zr_aload_n dX5_enlistOne_144 rfl ?_
    refine zr_getI dX5_enlistOne_145 lkX5_31 (by decide) (by decide) rfl (hL.K 15 6) ?_
    refine zr_as (y := (nI E.length)) hg1 ?_
    refine zr_icmp_geN 158 dX5_enlistOne_148 (by decide) (by omega) (by omega) (fun h148 => ?_) (fun h148 => ?_)
    · refine zr_vret dX5_enlistOne_158 rfl ?_
      first | (exfalso; omega) | (rw [insM_upd]; exact hq)
    · refine zr_aload_n dX5_enlistOne_151 rfl ?_
      refine zr_getR dX5_enlistOne_152 lkX5_9 (by decide) (by decide) rfl (hL.K 15 6) (hL.R 161 15 16) ?_
      refine zr_iload_n dX5_enlistOne_155 rfl ?_
      refine zr_iload_n dX5_enlistOne_156 rfl ?_
      refine zr_iastN dX5_enlistOne_157 (hL.K 16 15) (hL.N 16 2048) (by omega) (by omega) ?_
      refine zr_vret dX5_enlistOne_158 rfl ?_
      first | (exfalso; omega) | (rw [insM_upd]; exact hq)
  · refine zr_aload_n dX5_enlistOne_112 rfl ?_
    refine zr_getR dX5_enlistOne_113 lkX5_9 (by decide) (by decide) rfl (hL.K 15 6) (hL.R 161 15 16) ?_
    refine zr_iload_n dX5_enlistOne_116 rfl ?_
    refine zr_aload_n dX5_enlistOne_117 rfl ?_
    refine zr_getR dX5_enlistOne_118 lkX5_9 (by decide) (by decide) rfl (hL.K 15 6) (hL.R 161 15 16) ?_
    refine zr_iload_n dX5_enlistOne_121 rfl ?_
    refine zr_iconst (v := nI 1) dX5_enlistOne_122 (by decide) ?_
    refine zr_iaddN dX5_enlistOne_123 ?_
    refine zr_aload_n dX5_enlistOne_124 rfl ?_
    refine zr_getI dX5_enlistOne_125 lkX5_31 (by decide) (by decide) rfl (hL.K 15 6) ?_
    refine zr_as (y := (nI E.length)) hg1 ?_
    refine zr_iload_n dX5_enlistOne_128 rfl ?_
    refine zr_isubN dX5_enlistOne_129 (by omega) ?_
    refine zr_copyN dX5_enlistOne_130 mlX5_75 (Or.inr ⟨(hL.K 16 15), (hL.K 16 15)⟩) (hL.N 16 2048) (hL.N 16 2048) (by omega) (by omega) (by omega) (by omega) (by omega) (Nat.le_of_ble_eq_true rfl) ?_
    refine zr_aload_n dX5_enlistOne_133 rfl ?_
    refine zr_dup dX5_enlistOne_134 rfl ?_
    refine zr_getI dX5_enlistOne_135 lkX5_31 (by decide) (by decide) rfl (hL.K 15 6) ?_
    refine zr_as (y := (nI E.length)) hg1 ?_
    refine zr_iconst (v := nI 1) dX5_enlistOne_138 (by decide) ?_
    refine zr_iaddN dX5_enlistOne_139 ?_
    refine zr_putI dX5_enlistOne_140 lkX5_31 (by decide) (by decide) rfl rfl (hL.K 15 6) ?_
    refine zr_asM (M' := insM ad M (va_cpy (zA M (ad 16)) (zA M (ad 16)) n (n + 1) (E.length - n)) (E.length + 1)) rfl ?_
    refine zr_iload_n dX5_enlistOne_143 rfl ?_
    refine zr_aload_n dX5_enlistOne_144 rfl ?_
    refine zr_getI dX5_enlistOne_145 lkX5_31 (by decide) (by decide) rfl (hL.K 15 6) ?_
    refine zr_as (y := (nI (E.length + 1))) (zput_hit _ _ _ _) ?_
    refine zr_icmp_geN 158 dX5_enlistOne_148 (by decide) (by omega) (by omega) (fun h148 => ?_) (fun h148 => ?_)
    · refine zr_vret dX5_enlistOne_158 rfl ?_
      first | (exfalso; omega) | (rw [insM_upd]; exact hq)
    · refine zr_aload_n dX5_enlistOne_151 rfl ?_
      refine zr_getR dX5_enlistOne_152 lkX5_9 (by decide) (by decide) rfl (hL.K 15 6) (hL.R 161 15 16) ?_
      refine zr_iload_n dX5_enlistOne_155 rfl ?_
      refine zr_iload_n dX5_enlistOne_156 rfl ?_
      refine zr_iastN dX5_enlistOne_157 (hL.K 16 15) (hL.N 16 2048) (by omega) (by omega) ?_
      refine zr_vret dX5_enlistOne_158 rfl ?_
      first | (exfalso; omega) | (rw [insM_upd]; exact hq)
set_option maxRecDepth 100000 in
set_option maxHeartbeats 4000000 in
theorem t_Log_enlistOne2_1 {G : zG} {ad : Nat → Nat} {d k0 n0 a n h i : Nat} {E : List Nat} {M : zM} {Q : zOut → zM → Prop} (hd : 2 ≤ d) (hL : Lay ad M) (hG : Lg ad M E) (hn : n ≤ E.length) (hlt : E.length < 2048) (hx : n < E.length) (hq : Q (.inl none) (zsetA M (ad 16) (upd (zA M (ad 16)) n (nI a)))) : zw G mX5_enlistOne d k0 n0 Q 95 [some (.ref ((ad 15))), some (.int (nI a)), some (.int (nI n)), some (.int (nI h)), some (.int (nI i)), none] [.int (nI 1)] M := by
  obtain ⟨hg1, hg2, hg3⟩ := id hG
  refine zr_istore (lv' := [some (.ref ((ad 15))), some (.int (nI a)), some (.int (nI n)), some (.int (nI h)), some (.int (nI 1)), none]) dX5_enlistOne_95 (Nat.le_of_ble_eq_true rfl) (Nat.le_of_ble_eq_true rfl) rfl rfl ?_
  refine zr_iload dX5_enlistOne_97 rfl ?_
  refine zr_if_ne 143 dX5_enlistOne_99 (by decide) (fun h99 => ?_) (fun h99 => absurd h99 (by decide))
  refine zr_iload_n dX5_enlistOne_143 rfl ?_
  refine zr_aload_n dX5_enlistOne_144 rfl ?_
  refine zr_getI dX5_enlistOne_145 lkX5_31 (by decide) (by decide) rfl (hL.K 15 6) ?_
  refine zr_as (y := (nI E.length)) hg1 ?_
  refine zr_icmp_geN 158 dX5_enlistOne_148 (by decide) (by omega) (by omega) (fun h148 => ?_) (fun h148 => ?_)
  · refine zr_vret dX5_enlistOne_158 rfl ?_
    first | (exfalso; omega) | exact hq
  · refine zr_aload_n dX5_enlistOne_151 rfl ?_
    refine zr_getR dX5_enlistOne_152 lkX5_9 (by decide) (by decide) rfl (hL.K 15 6) (hL.R 161 15 16) ?_
    refine zr_iload_n dX5_enlistOne_155 rfl ?_
    refine zr_iload_n dX5_enlistOne_156 rfl ?_
    refine zr_iastN dX5_enlistOne_157 (hL.K 16 15) (hL.N 16 2048) (by omega) (by omega) ?_
    refine zr_vret dX5_enlistOne_158 rfl ?_
    first | (exfalso; omega) | exact hq
set_option maxRecDepth 100000 in
set_option maxHeartbeats 4000000 in
theorem c_Log_enlistOne {G : zG} {ad : Nat → Nat} {d a : Nat} {E : List Nat} {M : zM} (hd : 2 ≤ d) (hcb : zC M ≤ 600128 ∧ zS M ≤ 7301098) (hL : Lay ad M) (hG : Lg ad M E) (hE : Eb (zA M (ad 2)) E) (hs : E.Pairwise (pre (zA M (ad 2)))) (ha : a < 303096) (hac : ecm (zA M (ad 2)) a < 2 ^ 31) (hlt : E.length < 2048)  : zMet G mX5_enlistOne d [.ref ((ad 15)), .int (nI a)] M (fun o M' => o = .inl none ∧ ∃ (g : Nat → Int32) (E' : List Nat), M' = insM ad M g E'.length ∧ Ld g E' ∧ Ins (zA M (ad 2)) E a E') := by
  refine zMet_of (by decide +kernel) (Nat.le_of_ble_eq_true rfl) rfl hcb ?_
  show zw G mX5_enlistOne d _ _ _ 0 [some (.ref ((ad 15))), some (.int (nI a)), none, none, none, none] [] M
  obtain ⟨hg1, hg2, hg3⟩ := id hG
  refine zr_iconst (v := nI 0) dX5_enlistOne_0 (by decide) ?_
  refine zr_istore_n (lv' := [some (.ref ((ad 15))), some (.int (nI a)), some (.int (nI 0)), none, none, none]) dX5_enlistOne_1 (Nat.le_of_ble_eq_true rfl) (Nat.le_of_ble_eq_true rfl) rfl rfl ?_
  refine zr_aload_n dX5_enlistOne_2 rfl ?_
  refine zr_getI dX5_enlistOne_3 lkX5_31 (by decide) (by decide) rfl (hL.K 15 6) ?_
  refine zr_as (y := (nI E.length)) hg1 ?_
  refine zr_istore_n (lv' := [some (.ref ((ad 15))), some (.int (nI a)), some (.int (nI 0)), some (.int (nI E.length)), none, none]) dX5_enlistOne_6 (Nat.le_of_ble_eq_true rfl) (Nat.le_of_ble_eq_true rfl) rfl rfl ?_
  refine zr_iconst (v := nI 0) dX5_enlistOne_7 (by decide) ?_
  refine zr_istore (lv' := [some (.ref ((ad 15))), some (.int (nI a)), some (.int (nI 0)), some (.int (nI E.length)), some (.int (nI 0)), none]) dX5_enlistOne_8 (Nat.le_of_ble_eq_true rfl) (Nat.le_of_ble_eq_true rfl) rfl rfl ?_
  refine l_Log_enlistOne hd hcb hL hG hE hs ha hac (fun n h i hn => ?_) _ 0 E.length 0 rfl (by omega) (by omega) (by omega) (fun j q h => by omega) (fun j q h hq => by have := (List.getElem?_eq_some_iff.mp hq).1; omega)
  obtain ⟨l1, l2, rfl, rfl, h3, h4⟩ := hn.split
  refine t_Log_enlistOne1 hd hcb hL hG hE hs ha hac (by rw [List.length_append]; omega) (fun hx => ?_) (fun x hx hnx => ?_)
  · refine t_Log_enlistOne2_0 hd hL hG (by rw [List.length_append]; omega) hlt ⟨rfl, _, _, ?_, ld_ins hg3, ins_new hs h3 (fun p hp => ?_)⟩
    · congr 1; rw [List.length_append, List.length_append, List.length_cons]; omega
    · cases l2 with
      | nil => cases hp
      | cons y l2 =>
        have h5 := hx y (by rw [List.getElem?_append_right (Nat.le_refl _), Nat.sub_self, List.getElem?_cons_zero])
        rcases List.mem_cons.mp hp with rfl | hp
        · exact h5
        · rw [List.pairwise_append, List.pairwise_cons] at hs; exact pre_trans h5 (hs.2.1.1 p hp)
  · cases l2 with
    | nil => rw [List.append_nil, List.getElem?_eq_none_iff.mpr (Nat.le_refl _)] at hx; cases hx
    | cons y l2 =>
      rw [List.getElem?_append_right (Nat.le_refl _), Nat.sub_self, List.getElem?_cons_zero] at hx
      cases hx
      refine t_Log_enlistOne2_1 hd hL hG (by rw [List.length_append]; omega) hlt (by rw [List.length_append, List.length_cons]; omega) ⟨rfl, _, l1 ++ a :: l2, ?_, ld_rep hg3, ins_rep hs ?_⟩
      · unfold insM; rw [zput_self (M := zsetA M (ad 16) _) (f := 162) (a := ad 15)]; rw [show (l1 ++ a :: l2).length = (l1 ++ x :: l2).length by simp]; exact hg1
      · rcases pre_tri (zA M (ad 2)) x a with z | z | z
        · exact absurd z (h4 x List.mem_cons_self)
        · exact z
        · exact absurd z hnx
