/-! ===== LsmStoreModel (2) ===== -/
theorem rc_rwl {f : Nat → Int32} {L : List Nat} (h : Rc f L) : rwl f L.length = L := by
  refine List.ext_getElem (rwl_len _ _) (fun i h1 h2 => ?_)
  have e1 : (rwl f L.length)[i]'(by rw [rwl_len]; exact h2) = zb (f i) := by unfold rwl; rw [List.getElem_map, List.getElem_range]
  exact e1.trans (h i _ (List.getElem?_eq_getElem h2))
theorem rwl_rc {f : Nat → Int32} {L : List Nat} (h : rwl f L.length = L) : Rc f L := fun i b hb => by
  obtain ⟨hi, rfl⟩ := List.getElem?_eq_some_iff.mp hb
  have e1 : (rwl f L.length)[i]'(by rw [rwl_len]; exact hi) = zb (f i) := by unfold rwl; rw [List.getElem_map, List.getElem_range]
  rw [← e1]
  exact List.getElem_of_eq h _
/-- an entry's bytes stand at p; a map's bytes -/
def Ea (F : Nat → Int32) (p : Nat) (a : List Nat × List Nat) : Prop := Rc (fun i => F (p + i)) (eb a)
def Ma (F : Nat → Int32) (p : Nat) (m : Mp) : Prop := Rc (fun i => F (p + i)) (Mb m)
theorem Ea.kl {F : Nat → Int32} {p : Nat} {a : List Nat × List Nat} (h : Ea F p a) : zb (F p) = a.1.length := h 0 _ rfl
theorem Ea.r1 {F : Nat → Int32} {p : Nat} {a : List Nat × List Nat} (h : Ea F p a) : Rc (fun i => F (p + 1 + i)) (a.1 ++ (a.2.length :: a.2)) := by
  have h1 : Rc (fun i => F (p + (1 + i))) (a.1 ++ (a.2.length :: a.2)) := Rc.right (A := [a.1.length]) h
  exact h1.congr (fun i _ => by show F (p + 1 + i) = F (p + (1 + i)); rw [Nat.add_assoc])
theorem Ea.key {F : Nat → Int32} {p : Nat} {a : List Nat × List Nat} (h : Ea F p a) : Rc (fun i => F (p + 1 + i)) a.1 := Rc.left h.r1
theorem Ea.r2 {F : Nat → Int32} {p : Nat} {a : List Nat × List Nat} (h : Ea F p a) : Rc (fun i => F (p + 1 + a.1.length + i)) (a.2.length :: a.2) := (Rc.right h.r1).congr (fun i _ => by show F (p + 1 + a.1.length + i) = F (p + 1 + (a.1.length + i)); rw [Nat.add_assoc (p + 1)])
theorem Ea.vl {F : Nat → Int32} {p : Nat} {a : List Nat × List Nat} (h : Ea F p a) : zb (F (p + 1 + a.1.length)) = a.2.length := h.r2 0 _ rfl
theorem Ea.val {F : Nat → Int32} {p : Nat} {a : List Nat × List Nat} (h : Ea F p a) : Rc (fun i => F (p + 1 + a.1.length + 1 + i)) a.2 := (Rc.right (A := [a.2.length]) h.r2).congr (fun i _ => by show F (p + 1 + a.1.length + 1 + i) = F (p + 1 + a.1.length + (1 + i)); rw [Nat.add_assoc (p + 1 + a.1.length)])
theorem Ma.at {F : Nat → Int32} {p : Nat} {pre suf : Mp} {a : List Nat × List Nat} (h : Ma F p (pre ++ a :: suf)) : Ea F (p + (Mb pre).length) a := by
  have h1 := Rc.mid (A := Mb pre) (B := eb a) (C := Mb suf) h (by rw [Mb_app, Mb_cons])
  exact h1.congr (fun i _ => by show F (p + (Mb pre).length + i) = F (p + ((Mb pre).length + i)); rw [Nat.add_assoc])
theorem Mb_pos {a : List Nat × List Nat} {m : Mp} : 2 + a.1.length + a.2.length ≤ (Mb (a :: m)).length := by rw [Mb_cons, List.length_append, eb_len]; omega
theorem Mb_sl (pre : Mp) (a : List Nat × List Nat) : (Mb (pre ++ [a])).length = (Mb pre).length + (2 + a.1.length + a.2.length) := by
  rw [Mb_app, List.length_append, Mb_cons, List.length_append, eb_len]
  rfl
/-- a row of bytes -/
def Rw8 (M : zM) (r n : Nat) : Prop := zK M r = 14 ∧ zN M r = n ∧ n ≤ 140000
/-- keys and values are short -/
def Shr (m : Mp) : Prop := ∀ a ∈ m, a.1.length ≤ 32 ∧ a.2.length ≤ 200
theorem Mw.shr {n : Nat} {m : Mp} (h : Mw n m) : Shr m := fun a ha => ⟨(h.2.2 a ha).2.1, (h.2.2 a ha).2.2.1⟩
set_option maxRecDepth 100000 in
set_option maxHeartbeats 4000000 in
theorem c_behind {G : zG} {d r n q : Nat} {a : List Nat × List Nat} {M : zM} (hcb : zC M ≤ 600128 ∧ zS M ≤ 7301098) (hr : Rw8 M r n) (hE : Ea (zA M r) q a) (hk : a.1.length ≤ 32) (hp : q + (eb a).length ≤ n)  : zMet G mX12_behind d [.ref r, .int (nI q)] M (fun o M' => o = .inl (some (.int (nI (q + 2 + a.1.length + a.2.length)))) ∧ M' = M) := by
  refine zMet_of (by decide +kernel) (Nat.le_of_ble_eq_true rfl) rfl hcb ?_
  show zw G mX12_behind d _ _ _ 0 [some (.ref r), some (.int (nI q))] [] M
  refine zr_iload_n dX12_behind_0 rfl ?_
  refine zr_iconst (v := nI 2) dX12_behind_1 (by decide) ?_
  refine zr_iaddN dX12_behind_2 ?_
  refine zr_aload_n dX12_behind_3 rfl ?_
  refine zr_iload_n dX12_behind_4 rfl ?_
  refine zr_baldN dX12_behind_5 hr.1 hr.2.1 (by rw [eb_len] at hp; have := hr.2.2; omega) (by have := hr.2.2; omega) (fun f5 => ?_)
  refine zr_as (y := (nI a.1.length)) (zb_of f5 hE.kl (by omega)) ?_
  refine zr_iaddN dX12_behind_6 ?_
  refine zr_aload_n dX12_behind_7 rfl ?_
  refine zr_iload_n dX12_behind_8 rfl ?_
  refine zr_iconst (v := nI 1) dX12_behind_9 (by decide) ?_
  refine zr_iaddN dX12_behind_10 ?_
  refine zr_aload_n dX12_behind_11 rfl ?_
  refine zr_iload_n dX12_behind_12 rfl ?_
  refine zr_baldN dX12_behind_13 hr.1 hr.2.1 (by rw [eb_len] at hp; have := hr.2.2; omega) (by have := hr.2.2; omega) (fun f13 => ?_)
  refine zr_as (y := (nI a.1.length)) (zb_of f13 hE.kl (by omega)) ?_
  refine zr_iaddN dX12_behind_14 ?_
  refine zr_baldN dX12_behind_15 hr.1 hr.2.1 (by rw [eb_len] at hp; have := hr.2.2; omega) (by have := hr.2.2; omega) (fun f15 => ?_)
  refine zr_sipush (v := nI 255) dX12_behind_16 (by decide) ?_
  refine zr_iand255 dX12_behind_19 ?_
  refine zr_as (y := (nI a.2.length)) (by rw [hE.vl]) ?_
  refine zr_iaddN dX12_behind_20 ?_
  refine zr_iret dX12_behind_21 rfl ?_
  exact ⟨rfl, rfl⟩
set_option maxRecDepth 100000 in
set_option maxHeartbeats 4000000 in
theorem l_compare {G : zG} {d k0 n0 r n q k n2 off : Nat} {a : List Nat × List Nat} {kk : List Nat} {M : zM} {Q : zOut → zM → Prop} (hr : Rw8 M r n) (hk9 : Rw8 M k n2) (hE : Ea (zA M r) q a) (hk : a.1.length ≤ 32) (hp : q + (eb a).length ≤ n) (hkk : Rc (fun i => zA M k (off + i)) kk) (hko : off + kk.length ≤ n2) (hq : ∀ v : Int32, (v < 0 ↔ klt a.1 kk) → (v = 0 ↔ a.1 = kk) → Q (.inl (some (.int v))) M) : ∀ (m i : Nat), a.1.length - i = m → i ≤ a.1.length → i ≤ kk.length → (∀ j, j < i → zb (zA M r (q + 1 + j)) = zb (zA M k (off + j))) → zw G mX12_compare d k0 n0 Q 8 [some (.ref r), some (.int (nI q)), some (.ref k), some (.int (nI off)), some (.int (nI kk.length)), some (.int (nI a.1.length)), some (.int (nI i)), none] [] M := by
  intro m
  induction m using Nat.strongRecOn with
  | _ m ih =>
    intro i hm hi hi2 heq
    have hb1 := hr.2.2
    have hb2 := hk9.2.2
    have ea := rc_rwl hE.key
    have eb9 := rc_rwl hkk
    have hkl9 : klt a.1 kk ↔ klt (rwl (fun i => zA M r (q + 1 + i)) a.1.length) (rwl (fun i => zA M k (off + i)) kk.length) := by rw [ea, eb9]
    have heq9 : a.1 = kk ↔ rwl (fun i => zA M r (q + 1 + i)) a.1.length = rwl (fun i => zA M k (off + i)) kk.length := by rw [ea, eb9]
    refine zr_iload dX12_compare_8 rfl ?_
    refine zr_iload dX12_compare_10 rfl ?_
    refine zr_icmp_geN 61 dX12_compare_12 (by decide) (by omega) (by omega) (fun h12 => ?_) (fun h12 => ?_)
    · refine zr_iload dX12_compare_61 rfl ?_
      refine zr_iload dX12_compare_63 rfl ?_
      refine zr_isub dX12_compare_65 ?_
      refine zr_iret dX12_compare_66 rfl ?_
      refine hq _ ?_ ?_
      · rw [(zdiff (by omega) (by omega)).1, hkl9]; exact (klt_all (fun j h1 h2 => heq j (by omega))).symm
      · rw [(zdiff (by omega) (by omega)).2]
        exact ⟨fun z => heq9.mpr (by rw [z]; exact rwl_congr (fun j hj => heq j (by omega))), fun z => by rw [z]⟩
    · refine zr_iload dX12_compare_15 rfl ?_
      refine zr_iload dX12_compare_17 rfl ?_
      refine zr_icmp_geN 61 dX12_compare_19 (by decide) (by omega) (by omega) (fun h19 => ?_) (fun h19 => ?_)
      · refine zr_iload dX12_compare_61 rfl ?_
        refine zr_iload dX12_compare_63 rfl ?_
        refine zr_isub dX12_compare_65 ?_
        refine zr_iret dX12_compare_66 rfl ?_
        refine hq _ ?_ ?_
        · rw [(zdiff (by omega) (by omega)).1, hkl9]; exact (klt_all (fun j h1 h2 => heq j (by omega))).symm
        · rw [(zdiff (by omega) (by omega)).2]
          exact ⟨fun z => heq9.mpr (by rw [z]; exact rwl_congr (fun j hj => heq j (by omega))), fun z => by rw [z]⟩
      · refine zr_aload_n dX12_compare_22 rfl ?_
        refine zr_iload_n dX12_compare_23 rfl ?_
        refine zr_iconst (v := nI 1) dX12_compare_24 (by decide) ?_
        refine zr_iaddN dX12_compare_25 ?_
        refine zr_iload dX12_compare_26 rfl ?_
        refine zr_iaddN dX12_compare_28 ?_
        refine zr_baldN dX12_compare_29 hr.1 hr.2.1 (by rw [eb_len] at hp; omega) (by omega) (fun f29 => ?_)
        refine zr_sipush (v := nI 255) dX12_compare_30 (by decide) ?_
        refine zr_iand255 dX12_compare_33 ?_
        refine zr_aload_n dX12_compare_34 rfl ?_
        refine zr_iload_n dX12_compare_35 rfl ?_
        refine zr_iload dX12_compare_36 rfl ?_
        refine zr_iaddN dX12_compare_38 ?_
        refine zr_baldN dX12_compare_39 hk9.1 hk9.2.1 (by omega) (by omega) (fun f39 => ?_)
        refine zr_sipush (v := nI 255) dX12_compare_40 (by decide) ?_
        refine zr_iand255 dX12_compare_43 ?_
        refine zr_isub dX12_compare_44 ?_
        refine zr_istore (lv' := [some (.ref r), some (.int (nI q)), some (.ref k), some (.int (nI off)), some (.int (nI kk.length)), some (.int (nI a.1.length)), some (.int (nI i)), some (.int (((nI (zb (zA M r ((q + 1) + i)))) - (nI (zb (zA M k (off + i)))))))]) dX12_compare_45 (Nat.le_of_ble_eq_true rfl) (Nat.le_of_ble_eq_true rfl) rfl rfl ?_
        refine zr_iload dX12_compare_47 rfl ?_
        refine zr_if_eq 55 dX12_compare_49 (by decide) (fun h49 => ?_) (fun h49 => ?_)
        · refine zr_iincN (n := 1) (lv' := [some (.ref r), some (.int (nI q)), some (.ref k), some (.int (nI off)), some (.int (nI kk.length)), some (.int (nI a.1.length)), some (.int (nI (i + 1))), some (.int (((nI (zb (zA M r ((q + 1) + i)))) - (nI (zb (zA M k (off + i)))))))]) dX12_compare_55 (Nat.le_of_ble_eq_true rfl) (Nat.le_of_ble_eq_true rfl) rfl rfl rfl ?_
          refine zr_goto 8 dX12_compare_58 (by decide) ?_
          refine zr_drop 7 rfl ?_
          refine ih _ (by omega) (i + 1) rfl (by omega) (by omega) (fun j hj => ?_)
          rcases Nat.lt_or_ge j i with z | z
          · exact heq j z
          · rw [show j = i by omega]; exact (zdiff (Nat.lt_trans (zb_lt _) (by decide)) (Nat.lt_trans (zb_lt _) (by decide))).2.mp h49
        · refine zr_iload dX12_compare_52 rfl ?_
          refine zr_iret dX12_compare_54 rfl ?_
          refine hq _ ?_ ?_
          · rw [(zdiff (Nat.lt_trans (zb_lt _) (by decide)) (Nat.lt_trans (zb_lt _) (by decide))).1, hkl9]
            have hd9 : ¬ zb (zA M r (q + 1 + i)) = zb (zA M k (off + i)) := fun z => h49 ((zdiff (Nat.lt_trans (zb_lt _) (by decide)) (Nat.lt_trans (zb_lt _) (by decide))).2.mpr z)
            constructor
            · intro z; exact klt_at i (by omega) (by omega) heq z
            · intro z
              rcases Nat.lt_or_ge (zb (zA M r (q + 1 + i))) (zb (zA M k (off + i))) with z1 | z1
              · exact z1
              · exact absurd (klt_trans _ _ _ z (klt_at i (by omega) (by omega) (fun j hj => (heq j hj).symm) (show zb (zA M k (off + i)) < zb (zA M r (q + 1 + i)) by omega))) (klt_irrefl _)
          · constructor
            · intro z; exact absurd z h49
            · intro z
              have z1 := (rwl_inj (heq9.mp z)).2 i (by omega)
              exact absurd ((zdiff (Nat.lt_trans (zb_lt _) (by decide)) (Nat.lt_trans (zb_lt _) (by decide))).2.mpr z1) h49
set_option maxRecDepth 100000 in
set_option maxHeartbeats 4000000 in
theorem c_compare {G : zG} {d r n q k n2 off : Nat} {a : List Nat × List Nat} {kk : List Nat} {M : zM} (hcb : zC M ≤ 600128 ∧ zS M ≤ 7301098) (hr : Rw8 M r n) (hk9 : Rw8 M k n2) (hE : Ea (zA M r) q a) (hk : a.1.length ≤ 32) (hp : q + (eb a).length ≤ n) (hkk : Rc (fun i => zA M k (off + i)) kk) (hko : off + kk.length ≤ n2)  : zMet G mX12_compare d [.ref r, .int (nI q), .ref k, .int (nI off), .int (nI kk.length)] M (fun o M' => M' = M ∧ ∃ v : Int32, o = .inl (some (.int v)) ∧ (v < 0 ↔ klt a.1 kk) ∧ (v = 0 ↔ a.1 = kk)) := by
  refine zMet_of (by decide +kernel) (Nat.le_of_ble_eq_true rfl) rfl hcb ?_
  show zw G mX12_compare d _ _ _ 0 [some (.ref r), some (.int (nI q)), some (.ref k), some (.int (nI off)), some (.int (nI kk.length)), none, none, none] [] M
  have hb1 := hr.2.2
  refine zr_aload_n dX12_compare_0 rfl ?_
  refine zr_iload_n dX12_compare_1 rfl ?_
  refine zr_baldN dX12_compare_2 hr.1 hr.2.1 (by rw [eb_len] at hp; omega) (by omega) (fun f2 => ?_)
  refine zr_as (y := (nI a.1.length)) (zb_of f2 hE.kl (by omega)) ?_
  refine zr_istore (lv' := [some (.ref r), some (.int (nI q)), some (.ref k), some (.int (nI off)), some (.int (nI kk.length)), some (.int (nI a.1.length)), none, none]) dX12_compare_3 (Nat.le_of_ble_eq_true rfl) (Nat.le_of_ble_eq_true rfl) rfl rfl ?_
  refine zr_iconst (v := nI 0) dX12_compare_5 (by decide) ?_
  refine zr_istore (lv' := [some (.ref r), some (.int (nI q)), some (.ref k), some (.int (nI off)), some (.int (nI kk.length)), some (.int (nI a.1.length)), some (.int (nI 0)), none]) dX12_compare_6 (Nat.le_of_ble_eq_true rfl) (Nat.le_of_ble_eq_true rfl) rfl rfl ?_
  exact l_compare hr hk9 hE hk hp hkk hko (fun v h1 h2 => ⟨rfl, v, rfl, h1, h2⟩) _ 0 rfl (by omega) (by omega) (fun j hj => by omega)
set_option maxRecDepth 100000 in
set_option maxHeartbeats 4000000 in
theorem l_size {G : zG} {d k0 n0 r n q : Nat} {m : Mp} {M : zM} {Q : zOut → zM → Prop} (hd : 1 ≤ d) (hcb : zC M ≤ 600128 ∧ zS M ≤ 7301098) (hr : Rw8 M r n) (hm : Ma (zA M r) q m) (hsh : Shr m) (hp : q + (Mb m).length ≤ n) (hq : Q (.inl (some (.int (nI (msz m))))) M) : ∀ (k : Nat) (pre suf : Mp), suf.length = k → m = pre ++ suf → zw G mX12_size d k0 n0 Q 5 [some (.ref r), some (.int (nI q)), some (.int (nI ((Mb m).length))), some (.int (nI (msz pre))), some (.int (nI (q + (Mb pre).length)))] [] M := by
  intro k
  induction k using Nat.strongRecOn with
  | _ k ih =>
    intro pre suf hl hms
    have hb1 := hr.2.2
    have hple : (Mb pre).length ≤ (Mb m).length := by rw [hms, Mb_app, List.length_append]; omega
    refine zr_iload dX12_size_5 rfl ?_
    refine zr_iload_n dX12_size_7 rfl ?_
    refine zr_iload_n dX12_size_8 rfl ?_
    refine zr_iaddN dX12_size_9 ?_
    refine zr_icmp_geN 39 dX12_size_10 (by decide) (by omega) (by omega) (fun h10 => ?_) (fun h10 => ?_)
    · refine zr_iload_n dX12_size_39 rfl ?_
      refine zr_iret dX12_size_40 rfl ?_
      have hs0 : suf = [] := by
        cases suf with
        | nil => rfl
        | cons a s => exfalso; have z := Mb_pos (a := a) (m := s); rw [hms, Mb_app, List.length_append] at h10; omega
      subst hs0
      rw [List.append_nil] at hms
      subst hms
      exact hq
    · obtain ⟨a, suf9, rfl⟩ : ∃ a s, suf = a :: s := by
        cases suf with
        | nil => exfalso; rw [hms, List.append_nil] at h10; omega
        | cons a s => exact ⟨a, s, rfl⟩
      have hE : Ea (zA M r) (q + (Mb pre).length) a := by rw [hms] at hm; exact hm.at
      have hka := hsh a (by rw [hms]; exact List.mem_append_right _ List.mem_cons_self)
      have hml : (Mb m).length = (Mb pre).length + ((eb a).length + (Mb suf9).length) := by rw [hms, Mb_app, Mb_cons, List.length_append, List.length_append]
      have hel := eb_len a
      have hpa : q + (Mb pre).length + (eb a).length ≤ n := by omega
      refine zr_iload_n dX12_size_13 rfl ?_
      refine zr_bipush (v := nI 6) dX12_size_14 (by decide) ?_
      refine zr_aload_n dX12_size_16 rfl ?_
      refine zr_iload dX12_size_17 rfl ?_
      refine zr_callS (md' := mX12_behind) (As := [.ref r, .int (nI (q + (Mb pre).length))]) dX12_size_19 mlX12_41 okX12_behind rfl stX12_behind rfl (by omega) (Nat.le_of_ble_eq_true rfl) hcb (c_behind (d := d - 1) hcb hr hE hka.1 hpa) (fun k M1 h => by cases h.1) (fun v M9 hq => ?_)
      obtain ⟨e0, e9⟩ := hq
      cases e0
      rw [e9]
      refine zr_iaddN dX12_size_22 ?_
      refine zr_iload dX12_size_23 rfl ?_
      refine zr_isubN dX12_size_25 (by omega) ?_
      refine zr_iaddN dX12_size_26 ?_
      refine zr_istore_n (lv' := [some (.ref r), some (.int (nI q)), some (.int (nI ((Mb m).length))), some (.int (nI ((msz pre) + ((6 + (q + (Mb pre).length + 2 + a.1.length + a.2.length)) - (q + (Mb pre).length))))), some (.int (nI (q + (Mb pre).length)))]) dX12_size_27 (Nat.le_of_ble_eq_true rfl) (Nat.le_of_ble_eq_true rfl) rfl rfl ?_
      refine zr_aload_n dX12_size_28 rfl ?_
      refine zr_iload dX12_size_29 rfl ?_
      refine zr_callS (md' := mX12_behind) (As := [.ref r, .int (nI (q + (Mb pre).length))]) dX12_size_31 mlX12_41 okX12_behind rfl stX12_behind rfl (by omega) (Nat.le_of_ble_eq_true rfl) hcb (c_behind (d := d - 1) hcb hr hE hka.1 hpa) (fun k M1 h => by cases h.1) (fun v M9 hq => ?_)
      obtain ⟨e0, e9⟩ := hq
      cases e0
      rw [e9]
      refine zr_istore (lv' := [some (.ref r), some (.int (nI q)), some (.int (nI ((Mb m).length))), some (.int (nI ((msz pre) + ((6 + (q + (Mb pre).length + 2 + a.1.length + a.2.length)) - (q + (Mb pre).length))))), some (.int (nI (q + (Mb pre).length + 2 + a.1.length + a.2.length)))]) dX12_size_34 (Nat.le_of_ble_eq_true rfl) (Nat.le_of_ble_eq_true rfl) rfl rfl ?_
      refine zr_goto 5 dX12_size_36 (by decide) ?_
      have e1 : ((msz pre) + ((6 + (q + (Mb pre).length + 2 + a.1.length + a.2.length)) - (q + (Mb pre).length))) = msz (pre ++ [a]) := by rw [msz_snoc]; omega
      have e2 : q + (Mb pre).length + 2 + a.1.length + a.2.length = q + (Mb (pre ++ [a])).length := by rw [Mb_sl]; omega
      rw [e1, e2]
      exact ih suf9.length (by rw [← hl, List.length_cons]; omega) (pre ++ [a]) suf9 rfl (by rw [hms, List.append_assoc]; rfl)
set_option maxRecDepth 100000 in
set_option maxHeartbeats 4000000 in
theorem c_size {G : zG} {d r n q : Nat} {m : Mp} {M : zM} (hd : 1 ≤ d) (hcb : zC M ≤ 600128 ∧ zS M ≤ 7301098) (hr : Rw8 M r n) (hm : Ma (zA M r) q m) (hsh : Shr m) (hp : q + (Mb m).length ≤ n)  : zMet G mX12_size d [.ref r, .int (nI q), .int (nI ((Mb m).length))] M (fun o M' => o = .inl (some (.int (nI (msz m)))) ∧ M' = M) := by
  refine zMet_of (by decide +kernel) (Nat.le_of_ble_eq_true rfl) rfl hcb ?_
  show zw G mX12_size d _ _ _ 0 [some (.ref r), some (.int (nI q)), some (.int (nI ((Mb m).length))), none, none] [] M
  refine zr_iconst (v := nI 0) dX12_size_0 (by decide) ?_
  refine zr_istore_n (lv' := [some (.ref r), some (.int (nI q)), some (.int (nI ((Mb m).length))), some (.int (nI 0)), none]) dX12_size_1 (Nat.le_of_ble_eq_true rfl) (Nat.le_of_ble_eq_true rfl) rfl rfl ?_
  refine zr_iload_n dX12_size_2 rfl ?_
  refine zr_istore (lv' := [some (.ref r), some (.int (nI q)), some (.int (nI ((Mb m).length))), some (.int (nI 0)), some (.int (nI q))]) dX12_size_3 (Nat.le_of_ble_eq_true rfl) (Nat.le_of_ble_eq_true rfl) rfl rfl ?_
  exact l_size hd hcb hr hm hsh hp ⟨rfl, rfl⟩ _ [] m rfl rfl
set_option maxRecDepth 100000 in
set_option maxHeartbeats 4000000 in
theorem l_many {G : zG} {d k0 n0 r n q : Nat} {m : Mp} {M : zM} {Q : zOut → zM → Prop} (hd : 1 ≤ d) (hcb : zC M ≤ 600128 ∧ zS M ≤ 7301098) (hr : Rw8 M r n) (hm : Ma (zA M r) q m) (hsh : Shr m) (hp : q + (Mb m).length ≤ n) (hq : Q (.inl (some (.int (nI m.length)))) M) : ∀ (k : Nat) (pre suf : Mp), suf.length = k → m = pre ++ suf → zw G mX12_many d k0 n0 Q 5 [some (.ref r), some (.int (nI q)), some (.int (nI ((Mb m).length))), some (.int (nI pre.length)), some (.int (nI (q + (Mb pre).length)))] [] M := by
  intro k
  induction k using Nat.strongRecOn with
  | _ k ih =>
    intro pre suf hl hms
    have hb1 := hr.2.2
    have hple : (Mb pre).length ≤ (Mb m).length := by rw [hms, Mb_app, List.length_append]; omega
    refine zr_iload dX12_many_5 rfl ?_
    refine zr_iload_n dX12_many_7 rfl ?_
    refine zr_iload_n dX12_many_8 rfl ?_
    refine zr_iaddN dX12_many_9 ?_
    refine zr_icmp_geN 27 dX12_many_10 (by decide) (by omega) (by omega) (fun h10 => ?_) (fun h10 => ?_)
    · refine zr_iload_n dX12_many_27 rfl ?_
      refine zr_iret dX12_many_28 rfl ?_
      have hs0 : suf = [] := by
        cases suf with
        | nil => rfl
        | cons a s => exfalso; have z := Mb_pos (a := a) (m := s); rw [hms, Mb_app, List.length_append] at h10; omega
      subst hs0
      rw [List.append_nil] at hms
      subst hms
      exact hq
    · obtain ⟨a, suf9, rfl⟩ : ∃ a s, suf = a :: s := by
        cases suf with
        | nil => exfalso; rw [hms, List.append_nil] at h10; omega
        | cons a s => exact ⟨a, s, rfl⟩
      have hE : Ea (zA M r) (q + (Mb pre).length) a := by rw [hms] at hm; exact hm.at
      have hka := hsh a (by rw [hms]; exact List.mem_append_right _ List.mem_cons_self)
      have hml : (Mb m).length = (Mb pre).length + ((eb a).length + (Mb suf9).length) := by rw [hms, Mb_app, Mb_cons, List.length_append, List.length_append]
      have hel := eb_len a
      have hpa : q + (Mb pre).length + (eb a).length ≤ n := by omega
      refine zr_iincN (n := 1) (lv' := [some (.ref r), some (.int (nI q)), some (.int (nI ((Mb m).length))), some (.int (nI (pre.length + 1))), some (.int (nI (q + (Mb pre).length)))]) dX12_many_13 (Nat.le_of_ble_eq_true rfl) (Nat.le_of_ble_eq_true rfl) rfl rfl rfl ?_
      refine zr_aload_n dX12_many_16 rfl ?_
      refine zr_iload dX12_many_17 rfl ?_
      refine zr_callS (md' := mX12_behind) (As := [.ref r, .int (nI (q + (Mb pre).length))]) dX12_many_19 mlX12_41 okX12_behind rfl stX12_behind rfl (by omega) (Nat.le_of_ble_eq_true rfl) hcb (c_behind (d := d - 1) hcb hr hE hka.1 hpa) (fun k M1 h => by cases h.1) (fun v M9 hq => ?_)
      obtain ⟨e0, e9⟩ := hq
      cases e0
      rw [e9]
      refine zr_istore (lv' := [some (.ref r), some (.int (nI q)), some (.int (nI ((Mb m).length))), some (.int (nI (pre.length + 1))), some (.int (nI (q + (Mb pre).length + 2 + a.1.length + a.2.length)))]) dX12_many_22 (Nat.le_of_ble_eq_true rfl) (Nat.le_of_ble_eq_true rfl) rfl rfl ?_
      refine zr_goto 5 dX12_many_24 (by decide) ?_
      have e1 : (pre.length + 1) = (pre ++ [a]).length := by rw [List.length_append]; rfl
      have e2 : q + (Mb pre).length + 2 + a.1.length + a.2.length = q + (Mb (pre ++ [a])).length := by rw [Mb_sl]; omega
      rw [e1, e2]
      exact ih suf9.length (by rw [← hl, List.length_cons]; omega) (pre ++ [a]) suf9 rfl (by rw [hms, List.append_assoc]; rfl)
set_option maxRecDepth 100000 in
set_option maxHeartbeats 4000000 in
theorem c_many {G : zG} {d r n q : Nat} {m : Mp} {M : zM} (hd : 1 ≤ d) (hcb : zC M ≤ 600128 ∧ zS M ≤ 7301098) (hr : Rw8 M r n) (hm : Ma (zA M r) q m) (hsh : Shr m) (hp : q + (Mb m).length ≤ n)  : zMet G mX12_many d [.ref r, .int (nI q), .int (nI ((Mb m).length))] M (fun o M' => o = .inl (some (.int (nI m.length))) ∧ M' = M) := by
  refine zMet_of (by decide +kernel) (Nat.le_of_ble_eq_true rfl) rfl hcb ?_
  show zw G mX12_many d _ _ _ 0 [some (.ref r), some (.int (nI q)), some (.int (nI ((Mb m).length))), none, none] [] M
  refine zr_iconst (v := nI 0) dX12_many_0 (by decide) ?_
  refine zr_istore_n (lv' := [some (.ref r), some (.int (nI q)), some (.int (nI ((Mb m).length))), some (.int (nI 0)), none]) dX12_many_1 (Nat.le_of_ble_eq_true rfl) (Nat.le_of_ble_eq_true rfl) rfl rfl ?_
  refine zr_iload_n dX12_many_2 rfl ?_
  refine zr_istore (lv' := [some (.ref r), some (.int (nI q)), some (.int (nI ((Mb m).length))), some (.int (nI 0)), some (.int (nI q))]) dX12_many_3 (Nat.le_of_ble_eq_true rfl) (Nat.le_of_ble_eq_true rfl) rfl rfl ?_
  exact l_many hd hcb hr hm hsh hp ⟨rfl, rfl⟩ _ [] m rfl rfl
