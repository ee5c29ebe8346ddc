/-! ===== LsmStoreModel (7): set ===== -/
theorem rc_one {f : Nat → Int32} {b : Nat} (h : zb (f 0) = b) : Rc f [b] := fun i c hc => by
  cases i with
  | zero => cases hc; exact h
  | succ i => cases hc
/-- bytes behind a place move to the front -/
theorem rc_cut {F : Nat → Int32} {P X S : List Nat} (h : Rc F (P ++ (X ++ S))) : Rc (va_cpy F F (P.length + X.length) P.length S.length) (P ++ S) := by
  refine Rc.app (h.left.congr (fun i hi => pk_cpy_out (by omega))) ?_
  refine (Rc.right (Rc.right h)).congr (fun i hi => ?_)
  show va_cpy F F (P.length + X.length) P.length S.length (P.length + i) = F (P.length + (X.length + i))
  rw [pk_cpy_in (by omega) (by omega)]
  congr 1
  omega
/-- an entry is put between -/
theorem rc_ins {F Fk Fv : Nat → Int32} {P S : List Nat} {a : List Nat × List Nat} {ko vo : Nat} {x1 x2 : Int32} (h : Rc F (P ++ S)) (hk : Rc (fun i => Fk (ko + i)) a.1) (hv : Rc (fun i => Fv (vo + i)) a.2) (h1 : zb x1 = a.1.length) (h2 : zb x2 = a.2.length) :
    Rc (va_cpy Fv (upd (va_cpy Fk (upd (va_cpy F F P.length (P.length + (2 + a.1.length + a.2.length)) S.length) P.length x1) ko (P.length + 1) a.1.length) (P.length + 1 + a.1.length) x2) vo (P.length + 2 + a.1.length) a.2.length) (P ++ (eb a ++ S)) := by
  obtain ⟨F1, e1⟩ : ∃ z, z = va_cpy F F P.length (P.length + (2 + a.1.length + a.2.length)) S.length := ⟨_, rfl⟩
  rw [← e1]
  obtain ⟨F2, e2⟩ : ∃ z, z = va_cpy Fk (upd F1 P.length x1) ko (P.length + 1) a.1.length := ⟨_, rfl⟩
  rw [← e2]
  have hA : ∀ i, i < P.length → va_cpy Fv (upd F2 (P.length + 1 + a.1.length) x2) vo (P.length + 2 + a.1.length) a.2.length i = F i := fun i hi => by
    rw [pk_cpy_out (by omega)]
    show (if i = P.length + 1 + a.1.length then x2 else F2 i) = F i
    rw [if_neg (by omega), e2, pk_cpy_out (by omega)]
    show (if i = P.length then x1 else F1 i) = F i
    rw [if_neg (by omega), e1, pk_cpy_out (by omega)]
  refine Rc.app (h.left.congr hA) (Rc.app ?_ ?_)
  · show Rc _ ([a.1.length] ++ (a.1 ++ ([a.2.length] ++ a.2)))
    refine Rc.app (rc_one ?_) (Rc.app ?_ (Rc.app (rc_one ?_) ?_))
    · show zb (va_cpy Fv (upd F2 (P.length + 1 + a.1.length) x2) vo (P.length + 2 + a.1.length) a.2.length (P.length + 0)) = _
      rw [pk_cpy_out (by omega)]
      show zb (if P.length + 0 = P.length + 1 + a.1.length then x2 else F2 (P.length + 0)) = _
      rw [if_neg (by omega), e2, pk_cpy_out (by omega)]
      show zb (if P.length + 0 = P.length then x1 else F1 (P.length + 0)) = _
      rw [if_pos (Nat.add_zero _), h1]
    · refine hk.congr (fun i hi => ?_)
      show va_cpy Fv (upd F2 (P.length + 1 + a.1.length) x2) vo (P.length + 2 + a.1.length) a.2.length (P.length + (1 + i)) = Fk (ko + i)
      rw [pk_cpy_out (by omega)]
      show (if P.length + (1 + i) = P.length + 1 + a.1.length then x2 else F2 (P.length + (1 + i))) = _
      rw [if_neg (by omega), e2, pk_cpy_in (by omega) (by omega)]
      congr 1
      omega
    · show zb (va_cpy Fv (upd F2 (P.length + 1 + a.1.length) x2) vo (P.length + 2 + a.1.length) a.2.length (P.length + (1 + (a.1.length + 0)))) = _
      rw [pk_cpy_out (by omega)]
      show zb (if P.length + (1 + (a.1.length + 0)) = P.length + 1 + a.1.length then x2 else F2 (P.length + (1 + (a.1.length + 0)))) = _
      rw [if_pos (by omega), h2]
    · refine hv.congr (fun i hi => ?_)
      show va_cpy Fv (upd F2 (P.length + 1 + a.1.length) x2) vo (P.length + 2 + a.1.length) a.2.length (P.length + (1 + (a.1.length + (1 + i)))) = Fv (vo + i)
      rw [pk_cpy_in (by omega) (by omega)]
      congr 1
      omega
  · refine (Rc.right h).congr (fun i hi => ?_)
    have hel := eb_len a
    show va_cpy Fv (upd F2 (P.length + 1 + a.1.length) x2) vo (P.length + 2 + a.1.length) a.2.length (P.length + ((eb a).length + i)) = F (P.length + i)
    rw [pk_cpy_out (by omega)]
    show (if P.length + ((eb a).length + i) = P.length + 1 + a.1.length then x2 else F2 (P.length + ((eb a).length + i))) = _
    rw [if_neg (by omega), e2, pk_cpy_out (by omega)]
    show (if P.length + ((eb a).length + i) = P.length then x1 else F1 (P.length + ((eb a).length + i))) = _
    rw [if_neg (by omega), e1, pk_cpy_in (by omega) (by omega)]
    congr 1
    omega
/-- the map that is being made -/
def TaN (ad : Nat → Nat) (M : zM) (m : Mp) : Prop := zI M 392 (ad 38) = nI (Mb m).length ∧ Rc (zA M (ad 42)) (Mb m)
theorem TaN.fl {ad : Nat → Nat} {c : Nat} {LF LA LB : List Nat} {M M1 : zM} {m : Mp} (h : TaN ad M m) (hF : Fl ad c LF LA LB M M1) (h1 : 392 ∉ LF := by decide) (h2 : 42 ∉ LA := by decide) : TaN ad M1 m := ⟨(hF.rI h1 (by decide)).trans h.1, by rw [hF.rA (i := 42) h2 (by decide)]; exact h.2⟩
theorem TaN.ma {ad : Nat → Nat} {M : zM} {m : Mp} (h : TaN ad M m) : Ma (zA M (ad 42)) 0 m := h.2.congr (fun i _ => by show zA M (ad 42) (0 + i) = _; rw [Nat.zero_add])
theorem TaN.at {ad : Nat → Nat} {M : zM} {pre suf : Mp} {a : List Nat × List Nat} (h : TaN ad M (pre ++ a :: suf)) : Ea (zA M (ad 42)) (Mb pre).length a := by
  have h1 := h.ma.at
  rwa [Nat.zero_add] at h1
set_option maxRecDepth 100000 in
set_option maxHeartbeats 4000000 in
theorem l_set {G : zG} {ad : Nat → Nat} {d k0 n0 k nk ko v vn : Nat} {vo : Int32} {kk : List Nat} {m : Mp} {M : zM} {Q : zOut → zM → Prop} (hd : 3 ≤ d) (hcb : zC M ≤ 600128 ∧ zS M ≤ 7301098) (hL : Lay ad M) (hk9 : Rw8 M k nk) (hkk : Rc (fun i => zA M k (ko + i)) kk) (hko : ko + kk.length ≤ nk) (hk32 : kk.length ≤ 32) (hN : TaN ad M m) (hsh : Shr m) (hml9 : (Mb m).length + 300 ≤ 70000) (hk : ∀ (pre suf : Mp), m = pre ++ suf → (∀ b ∈ pre, klt b.1 kk) → (∀ b s, suf = b :: s → ¬ klt b.1 kk) → zw G mX12_set d k0 n0 Q 41 [some (.ref ((ad 38))), some (.ref k), some (.int (nI ko)), some (.int (nI kk.length)), some (.ref v), some (.int vo), some (.int (nI vn)), some (.int (nI ((Mb pre).length))), none] [] M) : ∀ (j : Nat) (pre suf : Mp), suf.length = j → m = pre ++ suf → (∀ b ∈ pre, klt b.1 kk) → zw G mX12_set d k0 n0 Q 3 [some (.ref ((ad 38))), some (.ref k), some (.int (nI ko)), some (.int (nI kk.length)), some (.ref v), some (.int vo), some (.int (nI vn)), some (.int (nI ((Mb pre).length))), none] [] M := by
  intro j
  induction j using Nat.strongRecOn with
  | _ j ih =>
    intro pre suf hl hms hinv
    have hple : (Mb pre).length ≤ (Mb m).length := by rw [hms, Mb_app, List.length_append]; omega
    refine zr_iload dX12_set_3 rfl ?_
    refine zr_aload_n dX12_set_5 rfl ?_
    refine zr_getI dX12_set_6 lkX12_45 (by decide) (by decide) rfl (hL.K 38 13) ?_
    refine zr_as (y := (nI ((Mb m).length))) hN.1 ?_
    refine zr_icmp_geN 41 dX12_set_9 (by decide) (by omega) (by omega) (fun h9 => ?_) (fun h9 => ?_)
    · have hs0 : suf = [] := by
        cases suf with
        | nil => rfl
        | cons a s => exfalso; have z := Mb_pos (a := a) (m := s); rw [hms, Mb_app, List.length_append] at h9; omega
      subst hs0
      exact hk pre [] hms hinv (fun b s e => by cases e)
    · obtain ⟨a, suf9, rfl⟩ : ∃ a s, suf = a :: s := by
        cases suf with
        | nil => exfalso; rw [hms, List.append_nil] at h9; omega
        | cons a s => exact ⟨a, s, rfl⟩
      have hE : Ea (zA M (ad 42)) (Mb pre).length a := by rw [hms] at hN; exact hN.at
      have hka := hsh a (by rw [hms]; exact List.mem_append_right _ List.mem_cons_self)
      have hml : (Mb m).length = (Mb pre).length + ((eb a).length + (Mb suf9).length) := by rw [hms, Mb_app, Mb_cons, List.length_append, List.length_append]
      have hel := eb_len a
      have hpa : (Mb pre).length + (eb a).length ≤ 70000 := by omega
      refine zr_aload_n dX12_set_12 rfl ?_
      refine zr_getR dX12_set_13 lkX12_20 (by decide) (by decide) rfl (hL.K 38 13) (hL.R 389 38 42) ?_
      refine zr_iload dX12_set_16 rfl ?_
      refine zr_aload_n dX12_set_18 rfl ?_
      refine zr_iload_n dX12_set_19 rfl ?_
      refine zr_iload_n dX12_set_20 rfl ?_
      refine zr_callS (md' := mX12_compare) (As := [.ref ((ad 42)), .int (nI ((Mb pre).length)), .ref k, .int (nI ko), .int (nI kk.length)]) dX12_set_21 mlX12_48 okX12_compare rfl stX12_compare rfl (by omega) (Nat.le_of_ble_eq_true rfl) hcb (c_compare (d := d - 1) hcb ⟨hL.K 42 14, hL.N 42 70000, by decide⟩ hk9 hE hka.1 hpa (kk := kk) (off := ko) hkk (by omega)) (fun k M1 h => by obtain ⟨_, _, h, _⟩ := h; cases h) (fun v M9 hq => ?_)
      obtain ⟨e9, v9, e0, hv1, hv2⟩ := hq
      cases e0
      rw [e9]
      refine zr_if_ge 41 dX12_set_24 (by decide) (fun h24 => ?_) (fun h24 => ?_)
      · exact hk pre (a :: suf9) hms hinv (fun b s e => by cases e; exact fun z => absurd (Int32.lt_of_le_of_lt h24 (hv1.mpr z)) (by decide))
      · refine zr_aload_n dX12_set_27 rfl ?_
        refine zr_getR dX12_set_28 lkX12_20 (by decide) (by decide) rfl (hL.K 38 13) (hL.R 389 38 42) ?_
        refine zr_iload dX12_set_31 rfl ?_
        refine zr_callS (md' := mX12_behind) (As := [.ref ((ad 42)), .int (nI ((Mb pre).length))]) dX12_set_33 mlX12_41 okX12_behind rfl stX12_behind rfl (by omega) (Nat.le_of_ble_eq_true rfl) hcb (c_behind (d := d - 1) hcb ⟨hL.K 42 14, hL.N 42 70000, by decide⟩ hE hka.1 hpa) (fun k M1 h => by cases h.1) (fun v M9 hq => ?_)
        obtain ⟨e0, e9⟩ := hq
        cases e0
        rw [e9]
        refine zr_istore (lv' := [some (.ref ((ad 38))), some (.ref k), some (.int (nI ko)), some (.int (nI kk.length)), some (.ref v), some (.int vo), some (.int (nI vn)), some (.int (nI ((Mb pre).length + 2 + a.1.length + a.2.length))), none]) dX12_set_36 (Nat.le_of_ble_eq_true rfl) (Nat.le_of_ble_eq_true rfl) rfl rfl ?_
        refine zr_goto 3 dX12_set_38 (by decide) ?_
        have e2 : (Mb pre).length + 2 + a.1.length + a.2.length = (Mb (pre ++ [a])).length := by rw [Mb_sl]; omega
        rw [e2]
        exact ih suf9.length (by rw [← hl, List.length_cons]; omega) (pre ++ [a]) suf9 rfl (by rw [hms, List.append_assoc]; rfl) (fun b hb => by rcases List.mem_append.mp hb with z | z; exact hinv b z; rw [List.mem_singleton.mp z]; exact hv1.mp (Int32.not_le.mp h24))
theorem gt_of {m pre suf : Mp} {a : List Nat × List Nat} {kk : List Nat} (hs : Srt m) (hm : m = pre ++ a :: suf) (h1 : ¬ klt a.1 kk) (h2 : ¬ a.1 = kk) : ∀ b ∈ a :: suf, klt kk b.1 := fun b hb => by
  have h3 : klt kk a.1 := by
    rcases klt_tri a.1 kk with z | z | z
    · exact absurd z h1
    · exact absurd z h2
    · exact z
  unfold Srt at hs
  rw [hm] at hs
  have h4 := (List.pairwise_append.mp hs).2.1
  rcases List.mem_cons.mp hb with z | z
  · rw [z]; exact h3
  · exact klt_trans _ _ _ h3 ((List.pairwise_cons.mp h4).1 b z)
theorem gt_of2 {m pre suf : Mp} {a : List Nat × List Nat} {kk : List Nat} (hs : Srt m) (hm : m = pre ++ a :: suf) (h2 : a.1 = kk) : ∀ b ∈ suf, klt kk b.1 := fun b hb => by
  unfold Srt at hs
  rw [hm] at hs
  rw [← h2]
  exact (List.pairwise_cons.mp (List.pairwise_append.mp hs).2.1).1 b hb
set_option maxRecDepth 100000 in
set_option maxHeartbeats 4000000 in
theorem t_set41 {G : zG} {ad : Nat → Nat} {d k0 n0 k nk ko v vn : Nat} {vo : Int32} {kk : List Nat} {m : Mp} {M : zM} {Q : zOut → zM → Prop} {pre suf : Mp} (hd : 3 ≤ d) (hcb : zC M ≤ 600128 ∧ zS M ≤ 7301098) (hL : Lay ad M) (hk9 : Rw8 M k nk) (hkk : Rc (fun i => zA M k (ko + i)) kk) (hko : ko + kk.length ≤ nk) (hk32 : kk.length ≤ 32) (hN : TaN ad M m) (hsh : Shr m) (hml9 : (Mb m).length + 300 ≤ 70000) (hsr : Srt m) (hms : m = pre ++ suf) (hinv : ∀ b ∈ pre, klt b.1 kk) (hhd : ∀ b s, suf = b :: s → ¬ klt b.1 kk) (hk : ∀ (M' : zM) (A B : Mp), m = A ++ B → Fl ad 0 [392] [42] [] M M' → TaN ad M' (A ++ B) → (∀ b ∈ A, klt b.1 kk) → (∀ b ∈ B, klt kk b.1) → (m = A ++ B ∨ ∃ x, m = A ++ (kk, x) :: B) → zw G mX12_set d k0 n0 Q 112 [some (.ref ((ad 38))), some (.ref k), some (.int (nI ko)), some (.int (nI kk.length)), some (.ref v), some (.int vo), some (.int (nI vn)), some (.int (nI ((Mb A).length))), none] [] M') (hk2 : ∀ (M' : zM) (A B : Mp), Fl ad 0 [392] [42] [] M M' → TaN ad M' (A ++ B) → (∀ b ∈ A, klt b.1 kk) → (∀ b ∈ B, klt kk b.1) → (∃ x, m = A ++ (kk, x) :: B) → zw G mX12_set d k0 n0 Q 112 [some (.ref ((ad 38))), some (.ref k), some (.int (nI ko)), some (.int (nI kk.length)), some (.ref v), some (.int vo), some (.int (nI vn)), some (.int (nI ((Mb A).length))), none] [] M')  : zw G mX12_set d k0 n0 Q 41 [some (.ref ((ad 38))), some (.ref k), some (.int (nI ko)), some (.int (nI kk.length)), some (.ref v), some (.int vo), some (.int (nI vn)), some (.int (nI ((Mb pre).length))), none] [] M := by
  have hple : (Mb pre).length ≤ (Mb m).length := by rw [hms, Mb_app, List.length_append]; omega
  refine zr_iload dX12_set_41 rfl ?_
  refine zr_aload_n dX12_set_43 rfl ?_
  refine zr_getI dX12_set_44 lkX12_45 (by decide) (by decide) rfl (hL.K 38 13) ?_
  refine zr_as (y := (nI ((Mb m).length))) hN.1 ?_
  refine zr_icmp_geN 112 dX12_set_47 (by decide) (by omega) (by omega) (fun h47 => ?_) (fun h47 => ?_)
  · have hs0 : suf = [] := by
      cases suf with
      | nil => rfl
      | cons a s => exfalso; have z := Mb_pos (a := a) (m := s); rw [hms, Mb_app, List.length_append] at h47; omega
    subst hs0
    exact hk M pre [] hms.symm.symm (Fl.refl ad _ _ _ M) (by rw [← hms]; exact hN) hinv (fun b hb => by cases hb) (Or.inl hms)
  · obtain ⟨a, suf9, rfl⟩ : ∃ a s, suf = a :: s := by
      cases suf with
      | nil => exfalso; rw [hms, List.append_nil] at h47; omega
      | cons a s => exact ⟨a, s, rfl⟩
    have hE : Ea (zA M (ad 42)) (Mb pre).length a := by rw [hms] at hN; exact hN.at
    have hka := hsh a (by rw [hms]; exact List.mem_append_right _ List.mem_cons_self)
    have hml : (Mb m).length = (Mb pre).length + ((eb a).length + (Mb suf9).length) := by rw [hms, Mb_app, Mb_cons, List.length_append, List.length_append]
    have hel := eb_len a
    have hpa : (Mb pre).length + (eb a).length ≤ 70000 := by omega
    refine zr_aload_n dX12_set_50 rfl ?_
    refine zr_getR dX12_set_51 lkX12_20 (by decide) (by decide) rfl (hL.K 38 13) (hL.R 389 38 42) ?_
    refine zr_iload dX12_set_54 rfl ?_
    refine zr_aload_n dX12_set_56 rfl ?_
    refine zr_iload_n dX12_set_57 rfl ?_
    refine zr_iload_n dX12_set_58 rfl ?_
    refine zr_callS (md' := mX12_compare) (As := [.ref ((ad 42)), .int (nI ((Mb pre).length)), .ref k, .int (nI ko), .int (nI kk.length)]) dX12_set_59 mlX12_48 okX12_compare rfl stX12_compare rfl (by omega) (Nat.le_of_ble_eq_true rfl) hcb (c_compare (d := d - 1) hcb ⟨hL.K 42 14, hL.N 42 70000, by decide⟩ hk9 hE hka.1 hpa (kk := kk) (off := ko) hkk (by omega)) (fun k M1 h => by obtain ⟨_, _, h, _⟩ := h; cases h) (fun v M9 hq => ?_)
    obtain ⟨e9, v9, e0, hv1, hv2⟩ := hq
    cases e0
    rw [e9]
    refine zr_if_ne 112 dX12_set_62 (by decide) (fun h62 => ?_) (fun h62 => ?_)
    · have hgt : ∀ b ∈ a :: suf9, klt kk b.1 := gt_of hsr hms (hhd a suf9 rfl) (fun z => h62 (hv2.mpr z))
      exact hk M pre (a :: suf9) hms (Fl.refl ad _ _ _ M) (by rw [← hms]; exact hN) hinv hgt (Or.inl hms)
    · refine zr_aload_n dX12_set_65 rfl ?_
      refine zr_getR dX12_set_66 lkX12_20 (by decide) (by decide) rfl (hL.K 38 13) (hL.R 389 38 42) ?_
      refine zr_iload dX12_set_69 rfl ?_
      refine zr_callS (md' := mX12_behind) (As := [.ref ((ad 42)), .int (nI ((Mb pre).length))]) dX12_set_71 mlX12_41 okX12_behind rfl stX12_behind rfl (by omega) (Nat.le_of_ble_eq_true rfl) hcb (c_behind (d := d - 1) hcb ⟨hL.K 42 14, hL.N 42 70000, by decide⟩ hE hka.1 hpa) (fun k M1 h => by cases h.1) (fun v M9 hq => ?_)
      obtain ⟨e0, e9⟩ := hq
      cases e0
      rw [e9]
      refine zr_istore (lv' := [some (.ref ((ad 38))), some (.ref k), some (.int (nI ko)), some (.int (nI kk.length)), some (.ref v), some (.int vo), some (.int (nI vn)), some (.int (nI ((Mb pre).length))), some (.int (nI ((Mb pre).length + 2 + a.1.length + a.2.length)))]) dX12_set_74 (Nat.le_of_ble_eq_true rfl) (Nat.le_of_ble_eq_true rfl) rfl rfl ?_
      refine zr_aload_n dX12_set_76 rfl ?_
      refine zr_getR dX12_set_77 lkX12_20 (by decide) (by decide) rfl (hL.K 38 13) (hL.R 389 38 42) ?_
      refine zr_iload dX12_set_80 rfl ?_
      refine zr_aload_n dX12_set_82 rfl ?_
      refine zr_getR dX12_set_83 lkX12_20 (by decide) (by decide) rfl (hL.K 38 13) (hL.R 389 38 42) ?_
      refine zr_iload dX12_set_86 rfl ?_
      refine zr_aload_n dX12_set_88 rfl ?_
      refine zr_getI dX12_set_89 lkX12_45 (by decide) (by decide) rfl (hL.K 38 13) ?_
      refine zr_as (y := (nI ((Mb m).length))) hN.1 ?_
      refine zr_iload dX12_set_92 rfl ?_
      refine zr_isubN dX12_set_94 (by omega) ?_
      refine zr_copyN dX12_set_95 mlX12_52 (Or.inl ⟨(hL.K 42 14), (hL.K 42 14)⟩) (hL.N 42 70000) (hL.N 42 70000) (by omega) (by omega) (by omega) (by omega) (by omega) (Nat.le_of_ble_eq_true rfl) ?_
      refine zr_aload_n dX12_set_98 rfl ?_
      refine zr_dup dX12_set_99 rfl ?_
      refine zr_getI dX12_set_100 lkX12_45 (by decide) (by decide) rfl (hL.K 38 13) ?_
      refine zr_as (y := (nI ((Mb m).length))) hN.1 ?_
      refine zr_iload dX12_set_103 rfl ?_
      refine zr_iload dX12_set_105 rfl ?_
      refine zr_isubN dX12_set_107 (by omega) ?_
      refine zr_isubN dX12_set_108 (by omega) ?_
      refine zr_putI dX12_set_109 lkX12_45 (by decide) (by decide) rfl rfl (hL.K 38 13) ?_
      obtain ⟨M2, e2⟩ : ∃ z, z = (zput (zsetA M (ad 42) (va_cpy (zA M (ad 42)) (zA M (ad 42)) ((Mb pre).length + 2 + a.1.length + a.2.length) (Mb pre).length ((Mb m).length - ((Mb pre).length + 2 + a.1.length + a.2.length)))) 392 (ad 38) (nI ((Mb m).length - (((Mb pre).length + 2 + a.1.length + a.2.length) - (Mb pre).length)))) := ⟨_, rfl⟩
      rw [← e2]
      have hF2 : Fl ad 0 [392] [42] [] M M2 := by rw [e2]; exact ((Fl.refl ad _ _ _ M).setA hL (i := 42)).put hL (f := 392) (i := 38)
      refine zr_drop 8 rfl ?_
      have hak : a.1 = kk := hv2.mp h62
      have hgt : ∀ b ∈ suf9, klt kk b.1 := gt_of2 hsr hms hak
      have hN2 : TaN ad M2 (pre ++ suf9) := by
        refine ⟨?_, ?_⟩
        · rw [Mb_app, List.length_append, e2]
          refine (zput_hit _ _ _ _).trans ?_
          congr 1
          omega
        · rw [Mb_app, e2]
          rw [show zA (zput (zsetA M (ad 42) (va_cpy (zA M (ad 42)) (zA M (ad 42)) ((Mb pre).length + 2 + a.1.length + a.2.length) (Mb pre).length ((Mb m).length - ((Mb pre).length + 2 + a.1.length + a.2.length)))) 392 (ad 38) (nI ((Mb m).length - (((Mb pre).length + 2 + a.1.length + a.2.length) - (Mb pre).length)))) (ad 42) = (va_cpy (zA M (ad 42)) (zA M (ad 42)) ((Mb pre).length + 2 + a.1.length + a.2.length) (Mb pre).length ((Mb m).length - ((Mb pre).length + 2 + a.1.length + a.2.length))) from zsetA_hit _ _ _]
          have hc := hN.2
          rw [hms, Mb_app, Mb_cons] at hc
          have hc2 := rc_cut hc
          rw [show (Mb pre).length + (eb a).length = (Mb pre).length + 2 + a.1.length + a.2.length by omega, show (Mb suf9).length = (Mb m).length - ((Mb pre).length + 2 + a.1.length + a.2.length) by omega] at hc2
          exact hc2
      exact hk2 M2 pre suf9 hF2 hN2 hinv hgt ⟨a.2, by rw [hms, ← hak]⟩
set_option maxRecDepth 100000 in
set_option maxHeartbeats 4000000 in
theorem t_set112 {G : zG} {ad : Nat → Nat} {d k0 n0 k nk ko v nv vo9 : Nat} {kk V : List Nat} {A B : Mp} {M1 : zM} {Q : zOut → zM → Prop} (hd : 3 ≤ d) (hL1 : Lay ad M1) (hk1 : Rw8 M1 k nk) (hkn : k ≠ ad 42) (hkk1 : Rc (fun i => zA M1 k (ko + i)) kk) (hko : ko + kk.length ≤ nk) (hk32 : kk.length ≤ 32) (hv1 : Rw8 M1 v nv) (hvn : v ≠ ad 42) (hvv1 : Rc (fun i => zA M1 v (vo9 + i)) V) (hvo : vo9 + V.length ≤ nv) (hv200 : V.length ≤ 200) (hN1 : TaN ad M1 (A ++ B)) (hml9 : (Mb (A ++ B)).length + 300 ≤ 70000) (hq0 : ∀ M' : zM, Fl ad 0 [392] [42] [] M1 M' → TaN ad M' (A ++ (kk, V) :: B) → Q (.inl none) M')  : zw G mX12_set d k0 n0 Q 112 [some (.ref ((ad 38))), some (.ref k), some (.int (nI ko)), some (.int (nI kk.length)), some (.ref v), some (.int (nI vo9)), some (.int (nI V.length)), some (.int (nI ((Mb A).length))), none] [] M1 := by
  have hb1 := hk1.2.2
  have hb2 := hv1.2.2
  have hlA9 : (Mb (A ++ B)).length = (Mb A).length + (Mb B).length := by rw [Mb_app, List.length_append]
  refine zr_iload dX12_set_112 rfl ?_
  refine zr_if_geN 118 dX12_set_114 (by decide) (by omega) ?_
  refine zr_iconst (v := nI 2) dX12_set_118 (by decide) ?_
  refine zr_iload_n dX12_set_119 rfl ?_
  refine zr_iaddN dX12_set_120 ?_
  refine zr_iload dX12_set_121 rfl ?_
  refine zr_iaddN dX12_set_123 ?_
  refine zr_istore (lv' := [some (.ref ((ad 38))), some (.ref k), some (.int (nI ko)), some (.int (nI kk.length)), some (.ref v), some (.int (nI vo9)), some (.int (nI V.length)), some (.int (nI ((Mb A).length))), some (.int (nI ((2 + kk.length) + V.length)))]) dX12_set_124 (Nat.le_of_ble_eq_true rfl) (Nat.le_of_ble_eq_true rfl) rfl rfl ?_
  refine zr_aload_n dX12_set_126 rfl ?_
  refine zr_getR dX12_set_127 lkX12_20 (by decide) (by decide) rfl (hL1.K 38 13) (hL1.R 389 38 42) ?_
  refine zr_iload dX12_set_130 rfl ?_
  refine zr_aload_n dX12_set_132 rfl ?_
  refine zr_getR dX12_set_133 lkX12_20 (by decide) (by decide) rfl (hL1.K 38 13) (hL1.R 389 38 42) ?_
  refine zr_iload dX12_set_136 rfl ?_
  refine zr_iload dX12_set_138 rfl ?_
  refine zr_iaddN dX12_set_140 ?_
  refine zr_aload_n dX12_set_141 rfl ?_
  refine zr_getI dX12_set_142 lkX12_45 (by decide) (by decide) rfl (hL1.K 38 13) ?_
  refine zr_as (y := (nI ((Mb (A ++ B)).length))) hN1.1 ?_
  refine zr_iload dX12_set_145 rfl ?_
  refine zr_isubN dX12_set_147 (by omega) ?_
  refine zr_copyN dX12_set_148 mlX12_52 (Or.inl ⟨(hL1.K 42 14), (hL1.K 42 14)⟩) (hL1.N 42 70000) (hL1.N 42 70000) (by omega) (by omega) (by omega) (by omega) (by omega) (Nat.le_of_ble_eq_true rfl) ?_
  refine zr_aload_n dX12_set_151 rfl ?_
  refine zr_dup dX12_set_152 rfl ?_
  refine zr_getI dX12_set_153 lkX12_45 (by decide) (by decide) rfl (hL1.K 38 13) ?_
  refine zr_as (y := (nI ((Mb (A ++ B)).length))) hN1.1 ?_
  refine zr_iload dX12_set_156 rfl ?_
  refine zr_iaddN dX12_set_158 ?_
  refine zr_putI dX12_set_159 lkX12_45 (by decide) (by decide) rfl rfl (hL1.K 38 13) ?_
  obtain ⟨M2, e2⟩ : ∃ z, z = (zput (zsetA M1 (ad 42) (va_cpy (zA M1 (ad 42)) (zA M1 (ad 42)) (Mb A).length ((Mb A).length + ((2 + kk.length) + V.length)) ((Mb (A ++ B)).length - (Mb A).length))) 392 (ad 38) (nI ((Mb (A ++ B)).length + ((2 + kk.length) + V.length)))) := ⟨_, rfl⟩
  rw [← e2]
  have hF2 : Fl ad 0 [392] [42] [] M1 M2 := by rw [e2]; exact ((Fl.refl ad _ _ _ M1).setA hL1 (i := 42)).put hL1 (f := 392) (i := 38)
  have hL2 := hF2.lay hL1
  have h42_2 : zA M2 (ad 42) = va_cpy (zA M1 (ad 42)) (zA M1 (ad 42)) (Mb A).length ((Mb A).length + (2 + kk.length + V.length)) ((Mb (A ++ B)).length - (Mb A).length) := by rw [e2]; exact zsetA_hit _ _ _
  have hka2 : zA M2 k = zA M1 k := by rw [e2]; exact va_up_ne _ _ hkn
  have hva2 : zA M2 v = zA M1 v := by rw [e2]; exact va_up_ne _ _ hvn
  have hk2 : Rw8 M2 k nk := by rw [e2]; exact hk1
  have hv2 : Rw8 M2 v nv := by rw [e2]; exact hv1
  refine zr_aload_n dX12_set_162 rfl ?_
  refine zr_getR dX12_set_163 lkX12_20 (by decide) (by decide) rfl (hL2.K 38 13) (hL2.R 389 38 42) ?_
  refine zr_iload dX12_set_166 rfl ?_
  refine zr_iload_n dX12_set_168 rfl ?_
  refine zr_i2b dX12_set_169 ?_
  refine zr_bastN dX12_set_170 (hL2.K 42 14) (hL2.N 42 70000) (by omega) (by omega) ?_
  obtain ⟨M3, e3⟩ : ∃ z, z = (zsetA M2 (ad 42) (upd (zA M2 (ad 42)) (Mb A).length (vp_nar .byte (Int32.toInt8 (nI kk.length)).toInt32))) := ⟨_, rfl⟩
  rw [← e3]
  have hF3 : Fl ad 0 [392] [42] [] M2 M3 := by rw [e3]; exact (Fl.refl ad _ _ _ M2).setA hL2 (i := 42)
  have hL3 := hF3.lay hL2
  have h42_3 : zA M3 (ad 42) = upd (zA M2 (ad 42)) (Mb A).length (vp_nar .byte (Int32.toInt8 (nI kk.length)).toInt32) := by rw [e3]; exact zsetA_hit _ _ _
  have hka3 : zA M3 k = zA M2 k := by rw [e3]; exact va_up_ne _ _ hkn
  have hva3 : zA M3 v = zA M2 v := by rw [e3]; exact va_up_ne _ _ hvn
  have hk3 : Rw8 M3 k nk := by rw [e3]; exact hk2
  have hv3 : Rw8 M3 v nv := by rw [e3]; exact hv2
  refine zr_aload_n dX12_set_171 rfl ?_
  refine zr_iload_n dX12_set_172 rfl ?_
  refine zr_aload_n dX12_set_173 rfl ?_
  refine zr_getR dX12_set_174 lkX12_20 (by decide) (by decide) rfl (hL3.K 38 13) (hL3.R 389 38 42) ?_
  refine zr_iload dX12_set_177 rfl ?_
  refine zr_iconst (v := nI 1) dX12_set_179 (by decide) ?_
  refine zr_iaddN dX12_set_180 ?_
  refine zr_iload_n dX12_set_181 rfl ?_
  refine zr_copyN dX12_set_182 mlX12_52 (Or.inl ⟨hk3.1, (hL3.K 42 14)⟩) hk3.2.1 (hL3.N 42 70000) (by omega) (by omega) (by omega) (by omega) (by omega) (Nat.le_of_ble_eq_true rfl) ?_
  obtain ⟨M4, e4⟩ : ∃ z, z = (zsetA M3 (ad 42) (va_cpy (zA M3 k) (zA M3 (ad 42)) ko ((Mb A).length + 1) kk.length)) := ⟨_, rfl⟩
  rw [← e4]
  have hF4 : Fl ad 0 [392] [42] [] M3 M4 := by rw [e4]; exact (Fl.refl ad _ _ _ M3).setA hL3 (i := 42)
  have hL4 := hF4.lay hL3
  have h42_4 : zA M4 (ad 42) = va_cpy (zA M3 k) (zA M3 (ad 42)) ko ((Mb A).length + 1) kk.length := by rw [e4]; exact zsetA_hit _ _ _
  have hka4 : zA M4 k = zA M3 k := by rw [e4]; exact va_up_ne _ _ hkn
  have hva4 : zA M4 v = zA M3 v := by rw [e4]; exact va_up_ne _ _ hvn
  have hk4 : Rw8 M4 k nk := by rw [e4]; exact hk3
  have hv4 : Rw8 M4 v nv := by rw [e4]; exact hv3
  refine zr_aload_n dX12_set_185 rfl ?_
  refine zr_getR dX12_set_186 lkX12_20 (by decide) (by decide) rfl (hL4.K 38 13) (hL4.R 389 38 42) ?_
  refine zr_iload dX12_set_189 rfl ?_
  refine zr_iconst (v := nI 1) dX12_set_191 (by decide) ?_
  refine zr_iaddN dX12_set_192 ?_
  refine zr_iload_n dX12_set_193 rfl ?_
  refine zr_iaddN dX12_set_194 ?_
  refine zr_iload dX12_set_195 rfl ?_
  refine zr_i2b dX12_set_197 ?_
  refine zr_bastN dX12_set_198 (hL4.K 42 14) (hL4.N 42 70000) (by omega) (by omega) ?_
  obtain ⟨M5, e5⟩ : ∃ z, z = (zsetA M4 (ad 42) (upd (zA M4 (ad 42)) (((Mb A).length + 1) + kk.length) (vp_nar .byte (Int32.toInt8 (nI V.length)).toInt32))) := ⟨_, rfl⟩
  rw [← e5]
  have hF5 : Fl ad 0 [392] [42] [] M4 M5 := by rw [e5]; exact (Fl.refl ad _ _ _ M4).setA hL4 (i := 42)
  have hL5 := hF5.lay hL4
  have h42_5 : zA M5 (ad 42) = upd (zA M4 (ad 42)) ((Mb A).length + 1 + kk.length) (vp_nar .byte (Int32.toInt8 (nI V.length)).toInt32) := by rw [e5]; exact zsetA_hit _ _ _
  have hka5 : zA M5 k = zA M4 k := by rw [e5]; exact va_up_ne _ _ hkn
  have hva5 : zA M5 v = zA M4 v := by rw [e5]; exact va_up_ne _ _ hvn
  have hk5 : Rw8 M5 k nk := by rw [e5]; exact hk4
  have hv5 : Rw8 M5 v nv := by rw [e5]; exact hv4
  refine zr_aload dX12_set_199 rfl ?_
  refine zr_iload dX12_set_201 rfl ?_
  refine zr_aload_n dX12_set_203 rfl ?_
  refine zr_getR dX12_set_204 lkX12_20 (by decide) (by decide) rfl (hL5.K 38 13) (hL5.R 389 38 42) ?_
  refine zr_iload dX12_set_207 rfl ?_
  refine zr_iconst (v := nI 2) dX12_set_209 (by decide) ?_
  refine zr_iaddN dX12_set_210 ?_
  refine zr_iload_n dX12_set_211 rfl ?_
  refine zr_iaddN dX12_set_212 ?_
  refine zr_iload dX12_set_213 rfl ?_
  refine zr_copyN dX12_set_215 mlX12_52 (Or.inl ⟨hv5.1, (hL5.K 42 14)⟩) hv5.2.1 (hL5.N 42 70000) (by omega) (by omega) (by omega) (by omega) (by omega) (Nat.le_of_ble_eq_true rfl) ?_
  refine zr_vret dX12_set_218 rfl ?_
  obtain ⟨M6, e6⟩ : ∃ z, z = (zsetA M5 (ad 42) (va_cpy (zA M5 v) (zA M5 (ad 42)) vo9 (((Mb A).length + 2) + kk.length) V.length)) := ⟨_, rfl⟩
  rw [← e6]
  have hF6 : Fl ad 0 [392] [42] [] M5 M6 := by rw [e6]; exact (Fl.refl ad _ _ _ M5).setA hL5 (i := 42)
  have hL6 := hF6.lay hL5
  have h42_6 : zA M6 (ad 42) = va_cpy (zA M5 v) (zA M5 (ad 42)) vo9 ((Mb A).length + 2 + kk.length) V.length := by rw [e6]; exact zsetA_hit _ _ _
  have hka6 : zA M6 k = zA M5 k := by rw [e6]; exact va_up_ne _ _ hkn
  have hva6 : zA M6 v = zA M5 v := by rw [e6]; exact va_up_ne _ _ hvn
  have hk6 : Rw8 M6 k nk := by rw [e6]; exact hk5
  have hv6 : Rw8 M6 v nv := by rw [e6]; exact hv5
  have hF16 : Fl ad 0 [392] [42] [] M1 M6 := (((hF2.trans0 hF3).trans0 hF4).trans0 hF5).trans0 hF6
  have h392 : zI M6 392 (ad 38) = nI ((Mb (A ++ B)).length + (2 + kk.length + V.length)) := by
    have z : zI M2 392 (ad 38) = nI ((Mb (A ++ B)).length + (2 + kk.length + V.length)) := by rw [e2]; exact zput_hit _ _ _ _
    rw [e6, e5, e4, e3]; exact z
  have hlA : (Mb (A ++ B)).length = (Mb A).length + (Mb B).length := by rw [Mb_app, List.length_append]
  have hcc := hN1.2
  rw [Mb_app] at hcc
  have hins := rc_ins (a := (kk, V)) (ko := ko) (vo := vo9) (x1 := (vp_nar .byte (Int32.toInt8 (nI kk.length)).toInt32)) (x2 := (vp_nar .byte (Int32.toInt8 (nI V.length)).toInt32)) hcc hkk1 hvv1 (zb_nn (by omega)) (zb_nn (by omega))
  refine hq0 M6 hF16 ⟨?_, ?_⟩
  · rw [h392]
    congr 1
    rw [Mb_app A ((kk, V) :: B), Mb_cons, List.length_append, List.length_append, eb_len]
    show (Mb (A ++ B)).length + (2 + kk.length + V.length) = (Mb A).length + ((2 + kk.length + V.length) + (Mb B).length)
    omega
  · rw [Mb_app, Mb_cons, h42_6, h42_5, h42_4, h42_3, h42_2, hva5, hva4, hva3, hva2, hka3, hka2, show (Mb (A ++ B)).length - (Mb A).length = (Mb B).length by omega]
    exact hins
set_option maxRecDepth 100000 in
set_option maxHeartbeats 4000000 in
theorem c_setS {G : zG} {ad : Nat → Nat} {d k nk ko v nv vo9 : Nat} {kk V : List Nat} {m : Mp} {M : zM} (hd : 3 ≤ d) (hcb : zC M ≤ 600128 ∧ zS M ≤ 7301098) (hL : Lay ad M) (hk9 : Rw8 M k nk) (hkn : k ≠ ad 42) (hkr : ∀ M' : zM, Fl ad 0 [392] [42] [] M M' → zA M' k = zA M k) (hkk : Rc (fun i => zA M k (ko + i)) kk) (hko : ko + kk.length ≤ nk) (hk32 : kk.length ≤ 32) (hN : TaN ad M m) (hsh : Shr m) (hsr : Srt m) (hml9 : (Mb m).length + 300 ≤ 70000) (hv9 : Rw8 M v nv) (hvn : v ≠ ad 42) (hvr : ∀ M' : zM, Fl ad 0 [392] [42] [] M M' → zA M' v = zA M v) (hvv : Rc (fun i => zA M v (vo9 + i)) V) (hvo : vo9 + V.length ≤ nv) (hv200 : V.length ≤ 200)  : zMet G mX12_set d [.ref ((ad 38)), .ref k, .int (nI ko), .int (nI kk.length), .ref v, .int (nI vo9), .int (nI V.length)] M (fun o M' => o = .inl none ∧ Fl ad 0 [392] [42] [] M M' ∧ ∃ m', MSet m kk (some V) m' ∧ TaN ad M' m') := by
  refine zMet_of (by decide +kernel) (Nat.le_of_ble_eq_true rfl) rfl hcb ?_
  show zw G mX12_set d _ _ _ 0 [some (.ref ((ad 38))), some (.ref k), some (.int (nI ko)), some (.int (nI kk.length)), some (.ref v), some (.int (nI vo9)), some (.int (nI V.length)), none, none] [] M
  refine zr_iconst (v := nI 0) dX12_set_0 (by decide) ?_
  refine zr_istore (lv' := [some (.ref ((ad 38))), some (.ref k), some (.int (nI ko)), some (.int (nI kk.length)), some (.ref v), some (.int (nI vo9)), some (.int (nI V.length)), some (.int (nI 0)), none]) dX12_set_1 (Nat.le_of_ble_eq_true rfl) (Nat.le_of_ble_eq_true rfl) rfl rfl ?_
  refine l_set (by omega) hcb hL hk9 hkk hko hk32 hN hsh hml9 (fun pre suf hms hinv hhd => ?_) _ [] m rfl rfl (fun b hb => by cases hb)
  refine t_set41 (by omega) hcb hL hk9 hkk hko hk32 hN hsh hml9 hsr hms hinv hhd (fun M1 A B hAB hF1 hN1 hA hB hcs => ?_) (fun M1 A B hF1 hN1 hA hB hcx => ?_)
  · have hb9 : (Mb (A ++ B)).length + 300 ≤ 70000 := by
      rcases hcs with z | ⟨x, z⟩
      · rw [← z]; exact hml9
      · have e := congrArg (fun y => (Mb y).length) z
        simp only [Mb_app, Mb_cons, List.length_append] at e ⊢
        omega
    have eK : zA M1 k = zA M k := hkr M1 hF1
    have eV : zA M1 v = zA M v := hvr M1 hF1
    refine t_set112 (nk := nk) (nv := nv) (by omega) (hF1.lay hL) ⟨by rw [hF1.2.2.2.2.2.1]; exact hk9.1, by rw [hF1.2.2.2.2.2.2.1]; exact hk9.2.1, hk9.2.2⟩ hkn (by rw [eK]; exact hkk) hko hk32 ⟨by rw [hF1.2.2.2.2.2.1]; exact hv9.1, by rw [hF1.2.2.2.2.2.2.1]; exact hv9.2.1, hv9.2.2⟩ hvn (by rw [eV]; exact hvv) hvo hv200 hN1 hb9 (fun M2 hF2 hN2 => ⟨rfl, hF1.trans0 hF2, _, ⟨A, B, hA, hB, hcs, rfl⟩, hN2⟩)
  · have hcs : m = A ++ B ∨ ∃ x, m = A ++ (kk, x) :: B := Or.inr hcx
    have hb9 : (Mb (A ++ B)).length + 300 ≤ 70000 := by
      rcases hcs with z | ⟨x, z⟩
      · rw [← z]; exact hml9
      · have e := congrArg (fun y => (Mb y).length) z
        simp only [Mb_app, Mb_cons, List.length_append] at e ⊢
        omega
    have eK : zA M1 k = zA M k := hkr M1 hF1
    have eV : zA M1 v = zA M v := hvr M1 hF1
    refine t_set112 (nk := nk) (nv := nv) (by omega) (hF1.lay hL) ⟨by rw [hF1.2.2.2.2.2.1]; exact hk9.1, by rw [hF1.2.2.2.2.2.2.1]; exact hk9.2.1, hk9.2.2⟩ hkn (by rw [eK]; exact hkk) hko hk32 ⟨by rw [hF1.2.2.2.2.2.1]; exact hv9.1, by rw [hF1.2.2.2.2.2.2.1]; exact hv9.2.1, hv9.2.2⟩ hvn (by rw [eV]; exact hvv) hvo hv200 hN1 hb9 (fun M2 hF2 hN2 => ⟨rfl, hF1.trans0 hF2, _, ⟨A, B, hA, hB, hcs, rfl⟩, hN2⟩)
set_option maxRecDepth 100000 in
set_option maxHeartbeats 4000000 in
theorem c_setN {G : zG} {ad : Nat → Nat} {d k nk ko v vn : Nat} {kk : List Nat} {m : Mp} {M : zM} (hd : 3 ≤ d) (hcb : zC M ≤ 600128 ∧ zS M ≤ 7301098) (hL : Lay ad M) (hk9 : Rw8 M k nk) (hkk : Rc (fun i => zA M k (ko + i)) kk) (hko : ko + kk.length ≤ nk) (hk32 : kk.length ≤ 32) (hN : TaN ad M m) (hsh : Shr m) (hsr : Srt m) (hml9 : (Mb m).length + 300 ≤ 70000)  : zMet G mX12_set d [.ref ((ad 38)), .ref k, .int (nI ko), .int (nI kk.length), .ref v, .int ((-1)), .int (nI vn)] M (fun o M' => o = .inl none ∧ Fl ad 0 [392] [42] [] M M' ∧ ∃ m', MSet m kk none m' ∧ TaN ad M' m') := by
  refine zMet_of (by decide +kernel) (Nat.le_of_ble_eq_true rfl) rfl hcb ?_
  show zw G mX12_set d _ _ _ 0 [some (.ref ((ad 38))), some (.ref k), some (.int (nI ko)), some (.int (nI kk.length)), some (.ref v), some (.int ((-1))), some (.int (nI vn)), none, none] [] M
  refine zr_iconst (v := nI 0) dX12_set_0 (by decide) ?_
  refine zr_istore (lv' := [some (.ref ((ad 38))), some (.ref k), some (.int (nI ko)), some (.int (nI kk.length)), some (.ref v), some (.int ((-1))), some (.int (nI vn)), some (.int (nI 0)), none]) dX12_set_1 (Nat.le_of_ble_eq_true rfl) (Nat.le_of_ble_eq_true rfl) rfl rfl ?_
  refine l_set (by omega) hcb hL hk9 hkk hko hk32 hN hsh hml9 (fun pre suf hms hinv hhd => ?_) _ [] m rfl rfl (fun b hb => by cases hb)
  refine t_set41 (by omega) hcb hL hk9 hkk hko hk32 hN hsh hml9 hsr hms hinv hhd (fun M1 A B hAB hF1 hN1 hA hB hcs => ?_) (fun M1 A B hF1 hN1 hA hB hcx => ?_)
  · have hL1 := hF1.lay hL
    refine zr_iload dX12_set_112 rfl ?_
    refine zr_if_ge 118 dX12_set_114 (by decide) (fun h114 => ?_) (fun h114 => ?_)
    · exact absurd h114 (by decide)
    · refine zr_vret dX12_set_117 rfl ?_
      exact ⟨rfl, hF1, _, ⟨A, B, hA, hB, hcs, rfl⟩, hN1⟩
  · have hcs : m = A ++ B ∨ ∃ x, m = A ++ (kk, x) :: B := Or.inr hcx
    refine zr_iload dX12_set_112 rfl ?_
    refine zr_if_ge 118 dX12_set_114 (by decide) (fun h114 => ?_) (fun h114 => ?_)
    · exact absurd h114 (by decide)
    · refine zr_vret dX12_set_117 rfl ?_
      exact ⟨rfl, hF1, _, ⟨A, B, hA, hB, hcs, rfl⟩, hN1⟩
