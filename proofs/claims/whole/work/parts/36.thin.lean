/-! ===== LsmStore$Rows.thin ===== -/
/-- a row that stays: the first of its key, or one that a view sees -/
def Nd (D : Nat → Int32) (P : List Nat) (v : Nat → Option Nat) (i : Nat) : Prop := i = 0 ∨ ∃ q x, P[i - 1]? = some q ∧ P[i]? = some x ∧ (eky D q ≠ eky D x ∨ ∃ j, j < 8 ∧ ∃ y, v j = some y ∧ ecm D x ≤ y ∧ y < ecm D q)
def Thn (D : Nat → Int32) (P : List Nat) (v : Nat → Option Nat) (low : Nat) (T : List Nat) : Prop :=
  T.Sublist P ∧ (∀ j e, P[j]? = some e → Nd D P v j → e ∈ T ∨ (low = 1 ∧ zb (D e) = 2 ∧ ∀ f ∈ T, eky D f = eky D e → ecm D e < ecm D f)) ∧ ∀ e ∈ T, ∃ j, P[j]? = some e ∧ Nd D P v j
def ThI (D : Nat → Int32) (P : List Nat) (v : Nat → Option Nat) (low i : Nat) (K : List Nat) : Prop :=
  K.Sublist (P.take i) ∧ (∀ j e, j < i → P[j]? = some e → Nd D P v j → e ∈ K ∨ (low = 1 ∧ zb (D e) = 2 ∧ (∀ f ∈ K, eky D f = eky D e → ecm D e < ecm D f) ∧ ∀ q, P[i - 1]? = some q → eky D q ≠ eky D e)) ∧ ∀ e ∈ K, ∃ j, j < i ∧ P[j]? = some e ∧ Nd D P v j
def ThR (D : Nat → Int32) (P : List Nat) (v : Nat → Option Nat) (low i x : Nat) (K : List Nat) : Prop :=
  K.Sublist (P.take i) ∧ (∀ j e, j < i → P[j]? = some e → Nd D P v j → e ∈ K ∨ (low = 1 ∧ zb (D e) = 2 ∧ (∀ f ∈ K, eky D f = eky D e → ecm D e < ecm D f) ∧ eky D x ≠ eky D e)) ∧ ∀ e ∈ K, ∃ j, j < i ∧ P[j]? = some e ∧ Nd D P v j
theorem ThI.same {D : Nat → Int32} {P : List Nat} {v : Nat → Option Nat} {low i x q : Nat} {K : List Nat} (h : ThI D P v low i K) (hq : P[i - 1]? = some q) (he : eky D q = eky D x) : ThR D P v low i x K :=
  ⟨h.1, fun j e h1 h2 h3 => (h.2.1 j e h1 h2 h3).elim Or.inl (fun ⟨a, b, c, d⟩ => Or.inr ⟨a, b, c, by rw [← he]; exact d q hq⟩), h.2.2⟩
theorem ThI.keep {D : Nat → Int32} {P : List Nat} {v : Nat → Option Nat} {low i x : Nat} {K : List Nat} (h : ThI D P v low i K) (hl : low = 0) : ThR D P v low i x K :=
  ⟨h.1, fun j e h1 h2 h3 => (h.2.1 j e h1 h2 h3).elim Or.inl (fun ⟨a, _⟩ => by omega), h.2.2⟩
theorem Wor.mem {D : Nat → Int32} {K : List Nat} {n : Nat} (h : Wor D K n) {e : Nat} (he : e ∈ K) : e ∈ K.take n ∨ (zb (D e) = 2 ∧ ∃ i, n ≤ i ∧ K[i]? = some e) := by
  obtain ⟨i, hi⟩ := List.getElem?_of_mem he
  rcases Nat.lt_or_ge i n with z | z
  · exact Or.inl (List.mem_of_getElem? (i := i) (by rw [List.getElem?_take_of_lt z]; exact hi))
  · exact Or.inr ⟨h.2.1 i e z hi, i, z, hi⟩
theorem srt_take {D : Nat → Int32} {K : List Nat} {n i e f : Nat} (hs : K.Pairwise (pre D)) (hf : f ∈ K.take n) (hi : n ≤ i) (he : K[i]? = some e) (hk : eky D f = eky D e) : ecm D e < ecm D f := by
  obtain ⟨j, hj⟩ := List.getElem?_of_mem hf
  have hjl := (List.getElem?_eq_some_iff.mp hj).1
  rw [List.length_take] at hjl
  rw [List.getElem?_take_of_lt (by omega)] at hj
  rcases pw_get hs (show j < i by omega) hj he with z | ⟨-, z⟩
  · rw [hk] at z; exact absurd z (klt_irrefl _)
  · exact z
/-- the first of a new key -/
theorem new_key {D : Nat → Int32} {P : List Nat} {i x j e : Nat} (hP : P.Pairwise (pre D)) (hx : P[i]? = some x) (hn : i = 0 ∨ ∃ q, P[i - 1]? = some q ∧ eky D q ≠ eky D x) (hj : j < i) (he : P[j]? = some e) : eky D x ≠ eky D e := by
  rcases hn with hn | ⟨q, hq, hne⟩
  · omega
  · intro z
    have h1 : klt (eky D q) (eky D x) := by
      rcases pw_get hP (show i - 1 < i by omega) hq hx with y | ⟨y, -⟩
      · exact y
      · exact absurd y hne
    have h2 : e = q ∨ pre D e q := by
      rcases Nat.lt_or_ge j (i - 1) with y | y
      · exact Or.inr (pw_get hP y he hq)
      · rw [show j = i - 1 by omega, hq] at he; cases he; exact Or.inl rfl
    have h3 := pre_kltT h2 h1
    rw [z] at h3
    exact klt_irrefl _ h3
theorem ThI.strip {D : Nat → Int32} {P : List Nat} {v : Nat → Option Nat} {low i x n : Nat} {K : List Nat} (hP : P.Pairwise (pre D)) (h : ThI D P v low i K) (hl : low = 1) (hx : P[i]? = some x) (hn : i = 0 ∨ ∃ q, P[i - 1]? = some q ∧ eky D q ≠ eky D x) (hw : Wor D K n) : ThR D P v low i x (K.take n) := by
  have hs : K.Pairwise (pre D) := (hP.sublist (List.take_sublist _ _)).sublist h.1
  refine ⟨(List.take_sublist _ _).trans h.1, fun j e h1 h2 h3 => ?_, fun e he => h.2.2 e (List.mem_of_mem_take he)⟩
  rcases h.2.1 j e h1 h2 h3 with z | ⟨a, b, c, -⟩
  · rcases hw.mem z with z | ⟨z1, y, z2, z3⟩
    · exact Or.inl z
    · exact Or.inr ⟨hl, z1, fun f hf hk => srt_take hs hf z2 z3 hk, new_key hP hx hn h1 h2⟩
  · exact Or.inr ⟨a, b, fun f hf => c f (List.mem_of_mem_take hf), new_key hP hx hn h1 h2⟩
theorem ThR.push {D : Nat → Int32} {P : List Nat} {v : Nat → Option Nat} {low i x : Nat} {K : List Nat} (h : ThR D P v low i x K) (hx : P[i]? = some x) (hn : Nd D P v i) : ThI D P v low (i + 1) (K ++ [x]) := by
  refine ⟨by rw [List.take_succ, hx]; exact h.1.append (List.Sublist.refl _), fun j e h1 h2 h3 => ?_, fun e he => ?_⟩
  · rcases Nat.lt_or_ge j i with z | z
    · rcases h.2.1 j e z h2 h3 with y | ⟨a, b, c, d⟩
      · exact Or.inl (List.mem_append_left _ y)
      · refine Or.inr ⟨a, b, fun f hf hk => ?_, fun q hq => by rw [Nat.add_sub_cancel, hx] at hq; cases hq; exact d⟩
        rcases List.mem_append.mp hf with hf | hf
        · exact c f hf hk
        · cases List.mem_singleton.mp hf; exact absurd hk d
    · rw [show j = i by omega, hx] at h2; cases h2; exact Or.inl (List.mem_append_right _ (List.mem_singleton.mpr rfl))
  · rcases List.mem_append.mp he with he | he
    · obtain ⟨j, a, b⟩ := h.2.2 e he; exact ⟨j, by omega, b⟩
    · cases List.mem_singleton.mp he; exact ⟨i, by omega, hx, hn⟩
theorem ThR.pass {D : Nat → Int32} {P : List Nat} {v : Nat → Option Nat} {low i x : Nat} {K : List Nat} (h : ThR D P v low i x K) (hx : P[i]? = some x) (hn : ¬ Nd D P v i) : ThI D P v low (i + 1) K := by
  refine ⟨by rw [List.take_succ, hx]; exact h.1.trans (List.sublist_append_left _ _), fun j e h1 h2 h3 => ?_, fun e he => ?_⟩
  · rcases Nat.lt_or_ge j i with z | z
    · rcases h.2.1 j e z h2 h3 with y | ⟨a, b, c, d⟩
      · exact Or.inl y
      · exact Or.inr ⟨a, b, c, fun q hq => by rw [Nat.add_sub_cancel, hx] at hq; cases hq; exact d⟩
    · rw [show j = i by omega] at h3; exact absurd h3 hn
  · obtain ⟨j, a, b⟩ := h.2.2 e he; exact ⟨j, by omega, b⟩
theorem ThI.thn {D : Nat → Int32} {P : List Nat} {v : Nat → Option Nat} {low : Nat} {K : List Nat} (h : ThI D P v low P.length K) : Thn D P v low K := by
  refine ⟨by have := h.1; rw [List.take_length] at this; exact this, fun j e h2 h3 => ?_, fun e he => ?_⟩
  · rcases h.2.1 j e (List.getElem?_eq_some_iff.mp h2).1 h2 h3 with y | ⟨a, b, c, -⟩
    · exact Or.inl y
    · exact Or.inr ⟨a, b, c⟩
  · obtain ⟨j, a, b⟩ := h.2.2 e he; exact ⟨j, b⟩
theorem Thn.strip {D : Nat → Int32} {P : List Nat} {v : Nat → Option Nat} {low n : Nat} {K : List Nat} (hP : P.Pairwise (pre D)) (h : Thn D P v low K) (hl : low = 1) (hw : Wor D K n) : Thn D P v low (K.take n) := by
  have hs : K.Pairwise (pre D) := hP.sublist h.1
  refine ⟨(List.take_sublist _ _).trans h.1, fun j e h2 h3 => ?_, fun e he => h.2.2 e (List.mem_of_mem_take he)⟩
  rcases h.2.1 j e h2 h3 with z | ⟨a, b, c⟩
  · rcases hw.mem z with z | ⟨z1, y, z2, z3⟩
    · exact Or.inl z
    · exact Or.inr ⟨hl, z1, fun f hf hk => srt_take hs hf z2 z3 hk⟩
  · exact Or.inr ⟨a, b, fun f hf => c f (List.mem_of_mem_take hf)⟩
theorem Ld.take {g : Nat → Int32} {K : List Nat} (h : Ld g K) (n : Nat) : Ld g (K.take n) := fun i q hi => by
  have hl := (List.getElem?_eq_some_iff.mp hi).1
  rw [List.length_take] at hl
  rw [List.getElem?_take_of_lt (by omega)] at hi
  exact h i q hi
def thM (ad : Nat → Nat) (M : zM) (g : Nat → Int32) : zM := zsetA M (ad 24) g
theorem thM_24 (ad : Nat → Nat) (M : zM) (g : Nat → Int32) : zA (thM ad M g) (ad 24) = g := zsetA_hit _ _ _
theorem thM_A {ad : Nat → Nat} {M : zM} (hL : Lay ad M) (g : Nat → Int32) {i : Nat} (h : i ≠ 24) (hi : i < 582) : zA (thM ad M g) (ad i) = zA M (ad i) := zsetA_ms (M := M) (hL.ne h) rfl
theorem thM_set (ad : Nat → Nat) (M : zM) (g h : Nat → Int32) : zsetA (thM ad M g) (ad 24) h = thM ad M h := zsetA_setA _ _ _ _
theorem thM_vw {ad : Nat → Nat} {M : zM} (hL : Lay ad M) {g : Nat → Int32} {v : Nat → Option Nat} (h : zVw M (ad 13) (ad 14) v) : zVw (thM ad M g) (ad 13) (ad 14) v := ⟨h.1, h.2.1, h.2.2.1, h.2.2.2.1, fun i hi => (congrFun (thM_A hL g (by decide) (by decide)) i).trans (h.2.2.2.2.1 i hi), h.2.2.2.2.2⟩
set_option maxRecDepth 100000 in
set_option maxHeartbeats 4000000 in
theorem t_Rows_thin1 {G : zG} {ad : Nat → Nat} {d k0 n0 low : Nat} {P : List Nat} {v : Nat → Option Nat} {M : zM} {Q : zOut → zM → Prop} (hd : 2 ≤ d) (hcb : zC M ≤ 600128 ∧ zS M ≤ 7301098) (hL : Lay ad M) (hvw : zVw M (ad 13) (ad 14) v) (hcn : zI M 227 (ad 23) = nI P.length) (hpl : P.length ≤ 2048) (hE : Eb (zA M (ad 2)) P) (hP : P.Pairwise (pre (zA M (ad 2)))) (hlw : low ≤ 1) {i x nw : Nat} {pv : Option Nat} {K : List Nat} {g : Nat → Int32} (hk : ∀ (K : List Nat) (g : Nat → Int32), ThI (zA M (ad 2)) P v low (i + 1) K → Ld g K → (∀ j y, i + 1 ≤ j → P[j]? = some y → g j = nI y) → zw G mX7_thin d k0 n0 Q 11 [some (.ref ((ad 23))), some (.ref ((ad 13))), some (.int (nI low)), some (.int (nI K.length)), some (.int (zvi (some x))), some (.int (nI (ecm (zA M (ad 2)) x))), some (.int (nI (i + 1))), none, none, none] [] (thM ad M g)) (hI : ThI (zA M (ad 2)) P v low i K) (hg : Ld g K) (hr : ∀ j y, i ≤ j → P[j]? = some y → g j = nI y) (hx : P[i]? = some x) (hnk : i = 0 ∨ ∃ q, P[i - 1]? = some q ∧ eky (zA M (ad 2)) q ≠ eky (zA M (ad 2)) x) : zw G mX7_thin d k0 n0 Q 70 [some (.ref ((ad 23))), some (.ref ((ad 13))), some (.int (nI low)), some (.int (nI K.length)), some (.int (zvi pv)), some (.int (nI nw)), some (.int (nI i)), some (.int (nI x)), some (.int (nI (ecm (zA M (ad 2)) x))), some (.int (nI 1))] [] (thM ad M g) := by
  have hil := (List.getElem?_eq_some_iff.mp hx).1
  have hKl : K.length ≤ i := by have := hI.1.length_le; rw [List.length_take] at this; omega
  have hEK : Eb (zA M (ad 2)) K := fun e he => hE e (List.mem_of_mem_take (hI.1.subset he))
  refine zr_iload dX7_thin_70 rfl ?_
  refine zr_if_eq 85 dX7_thin_72 (by decide) (fun h72 => absurd h72 (by decide)) (fun h72 => ?_)
  refine zr_iload_n dX7_thin_75 rfl ?_
  refine zr_if_eqN 85 dX7_thin_76 (by decide) (by omega) (fun h76 => ?_) (fun h76 => ?_)
  · refine zr_iload dX7_thin_85 rfl ?_
    refine zr_if_ne 101 dX7_thin_87 (by decide) (fun h87 => ?_) (fun h87 => absurd h87 (by decide))
    refine zr_aload_n dX7_thin_101 rfl ?_
    refine zr_getR dX7_thin_102 lkX7_9 (by decide) (by decide) rfl (hL.K 23 8) (hL.R 225 23 24) ?_
    refine zr_iload_n dX7_thin_105 rfl ?_
    refine zr_iload dX7_thin_106 rfl ?_
    refine zr_iastN dX7_thin_108 (hL.K 24 15) (hL.N 24 2048) (by omega) (by omega) ?_
    refine zr_iincN (n := 1) (lv' := [some (.ref ((ad 23))), some (.ref ((ad 13))), some (.int (nI low)), some (.int (nI (K.length + 1))), some (.int (zvi pv)), some (.int (nI nw)), some (.int (nI i)), some (.int (nI x)), some (.int (nI (ecm (zA M (ad 2)) x))), some (.int (nI 1))]) dX7_thin_109 (Nat.le_of_ble_eq_true rfl) (Nat.le_of_ble_eq_true rfl) rfl rfl rfl ?_
    refine zr_iload dX7_thin_112 rfl ?_
    refine zr_istore (lv' := [some (.ref ((ad 23))), some (.ref ((ad 13))), some (.int (nI low)), some (.int (nI (K.length + 1))), some (.int (nI x)), some (.int (nI nw)), some (.int (nI i)), some (.int (nI x)), some (.int (nI (ecm (zA M (ad 2)) x))), some (.int (nI 1))]) dX7_thin_114 (Nat.le_of_ble_eq_true rfl) (Nat.le_of_ble_eq_true rfl) rfl rfl ?_
    refine zr_iload dX7_thin_116 rfl ?_
    refine zr_istore (lv' := [some (.ref ((ad 23))), some (.ref ((ad 13))), some (.int (nI low)), some (.int (nI (K.length + 1))), some (.int (nI x)), some (.int (nI (ecm (zA M (ad 2)) x))), some (.int (nI i)), some (.int (nI x)), some (.int (nI (ecm (zA M (ad 2)) x))), some (.int (nI 1))]) dX7_thin_118 (Nat.le_of_ble_eq_true rfl) (Nat.le_of_ble_eq_true rfl) rfl rfl ?_
    refine zr_iincN (n := 1) (lv' := [some (.ref ((ad 23))), some (.ref ((ad 13))), some (.int (nI low)), some (.int (nI (K.length + 1))), some (.int (nI x)), some (.int (nI (ecm (zA M (ad 2)) x))), some (.int (nI (i + 1))), some (.int (nI x)), some (.int (nI (ecm (zA M (ad 2)) x))), some (.int (nI 1))]) dX7_thin_120 (Nat.le_of_ble_eq_true rfl) (Nat.le_of_ble_eq_true rfl) rfl rfl rfl ?_
    refine zr_goto 11 dX7_thin_123 (by decide) ?_
    rw [thM_24, thM_set]
    refine zr_drop 7 rfl ?_
    refine zr_drop 8 rfl ?_
    refine zr_drop 9 rfl ?_
    refine zr_asL (lv' := [some (.ref ((ad 23))), some (.ref ((ad 13))), some (.int (nI low)), some (.int (nI ((K ++ [x]).length))), some (.int (zvi (some x))), some (.int (nI (ecm (zA M (ad 2)) x))), some (.int (nI (i + 1))), none, none, none]) (by rw [show (K ++ [x]).length = K.length + 1 from by exact List.length_append]; rfl) ?_
    exact hk (K ++ [x]) (upd g K.length (nI x)) ((hI.keep h76).push hx (hnk.imp id (fun ⟨q, a, b⟩ => ⟨q, x, a, hx, Or.inl b⟩))) (hg.snoc) (fun j y h1 h2 => by unfold upd; rw [if_neg (by omega)]; exact hr j y (by omega) h2)
  · refine zr_aload_n dX7_thin_79 rfl ?_
    refine zr_iload_n dX7_thin_80 rfl ?_
    refine zr_callV (md' := mX7_withoutRemoves) (As := [.int (nI K.length)]) dX7_thin_81 mlX7_49 okX7_withoutRemoves rfl inX7_withoutRemoves slX7_withoutRemoves (by decide) (hL.K 23 8) rfl (by omega) (Nat.le_of_ble_eq_true rfl) hcb (c_Rows_withoutRemoves (d := d - 1) (M := (thM ad M g)) (by omega) hcb hL (by rw [thM_24]; exact hg) (by rw [(thM_A hL g (by decide) (by decide))]; exact hEK) (by omega)) (fun k M1 h => by obtain ⟨-, t, h, -⟩ := h; cases h) (fun v M1 hq => ?_)
    obtain ⟨e1, n, e0, hW⟩ := hq
    cases e0
    rw [e1]
    rw [(thM_A hL g (by decide) (by decide))] at hW
    have hn1 := hW.1
    refine zr_istore_n (lv' := [some (.ref ((ad 23))), some (.ref ((ad 13))), some (.int (nI low)), some (.int (nI n)), some (.int (zvi pv)), some (.int (nI nw)), some (.int (nI i)), some (.int (nI x)), some (.int (nI (ecm (zA M (ad 2)) x))), some (.int (nI 1))]) dX7_thin_84 (Nat.le_of_ble_eq_true rfl) (Nat.le_of_ble_eq_true rfl) rfl rfl ?_
    refine zr_iload dX7_thin_85 rfl ?_
    refine zr_if_ne 101 dX7_thin_87 (by decide) (fun h87 => ?_) (fun h87 => absurd h87 (by decide))
    refine zr_aload_n dX7_thin_101 rfl ?_
    refine zr_getR dX7_thin_102 lkX7_9 (by decide) (by decide) rfl (hL.K 23 8) (hL.R 225 23 24) ?_
    refine zr_iload_n dX7_thin_105 rfl ?_
    refine zr_iload dX7_thin_106 rfl ?_
    refine zr_iastN dX7_thin_108 (hL.K 24 15) (hL.N 24 2048) (by omega) (by omega) ?_
    refine zr_iincN (n := 1) (lv' := [some (.ref ((ad 23))), some (.ref ((ad 13))), some (.int (nI low)), some (.int (nI (n + 1))), some (.int (zvi pv)), some (.int (nI nw)), some (.int (nI i)), some (.int (nI x)), some (.int (nI (ecm (zA M (ad 2)) x))), some (.int (nI 1))]) dX7_thin_109 (Nat.le_of_ble_eq_true rfl) (Nat.le_of_ble_eq_true rfl) rfl rfl rfl ?_
    refine zr_iload dX7_thin_112 rfl ?_
    refine zr_istore (lv' := [some (.ref ((ad 23))), some (.ref ((ad 13))), some (.int (nI low)), some (.int (nI (n + 1))), some (.int (nI x)), some (.int (nI nw)), some (.int (nI i)), some (.int (nI x)), some (.int (nI (ecm (zA M (ad 2)) x))), some (.int (nI 1))]) dX7_thin_114 (Nat.le_of_ble_eq_true rfl) (Nat.le_of_ble_eq_true rfl) rfl rfl ?_
    refine zr_iload dX7_thin_116 rfl ?_
    refine zr_istore (lv' := [some (.ref ((ad 23))), some (.ref ((ad 13))), some (.int (nI low)), some (.int (nI (n + 1))), some (.int (nI x)), some (.int (nI (ecm (zA M (ad 2)) x))), some (.int (nI i)), some (.int (nI x)), some (.int (nI (ecm (zA M (ad 2)) x))), some (.int (nI 1))]) dX7_thin_118 (Nat.le_of_ble_eq_true rfl) (Nat.le_of_ble_eq_true rfl) rfl rfl ?_
    refine zr_iincN (n := 1) (lv' := [some (.ref ((ad 23))), some (.ref ((ad 13))), some (.int (nI low)), some (.int (nI (n + 1))), some (.int (nI x)), some (.int (nI (ecm (zA M (ad 2)) x))), some (.int (nI (i + 1))), some (.int (nI x)), some (.int (nI (ecm (zA M (ad 2)) x))), some (.int (nI 1))]) dX7_thin_120 (Nat.le_of_ble_eq_true rfl) (Nat.le_of_ble_eq_true rfl) rfl rfl rfl ?_
    refine zr_goto 11 dX7_thin_123 (by decide) ?_
    have hln : (K.take n).length = n := by rw [List.length_take]; omega
    rw [thM_24, thM_set]
    refine zr_drop 7 rfl ?_
    refine zr_drop 8 rfl ?_
    refine zr_drop 9 rfl ?_
    refine zr_asL (lv' := [some (.ref ((ad 23))), some (.ref ((ad 13))), some (.int (nI low)), some (.int (nI ((K.take n ++ [x]).length))), some (.int (zvi (some x))), some (.int (nI (ecm (zA M (ad 2)) x))), some (.int (nI (i + 1))), none, none, none]) (by rw [show (K.take n ++ [x]).length = n + 1 from by rw [List.length_append, hln]; rfl]; rfl) ?_
    exact hk (K.take n ++ [x]) (upd g n (nI x)) ((hI.strip hP (by omega) hx hnk hW).push hx (hnk.imp id (fun ⟨q, a, b⟩ => ⟨q, x, a, hx, Or.inl b⟩))) (by have := (hg.take n).snoc (a := x); rw [hln] at this; exact this) (fun j y h1 h2 => by unfold upd; rw [if_neg (by omega)]; exact hr j y (by omega) h2)
set_option maxRecDepth 100000 in
set_option maxHeartbeats 4000000 in
theorem t_Rows_thin0 {G : zG} {ad : Nat → Nat} {d k0 n0 low : Nat} {P : List Nat} {v : Nat → Option Nat} {M : zM} {Q : zOut → zM → Prop} (hd : 2 ≤ d) (hcb : zC M ≤ 600128 ∧ zS M ≤ 7301098) (hL : Lay ad M) (hvw : zVw M (ad 13) (ad 14) v) (hcn : zI M 227 (ad 23) = nI P.length) (hpl : P.length ≤ 2048) (hE : Eb (zA M (ad 2)) P) (hP : P.Pairwise (pre (zA M (ad 2)))) (hlw : low ≤ 1) {i x q : Nat} {K : List Nat} {g : Nat → Int32} (hk : ∀ (K : List Nat) (g : Nat → Int32), ThI (zA M (ad 2)) P v low (i + 1) K → Ld g K → (∀ j y, i + 1 ≤ j → P[j]? = some y → g j = nI y) → zw G mX7_thin d k0 n0 Q 11 [some (.ref ((ad 23))), some (.ref ((ad 13))), some (.int (nI low)), some (.int (nI K.length)), some (.int (zvi (some x))), some (.int (nI (ecm (zA M (ad 2)) x))), some (.int (nI (i + 1))), none, none, none] [] (thM ad M g)) (hI : ThI (zA M (ad 2)) P v low i K) (hg : Ld g K) (hr : ∀ j y, i ≤ j → P[j]? = some y → g j = nI y) (hx : P[i]? = some x) (hi1 : 1 ≤ i) (hq9 : P[i - 1]? = some q) (heq : eky (zA M (ad 2)) q = eky (zA M (ad 2)) x) : zw G mX7_thin d k0 n0 Q 70 [some (.ref ((ad 23))), some (.ref ((ad 13))), some (.int (nI low)), some (.int (nI K.length)), some (.int (nI q)), some (.int (nI (ecm (zA M (ad 2)) q))), some (.int (nI i)), some (.int (nI x)), some (.int (nI (ecm (zA M (ad 2)) x))), some (.int (nI 0))] [] (thM ad M g) := by
  have hil := (List.getElem?_eq_some_iff.mp hx).1
  have hKl : K.length ≤ i := by have := hI.1.length_le; rw [List.length_take] at this; omega
  have hEK : Eb (zA M (ad 2)) K := fun e he => hE e (List.mem_of_mem_take (hI.1.subset he))
  refine zr_iload dX7_thin_70 rfl ?_
  refine zr_if_eq 85 dX7_thin_72 (by decide) (fun h72 => ?_) (fun h72 => absurd rfl h72)
  refine zr_iload dX7_thin_85 rfl ?_
  refine zr_if_ne 101 dX7_thin_87 (by decide) (fun h87 => absurd rfl h87) (fun h87 => ?_)
  refine zr_aload_n dX7_thin_90 rfl ?_
  refine zr_iload dX7_thin_91 rfl ?_
  refine zr_iload dX7_thin_93 rfl ?_
  refine zr_callV (md' := mX9_see) (As := [.int (nI (ecm (zA M (ad 2)) x)), .int (nI (ecm (zA M (ad 2)) q))]) dX7_thin_95 mlX7_53 okX9_see rfl inX9_see slX9_see (by decide) (hL.K 13 10) rfl (by omega) (Nat.le_of_ble_eq_true rfl) hcb (c_Views_see (d := d - 1) (M := (thM ad M g)) hcb (thM_vw hL hvw) (hE x (List.mem_of_getElem? hx)).2 (hE q (List.mem_of_getElem? hq9)).2) (fun k M1 h => by rcases h with ⟨-, h, -⟩ | ⟨-, h, -⟩ <;> cases h) (fun v9 M1 hq => ?_)
  obtain ⟨t, ht, e0, e1, htk⟩ : ∃ t : Nat, t ≤ 1 ∧ v9 = some (.int (nI t)) ∧ M1 = (thM ad M g) ∧ (t = 1 ↔ ∃ j, j < 8 ∧ ∃ y, v j = some y ∧ ecm (zA M (ad 2)) x ≤ y ∧ y < ecm (zA M (ad 2)) q) := by
    rcases hq with ⟨h, h1, h2⟩ | ⟨h, h1, h2⟩
    · cases h1; exact ⟨1, by decide, rfl, h2, fun _ => h, fun _ => rfl⟩
    · cases h1; exact ⟨0, by decide, rfl, h2, fun z => absurd z (by decide), fun ⟨j, a, y, b, c⟩ => absurd c (h j a y b)⟩
  cases e0
  rw [e1]
  refine zr_if_eqN 112 dX7_thin_98 (by decide) (by omega) (fun h98 => ?_) (fun h98 => ?_)
  · refine zr_iload dX7_thin_112 rfl ?_
    refine zr_istore (lv' := [some (.ref ((ad 23))), some (.ref ((ad 13))), some (.int (nI low)), some (.int (nI K.length)), some (.int (nI x)), some (.int (nI (ecm (zA M (ad 2)) q))), some (.int (nI i)), some (.int (nI x)), some (.int (nI (ecm (zA M (ad 2)) x))), some (.int (nI 0))]) dX7_thin_114 (Nat.le_of_ble_eq_true rfl) (Nat.le_of_ble_eq_true rfl) rfl rfl ?_
    refine zr_iload dX7_thin_116 rfl ?_
    refine zr_istore (lv' := [some (.ref ((ad 23))), some (.ref ((ad 13))), some (.int (nI low)), some (.int (nI K.length)), some (.int (nI x)), some (.int (nI (ecm (zA M (ad 2)) x))), some (.int (nI i)), some (.int (nI x)), some (.int (nI (ecm (zA M (ad 2)) x))), some (.int (nI 0))]) dX7_thin_118 (Nat.le_of_ble_eq_true rfl) (Nat.le_of_ble_eq_true rfl) rfl rfl ?_
    refine zr_iincN (n := 1) (lv' := [some (.ref ((ad 23))), some (.ref ((ad 13))), some (.int (nI low)), some (.int (nI K.length)), some (.int (nI x)), some (.int (nI (ecm (zA M (ad 2)) x))), some (.int (nI (i + 1))), some (.int (nI x)), some (.int (nI (ecm (zA M (ad 2)) x))), some (.int (nI 0))]) dX7_thin_120 (Nat.le_of_ble_eq_true rfl) (Nat.le_of_ble_eq_true rfl) rfl rfl rfl ?_
    refine zr_goto 11 dX7_thin_123 (by decide) ?_
    refine zr_drop 7 rfl ?_
    refine zr_drop 8 rfl ?_
    refine zr_drop 9 rfl ?_
    refine zr_asL (lv' := [some (.ref ((ad 23))), some (.ref ((ad 13))), some (.int (nI low)), some (.int (nI ((K).length))), some (.int (zvi (some x))), some (.int (nI (ecm (zA M (ad 2)) x))), some (.int (nI (i + 1))), none, none, none]) (by rw [show (K).length = K.length from by rfl]; rfl) ?_
    exact hk (K) g ((hI.same hq9 heq).pass hx (fun z => z.elim (fun y => by omega) (fun ⟨q1, x1, a, b, c⟩ => by rw [hq9] at a; rw [hx] at b; cases a; cases b; exact c.elim (fun y => y heq) (fun y => absurd (htk.mpr y) (by omega))))) hg (fun j y h1 h2 => hr j y (by omega) h2)
  · refine zr_aload_n dX7_thin_101 rfl ?_
    refine zr_getR dX7_thin_102 lkX7_9 (by decide) (by decide) rfl (hL.K 23 8) (hL.R 225 23 24) ?_
    refine zr_iload_n dX7_thin_105 rfl ?_
    refine zr_iload dX7_thin_106 rfl ?_
    refine zr_iastN dX7_thin_108 (hL.K 24 15) (hL.N 24 2048) (by omega) (by omega) ?_
    refine zr_iincN (n := 1) (lv' := [some (.ref ((ad 23))), some (.ref ((ad 13))), some (.int (nI low)), some (.int (nI (K.length + 1))), some (.int (nI q)), some (.int (nI (ecm (zA M (ad 2)) q))), some (.int (nI i)), some (.int (nI x)), some (.int (nI (ecm (zA M (ad 2)) x))), some (.int (nI 0))]) dX7_thin_109 (Nat.le_of_ble_eq_true rfl) (Nat.le_of_ble_eq_true rfl) rfl rfl rfl ?_
    refine zr_iload dX7_thin_112 rfl ?_
    refine zr_istore (lv' := [some (.ref ((ad 23))), some (.ref ((ad 13))), some (.int (nI low)), some (.int (nI (K.length + 1))), some (.int (nI x)), some (.int (nI (ecm (zA M (ad 2)) q))), some (.int (nI i)), some (.int (nI x)), some (.int (nI (ecm (zA M (ad 2)) x))), some (.int (nI 0))]) dX7_thin_114 (Nat.le_of_ble_eq_true rfl) (Nat.le_of_ble_eq_true rfl) rfl rfl ?_
    refine zr_iload dX7_thin_116 rfl ?_
    refine zr_istore (lv' := [some (.ref ((ad 23))), some (.ref ((ad 13))), some (.int (nI low)), some (.int (nI (K.length + 1))), some (.int (nI x)), some (.int (nI (ecm (zA M (ad 2)) x))), some (.int (nI i)), some (.int (nI x)), some (.int (nI (ecm (zA M (ad 2)) x))), some (.int (nI 0))]) dX7_thin_118 (Nat.le_of_ble_eq_true rfl) (Nat.le_of_ble_eq_true rfl) rfl rfl ?_
    refine zr_iincN (n := 1) (lv' := [some (.ref ((ad 23))), some (.ref ((ad 13))), some (.int (nI low)), some (.int (nI (K.length + 1))), some (.int (nI x)), some (.int (nI (ecm (zA M (ad 2)) x))), some (.int (nI (i + 1))), some (.int (nI x)), some (.int (nI (ecm (zA M (ad 2)) x))), some (.int (nI 0))]) dX7_thin_120 (Nat.le_of_ble_eq_true rfl) (Nat.le_of_ble_eq_true rfl) rfl rfl rfl ?_
    refine zr_goto 11 dX7_thin_123 (by decide) ?_
    rw [thM_24, thM_set]
    refine zr_drop 7 rfl ?_
    refine zr_drop 8 rfl ?_
    refine zr_drop 9 rfl ?_
    refine zr_asL (lv' := [some (.ref ((ad 23))), some (.ref ((ad 13))), some (.int (nI low)), some (.int (nI ((K ++ [x]).length))), some (.int (zvi (some x))), some (.int (nI (ecm (zA M (ad 2)) x))), some (.int (nI (i + 1))), none, none, none]) (by rw [show (K ++ [x]).length = K.length + 1 from by exact List.length_append]; rfl) ?_
    exact hk (K ++ [x]) (upd g K.length (nI x)) ((hI.same hq9 heq).push hx (Or.inr ⟨q, x, hq9, hx, Or.inr (htk.mp (by omega))⟩)) (hg.snoc) (fun j y h1 h2 => by unfold upd; rw [if_neg (by omega)]; exact hr j y (by omega) h2)
set_option maxRecDepth 100000 in
set_option maxHeartbeats 4000000 in
theorem l_Rows_thin {G : zG} {ad : Nat → Nat} {d k0 n0 low : Nat} {P : List Nat} {v : Nat → Option Nat} {M : zM} {Q : zOut → zM → Prop} (hd : 2 ≤ d) (hcb : zC M ≤ 600128 ∧ zS M ≤ 7301098) (hL : Lay ad M) (hvw : zVw M (ad 13) (ad 14) v) (hcn : zI M 227 (ad 23) = nI P.length) (hpl : P.length ≤ 2048) (hE : Eb (zA M (ad 2)) P) (hP : P.Pairwise (pre (zA M (ad 2)))) (hlw : low ≤ 1) (hq9 : ∀ (K : List Nat) (g : Nat → Int32), Thn (zA M (ad 2)) P v low K → Ld g K → zw G mX7_thin d k0 n0 Q 126 [some (.ref ((ad 23))), some (.ref ((ad 13))), some (.int (nI low)), some (.int (nI K.length)), none, none, some (.int (nI P.length)), none, none, none] [] (thM ad M g)) : ∀ (m i : Nat) (K : List Nat) (pv : Option Nat) (nw : Nat) (g : Nat → Int32), P.length - i = m → i ≤ P.length → pv = (if i = 0 then none else P[i - 1]?) → (∀ q, pv = some q → nw = ecm (zA M (ad 2)) q) → ThI (zA M (ad 2)) P v low i K → Ld g K → (∀ j y, i ≤ j → P[j]? = some y → g j = nI y) → zw G mX7_thin d k0 n0 Q 11 [some (.ref ((ad 23))), some (.ref ((ad 13))), some (.int (nI low)), some (.int (nI K.length)), some (.int (zvi pv)), some (.int (nI nw)), some (.int (nI i)), none, none, none] [] (thM ad M g) := by
  intro m
  induction m using Nat.strongRecOn with
  | _ m ih =>
    intro i K pv nw g hm hi hpv hnw hI hg hr
    refine zr_iload dX7_thin_11 rfl ?_
    refine zr_aload_n dX7_thin_13 rfl ?_
    refine zr_getI dX7_thin_14 lkX7_22 (by decide) (by decide) rfl (hL.K 23 8) ?_
    refine zr_as (y := (nI P.length)) hcn ?_
    refine zr_icmp_geN 126 dX7_thin_17 (by decide) (by omega) (by omega) (fun h17 => ?_) (fun h17 => ?_)
    · have e9 : i = P.length := by omega
      subst e9
      refine zr_drop 4 rfl ?_
      refine zr_drop 5 rfl ?_
      exact hq9 K g hI.thn hg
    · obtain ⟨x, hx⟩ : ∃ x, P[i]? = some x := ⟨_, List.getElem?_eq_getElem (by omega)⟩
      have hbpv : ∀ c, pv = some c → c < 2 ^ 31 := fun c hc => by
        by_cases e : i = 0
        · rw [hpv, if_pos e] at hc; cases hc
        · rw [hpv, if_neg e] at hc; have := (hE c (List.mem_of_getElem? hc)).1; omega
      refine zr_aload_n dX7_thin_20 rfl ?_
      refine zr_getR dX7_thin_21 lkX7_9 (by decide) (by decide) rfl (hL.K 23 8) (hL.R 225 23 24) ?_
      refine zr_iload dX7_thin_24 rfl ?_
      refine zr_ialdN dX7_thin_26 (hL.K 24 15) (hL.N 24 2048) (by omega) (by omega) ?_
      refine zr_as (y := (nI x)) ((congrFun (thM_24 _ _ _) _).trans (hr i x (Nat.le_refl _) hx)) ?_
      refine zr_istore (lv' := [some (.ref ((ad 23))), some (.ref ((ad 13))), some (.int (nI low)), some (.int (nI K.length)), some (.int (zvi pv)), some (.int (nI nw)), some (.int (nI i)), some (.int (nI x)), none, none]) dX7_thin_27 (Nat.le_of_ble_eq_true rfl) (Nat.le_of_ble_eq_true rfl) rfl rfl ?_
      refine zr_aload_n dX7_thin_29 rfl ?_
      refine zr_getR dX7_thin_30 lkX7_18 (by decide) (by decide) rfl (hL.K 23 8) (hL.R 224 23 1) ?_
      refine zr_iload dX7_thin_33 rfl ?_
      refine zr_iconst (v := nI 4) dX7_thin_35 (by decide) ?_
      refine zr_iaddN dX7_thin_36 ?_
      refine zr_iconst (v := nI 4) dX7_thin_37 (by decide) ?_
      refine zr_callV (md' := mX1_number) (As := [.int (nI (x + 4)), .int (nI 4)]) dX7_thin_38 mlX7_42 okX1_number rfl inX1_number slX1_number (by decide) (hL.K 1 2) rfl (by omega) (Nat.le_of_ble_eq_true rfl) hcb (c_Disk_number (d := d - 1) (M := (thM ad M g)) hcb (Lay.dk hL) (by have := (hE x (List.mem_of_getElem? hx)).1; omega) (by decide) (by rw [(thM_A hL g (by decide) (by decide))]; exact (hE x (List.mem_of_getElem? hx)).2)) (fun k M1 h => by cases h.1) (fun v M1 hq => ?_)
      obtain ⟨e0, e1⟩ := hq
      cases e0
      rw [e1]
      rw [(thM_A hL g (by decide) (by decide))]
      refine zr_as (y := nI (ecm (zA M (ad 2)) x)) rfl ?_
      refine zr_istore (lv' := [some (.ref ((ad 23))), some (.ref ((ad 13))), some (.int (nI low)), some (.int (nI K.length)), some (.int (zvi pv)), some (.int (nI nw)), some (.int (nI i)), some (.int (nI x)), some (.int (nI (ecm (zA M (ad 2)) x))), none]) dX7_thin_41 (Nat.le_of_ble_eq_true rfl) (Nat.le_of_ble_eq_true rfl) rfl rfl ?_
      refine zr_iload dX7_thin_43 rfl ?_
      refine zr_iconst (v := -1) dX7_thin_45 (by decide) ?_
      refine zr_icmp_eqO 63 dX7_thin_46 (by decide) hbpv (fun h46 => ?_) (fun pvv h46 => ?_)
      · subst h46
        have hi0 : i = 0 := Classical.byContradiction (fun e => by rw [if_neg e, List.getElem?_eq_getElem (by omega)] at hpv; cases hpv)
        refine zr_iconst (v := nI 1) dX7_thin_63 (by decide) ?_
        refine zr_goto 68 dX7_thin_64 (by decide) ?_
        refine zr_istore (lv' := [some (.ref ((ad 23))), some (.ref ((ad 13))), some (.int (nI low)), some (.int (nI K.length)), some (.int ((-1))), some (.int (nI nw)), some (.int (nI i)), some (.int (nI x)), some (.int (nI (ecm (zA M (ad 2)) x))), some (.int (nI 1))]) dX7_thin_68 (Nat.le_of_ble_eq_true rfl) (Nat.le_of_ble_eq_true rfl) rfl rfl ?_
        refine zr_asL (lv' := [some (.ref ((ad 23))), some (.ref ((ad 13))), some (.int (nI low)), some (.int (nI K.length)), some (.int (zvi none)), some (.int (nI nw)), some (.int (nI i)), some (.int (nI x)), some (.int (nI (ecm (zA M (ad 2)) x))), some (.int (nI 1))]) rfl ?_
        exact t_Rows_thin1 hd hcb hL hvw hcn hpl hE hP hlw (fun K1 g1 a b c => ih _ (by omega) (i + 1) K1 _ _ g1 rfl (by omega) (by rw [if_neg (by omega), Nat.add_sub_cancel]; exact hx.symm) (fun q hq => by cases hq; rfl) a b c) hI hg hr hx (Or.inl hi0)
      · subst h46
        have hi0 : ¬ i = 0 := fun e => by rw [if_pos e] at hpv; cases hpv
        rw [if_neg hi0] at hpv
        have hq9 := hpv.symm
        refine zr_aload_n dX7_thin_49 rfl ?_
        refine zr_getR dX7_thin_50 lkX7_18 (by decide) (by decide) rfl (hL.K 23 8) (hL.R 224 23 1) ?_
        refine zr_iload dX7_thin_53 rfl ?_
        refine zr_iload dX7_thin_55 rfl ?_
        refine zr_callV (md' := mX1_order) (As := [.int (nI pvv), .int (nI x)]) dX7_thin_57 mlX7_46 okX1_order rfl inX1_order slX1_order (by decide) (hL.K 1 2) rfl (by omega) (Nat.le_of_ble_eq_true rfl) hcb (c_Disk_order (d := d - 1) (M := (thM ad M g)) hcb (Lay.dk hL) (Nat.lt_trans (hE pvv (List.mem_of_getElem? hq9)).1 (by decide)) (Nat.lt_trans (hE x (List.mem_of_getElem? hx)).1 (by decide))) (fun k M1 h => by obtain ⟨r, h, -⟩ := h; cases h) (fun v M1 hq => ?_)
        obtain ⟨r, e0, e1, hr1, hr2⟩ := hq
        cases e0
        rw [e1]
        rw [(thM_A hL g (by decide) (by decide))] at hr2
        refine zr_if_eq 67 dX7_thin_60 (by decide) (fun h60 => ?_) (fun h60 => ?_)
        · refine zr_iconst (v := nI 0) dX7_thin_67 (by decide) ?_
          refine zr_istore (lv' := [some (.ref ((ad 23))), some (.ref ((ad 13))), some (.int (nI low)), some (.int (nI K.length)), some (.int (nI pvv)), some (.int (nI nw)), some (.int (nI i)), some (.int (nI x)), some (.int (nI (ecm (zA M (ad 2)) x))), some (.int (nI 0))]) dX7_thin_68 (Nat.le_of_ble_eq_true rfl) (Nat.le_of_ble_eq_true rfl) rfl rfl ?_
          cases hnw pvv rfl
          exact t_Rows_thin0 hd hcb hL hvw hcn hpl hE hP hlw (fun K1 g1 a b c => ih _ (by omega) (i + 1) K1 _ _ g1 rfl (by omega) (by rw [if_neg (by omega), Nat.add_sub_cancel]; exact hx.symm) (fun q hq => by cases hq; rfl) a b c) hI hg hr hx (by omega) hq9 (hr2.mp h60)
        · refine zr_iconst (v := nI 1) dX7_thin_63 (by decide) ?_
          refine zr_goto 68 dX7_thin_64 (by decide) ?_
          refine zr_istore (lv' := [some (.ref ((ad 23))), some (.ref ((ad 13))), some (.int (nI low)), some (.int (nI K.length)), some (.int (nI pvv)), some (.int (nI nw)), some (.int (nI i)), some (.int (nI x)), some (.int (nI (ecm (zA M (ad 2)) x))), some (.int (nI 1))]) dX7_thin_68 (Nat.le_of_ble_eq_true rfl) (Nat.le_of_ble_eq_true rfl) rfl rfl ?_
          refine zr_asL (lv' := [some (.ref ((ad 23))), some (.ref ((ad 13))), some (.int (nI low)), some (.int (nI K.length)), some (.int (zvi (some pvv))), some (.int (nI nw)), some (.int (nI i)), some (.int (nI x)), some (.int (nI (ecm (zA M (ad 2)) x))), some (.int (nI 1))]) rfl ?_
          exact t_Rows_thin1 hd hcb hL hvw hcn hpl hE hP hlw (fun K1 g1 a b c => ih _ (by omega) (i + 1) K1 _ _ g1 rfl (by omega) (by rw [if_neg (by omega), Nat.add_sub_cancel]; exact hx.symm) (fun q hq => by cases hq; rfl) a b c) hI hg hr hx (Or.inr ⟨pvv, hq9, fun z => h60 (hr2.mpr z)⟩)
set_option maxRecDepth 100000 in
set_option maxHeartbeats 4000000 in
theorem c_Rows_thin {G : zG} {ad : Nat → Nat} {d low : Nat} {P : List Nat} {v : Nat → Option Nat} {M : zM} (hd : 2 ≤ d) (hcb : zC M ≤ 600128 ∧ zS M ≤ 7301098) (hL : Lay ad M) (hvw : zVw M (ad 13) (ad 14) v) (hR : Rs ad M P) (hE : Eb (zA M (ad 2)) P) (hP : P.Pairwise (pre (zA M (ad 2)))) (hlw : low ≤ 1)  : zMet G mX7_thin d [.ref ((ad 23)), .ref ((ad 13)), .int (nI low)] M (fun o M' => o = .inl none ∧ ∃ (g : Nat → Int32) (T : List Nat), M' = rsM ad M g T.length ∧ Ld g T ∧ Thn (zA M (ad 2)) P v low T) := by
  refine zMet_of (by decide +kernel) (Nat.le_of_ble_eq_true rfl) rfl hcb ?_
  show zw G mX7_thin d _ _ _ 0 [some (.ref ((ad 23))), some (.ref ((ad 13))), some (.int (nI low)), none, none, none, none, none, none, none] [] M
  have hpl := hR.2.1
  refine zr_iconst (v := nI 0) dX7_thin_0 (by decide) ?_
  refine zr_istore_n (lv' := [some (.ref ((ad 23))), some (.ref ((ad 13))), some (.int (nI low)), some (.int (nI 0)), none, none, none, none, none, none]) dX7_thin_1 (Nat.le_of_ble_eq_true rfl) (Nat.le_of_ble_eq_true rfl) rfl rfl ?_
  refine zr_iconst (v := -1) dX7_thin_2 (by decide) ?_
  refine zr_istore (lv' := [some (.ref ((ad 23))), some (.ref ((ad 13))), some (.int (nI low)), some (.int (nI 0)), some (.int ((-1))), none, none, none, none, none]) dX7_thin_3 (Nat.le_of_ble_eq_true rfl) (Nat.le_of_ble_eq_true rfl) rfl rfl ?_
  refine zr_iconst (v := nI 0) dX7_thin_5 (by decide) ?_
  refine zr_istore (lv' := [some (.ref ((ad 23))), some (.ref ((ad 13))), some (.int (nI low)), some (.int (nI 0)), some (.int ((-1))), some (.int (nI 0)), none, none, none, none]) dX7_thin_6 (Nat.le_of_ble_eq_true rfl) (Nat.le_of_ble_eq_true rfl) rfl rfl ?_
  refine zr_iconst (v := nI 0) dX7_thin_8 (by decide) ?_
  refine zr_istore (lv' := [some (.ref ((ad 23))), some (.ref ((ad 13))), some (.int (nI low)), some (.int (nI 0)), some (.int ((-1))), some (.int (nI 0)), some (.int (nI 0)), none, none, none]) dX7_thin_9 (Nat.le_of_ble_eq_true rfl) (Nat.le_of_ble_eq_true rfl) rfl rfl ?_
  refine zr_asL (lv' := [some (.ref ((ad 23))), some (.ref ((ad 13))), some (.int (nI low)), some (.int (nI (([] : List Nat).length))), some (.int (zvi none)), some (.int (nI 0)), some (.int (nI 0)), none, none, none]) rfl ?_
  refine zr_asM (M' := thM ad M (zA M (ad 24))) (zsetA_self rfl).symm ?_
  refine l_Rows_thin hd hcb hL hvw hR.1 hR.2.1 hE hP hlw (fun K g hT hg => ?_) _ 0 [] none 0 _ rfl (by omega) rfl (fun q hq => by cases hq) ⟨List.nil_sublist _, fun j e h => by omega, fun e he => by cases he⟩ (fun j y hj => by simp at hj) (fun j y _ hj => hR.2.2 j y hj)
  refine zr_aload_n dX7_thin_126 rfl ?_
  refine zr_iload_n dX7_thin_127 rfl ?_
  refine zr_if_eqN 139 dX7_thin_128 (by decide) (by omega) (fun h128 => ?_) (fun h128 => ?_)
  · refine zr_iload_n dX7_thin_139 rfl ?_
    refine zr_putI dX7_thin_140 lkX7_22 (by decide) (by decide) rfl rfl (hL.K 23 8) ?_
    refine zr_vret dX7_thin_143 rfl ?_
    exact ⟨rfl, g, K, rfl, hg, hT⟩
  · refine zr_aload_n dX7_thin_131 rfl ?_
    refine zr_iload_n dX7_thin_132 rfl ?_
    refine zr_callV (md' := mX7_withoutRemoves) (As := [.int (nI K.length)]) dX7_thin_133 mlX7_49 okX7_withoutRemoves rfl inX7_withoutRemoves slX7_withoutRemoves (by decide) (hL.K 23 8) rfl (by omega) (Nat.le_of_ble_eq_true rfl) hcb (c_Rows_withoutRemoves (d := d - 1) (M := (thM ad M g)) (by omega) hcb hL (by rw [thM_24]; exact hg) (by rw [(thM_A hL g (by decide) (by decide))]; exact fun e he => hE e (hT.1.subset he)) (by have := hT.1.length_le; omega)) (fun k M1 h => by obtain ⟨-, t, h, -⟩ := h; cases h) (fun v M1 hq => ?_)
    obtain ⟨e1, n, e0, hW⟩ := hq
    cases e0
    rw [e1]
    rw [(thM_A hL g (by decide) (by decide))] at hW
    have hn1 := hW.1
    refine zr_goto 140 dX7_thin_136 (by decide) ?_
    refine zr_putI dX7_thin_140 lkX7_22 (by decide) (by decide) rfl rfl (hL.K 23 8) ?_
    refine zr_vret dX7_thin_143 rfl ?_
    have hln : (K.take n).length = n := by rw [List.length_take]; omega
    exact ⟨rfl, g, K.take n, by rw [hln]; rfl, hg.take n, hT.strip hP (by omega) hW⟩
