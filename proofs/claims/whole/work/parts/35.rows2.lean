/-! ===== LsmStore$Rows ===== -/
set_option maxRecDepth 100000 in
set_option maxHeartbeats 4000000 in
theorem c_Rows_clear {G : zG} {ad : Nat → Nat} {d : Nat} {M : zM} (hcb : zC M ≤ 600128 ∧ zS M ≤ 7301098) (hL : Lay ad M)  : zMet G mX7_clear d [.ref ((ad 23))] M (fun o M' => o = .inl none ∧ M' = zput (zput M 227 (ad 23) (nI 0)) 228 (ad 23) (nI 1)) := by
  refine zMet_of (by decide +kernel) (Nat.le_of_ble_eq_true rfl) rfl hcb ?_
  show zw G mX7_clear d _ _ _ 0 [some (.ref ((ad 23)))] [] M
  refine zr_aload_n dX7_clear_0 rfl ?_
  refine zr_iconst (v := nI 0) dX7_clear_1 (by decide) ?_
  refine zr_putI dX7_clear_2 lkX7_22 (by decide) (by decide) rfl rfl (hL.K 23 8) ?_
  refine zr_aload_n dX7_clear_5 rfl ?_
  refine zr_iconst (v := nI 1) dX7_clear_6 (by decide) ?_
  refine zr_putZ dX7_clear_7 lkX7_26 (by decide) (by decide) rfl rfl (Or.inr rfl) (hL.K 23 8) ?_
  refine zr_vret dX7_clear_10 rfl ?_
  exact ⟨rfl, rfl⟩
def blM (ad : Nat → Nat) (M : zM) (g s : Nat → Int32) : zM := zsetA (zsetA M (ad 25) s) (ad 24) g
theorem blM_A {ad : Nat → Nat} {M : zM} (hL : Lay ad M) (g s : Nat → Int32) {i : Nat} (h : i ≠ 24 ∧ i ≠ 25) (hi : i < 582) : zA (blM ad M g s) (ad i) = zA M (ad i) := zsetA_ms (M := zsetA M (ad 25) s) (hL.ne h.1) (zsetA_ms (M := M) (hL.ne h.2) rfl)
theorem blM_24 (ad : Nat → Nat) (M : zM) (g s : Nat → Int32) : zA (blM ad M g s) (ad 24) = g := zsetA_hit _ _ _
theorem blM_25 {ad : Nat → Nat} {M : zM} (hL : Lay ad M) (g s : Nat → Int32) : zA (blM ad M g s) (ad 25) = s := zsetA_ms (M := zsetA M (ad 25) s) (hL.ne (by decide)) (zsetA_hit _ _ _)
theorem blM_set (ad : Nat → Nat) (M : zM) (g s h : Nat → Int32) : zsetA (blM ad M g s) (ad 24) h = blM ad M h s := zsetA_setA _ _ _ _
/-- a merge under way -/
def Mg (D : Nat → Int32) (X1 X2 Y1 Y2 Z : List Nat) : Prop := Z.Pairwise (pre D) ∧ Z.Perm (X1 ++ Y1) ∧ (∀ z ∈ Z, ∀ x ∈ X2, pre D z x) ∧ ∀ z ∈ Z, ∀ y ∈ Y2, pre D z y
theorem Mg.left {D : Nat → Int32} {X1 X2 Y1 Y2 Z : List Nat} {x : Nat} (h : Mg D X1 (x :: X2) Y1 Y2 Z) (hX : (x :: X2).Pairwise (pre D)) (hy : ∀ y ∈ Y2, pre D x y) : Mg D (X1 ++ [x]) X2 Y1 Y2 (Z ++ [x]) := by
  obtain ⟨h1, h2, h3, h4⟩ := h
  refine ⟨List.pairwise_append.mpr ⟨h1, List.pairwise_singleton _ _, fun z hz a ha => by cases List.mem_singleton.mp ha; exact h3 z hz x List.mem_cons_self⟩, ?_, fun z hz a ha => ?_, fun z hz a ha => ?_⟩
  · refine (h2.append_right [x]).trans ?_
    rw [List.append_assoc, List.append_assoc]
    exact List.Perm.append_left X1 List.perm_append_comm
  · rcases List.mem_append.mp hz with hz | hz
    · exact h3 z hz a (List.mem_cons_of_mem _ ha)
    · cases List.mem_singleton.mp hz; exact (List.pairwise_cons.mp hX).1 a ha
  · rcases List.mem_append.mp hz with hz | hz
    · exact h4 z hz a ha
    · cases List.mem_singleton.mp hz; exact hy a ha
theorem Mg.right {D : Nat → Int32} {X1 X2 Y1 Y2 Z : List Nat} {y : Nat} (h : Mg D X1 X2 Y1 (y :: Y2) Z) (hY : (y :: Y2).Pairwise (pre D)) (hx : ∀ x ∈ X2, pre D y x) : Mg D X1 X2 (Y1 ++ [y]) Y2 (Z ++ [y]) := by
  obtain ⟨h1, h2, h3, h4⟩ := h
  refine ⟨List.pairwise_append.mpr ⟨h1, List.pairwise_singleton _ _, fun z hz a ha => by cases List.mem_singleton.mp ha; exact h4 z hz y List.mem_cons_self⟩, ?_, fun z hz a ha => ?_, fun z hz a ha => ?_⟩
  · rw [← List.append_assoc]
    exact h2.append_right [y]
  · rcases List.mem_append.mp hz with hz | hz
    · exact h3 z hz a ha
    · cases List.mem_singleton.mp hz; exact hx a ha
  · rcases List.mem_append.mp hz with hz | hz
    · exact h4 z hz a (List.mem_cons_of_mem _ ha)
    · cases List.mem_singleton.mp hz; exact (List.pairwise_cons.mp hY).1 a ha
theorem Ld.upd {g : Nat → Int32} {Z : List Nat} {x : Nat} (h : Ld g Z) : Ld (upd g Z.length (nI x)) (Z ++ [x]) := h.snoc
/-- no entry of the one is one of the other -/
def Apart (D : Nat → Int32) (X Y : List Nat) : Prop := ∀ x ∈ X, ∀ y ∈ Y, ¬ (eky D x = eky D y ∧ ecm D x = ecm D y)
theorem Apart.tri {D : Nat → Int32} {X Y : List Nat} {x y : Nat} (h : Apart D X Y) (hx : x ∈ X) (hy : y ∈ Y) : pre D x y ∨ pre D y x := by
  rcases klt_tri (eky D x) (eky D y) with e | e | e
  · exact Or.inl (Or.inl e)
  · rcases Nat.lt_trichotomy (ecm D x) (ecm D y) with f | f | f
    · exact Or.inr (Or.inr ⟨e.symm, f⟩)
    · exact absurd ⟨e, f⟩ (h x hx y hy)
    · exact Or.inl (Or.inr ⟨e, f⟩)
  · exact Or.inr (Or.inl e)
theorem Mg.leftI {D : Nat → Int32} {X Y Z : List Nat} {a c x : Nat} (h : Mg D (X.take a) (X.drop a) (Y.take c) (Y.drop c) Z) (hX : X.Pairwise (pre D)) (hx : X[a]? = some x) (hy : ∀ y ∈ Y.drop c, pre D x y) : Mg D (X.take (a + 1)) (X.drop (a + 1)) (Y.take c) (Y.drop c) (Z ++ [x]) := by
  have h1 : X.drop a = x :: X.drop (a + 1) := by
    obtain ⟨h3, h4⟩ := List.getElem?_eq_some_iff.mp hx
    rw [← h4]; exact List.drop_eq_getElem_cons h3
  have h2 : X.take (a + 1) = X.take a ++ [x] := by rw [List.take_succ, hx]; rfl
  rw [h1] at h
  rw [h2]
  exact h.left (by rw [← h1]; exact hX.sublist (List.drop_sublist _ _)) hy
theorem Mg.rightI {D : Nat → Int32} {X Y Z : List Nat} {a c y : Nat} (h : Mg D (X.take a) (X.drop a) (Y.take c) (Y.drop c) Z) (hY : Y.Pairwise (pre D)) (hy : Y[c]? = some y) (hx : ∀ x ∈ X.drop a, pre D y x) : Mg D (X.take a) (X.drop a) (Y.take (c + 1)) (Y.drop (c + 1)) (Z ++ [y]) := by
  have h1 : Y.drop c = y :: Y.drop (c + 1) := by
    obtain ⟨h3, h4⟩ := List.getElem?_eq_some_iff.mp hy
    rw [← h4]; exact List.drop_eq_getElem_cons h3
  have h2 : Y.take (c + 1) = Y.take c ++ [y] := by rw [List.take_succ, hy]; rfl
  rw [h1] at h
  rw [h2]
  exact h.right (by rw [← h1]; exact hY.sublist (List.drop_sublist _ _)) hx
theorem pre_drop {D : Nat → Int32} {X : List Nat} {a x y : Nat} (hX : X.Pairwise (pre D)) (hx : X[a]? = some x) (h : pre D y x) : ∀ z ∈ X.drop a, pre D y z := by
  intro z hz
  obtain ⟨j, hj⟩ := List.getElem?_of_mem hz
  rw [List.getElem?_drop] at hj
  rcases Nat.eq_zero_or_pos j with e | e
  · rw [e, Nat.add_zero, hx] at hj; cases hj; exact h
  · exact pre_trans h (pw_get hX (show a < a + j by omega) hx hj)
set_option maxRecDepth 100000 in
set_option maxHeartbeats 4000000 in
theorem l_Rows_blend {G : zG} {ad : Nat → Nat} {d k0 n0 : Nat} {X Y : List Nat} {s : Nat → Int32} {M : zM} {Q : zOut → zM → Prop} (hd : 2 ≤ d) (hcb : zC M ≤ 600128 ∧ zS M ≤ 7301098) (hL : Lay ad M) (hcn : zI M 227 (ad 23) = nI (X.length + Y.length)) (hsz : X.length + Y.length ≤ 2048) (hEx : Eb (zA M (ad 2)) X) (hEy : Eb (zA M (ad 2)) Y) (hXs : X.Pairwise (pre (zA M (ad 2)))) (hYs : Y.Pairwise (pre (zA M (ad 2)))) (hap : Apart (zA M (ad 2)) X Y) (hs : Ld s X) (hq0 : ∀ (g s : Nat → Int32) (Z : List Nat), Ld g Z → Z.Pairwise (pre (zA M (ad 2))) → Z.Perm (X ++ Y) → Q (.inl none) (blM ad M g s)) : ∀ (m a c i : Nat) (Z : List Nat) (g : Nat → Int32), X.length + Y.length - i = m → i = a + c → a ≤ X.length → c ≤ Y.length → Z.length = i → Mg (zA M (ad 2)) (X.take a) (X.drop a) (Y.take c) (Y.drop c) Z → Ld g Z → (∀ j y, c ≤ j → Y[j]? = some y → g (X.length + j) = nI y) → zw G mX7_blend d k0 n0 Q 34 [some (.ref ((ad 23))), some (.int (nI X.length)), some (.int (nI a)), some (.int (nI (X.length + c))), some (.int (nI i))] [] (blM ad M g s) := by
  intro m
  induction m using Nat.strongRecOn with
  | _ m ih =>
    intro a c i Z g hm hi ha hc hZ hM hg1 hg2
    refine zr_iload dX7_blend_34 rfl ?_
    refine zr_aload_n dX7_blend_36 rfl ?_
    refine zr_getI dX7_blend_37 lkX7_22 (by decide) (by decide) rfl (hL.K 23 8) ?_
    refine zr_as (y := (nI (X.length + Y.length))) hcn ?_
    refine zr_icmp_geN 119 dX7_blend_40 (by decide) (by omega) (by omega) (fun h40 => ?_) (fun h40 => ?_)
    · refine zr_vret dX7_blend_119 rfl ?_
      have ea : a = X.length := by omega
      subst ea
      rw [List.drop_length, List.take_length] at hM
      refine hq0 g s (Z ++ Y.drop c) ?_ ?_ ?_
      · intro j y hj
        rcases Nat.lt_or_ge j Z.length with e | e
        · rw [List.getElem?_append_left e] at hj; exact hg1 j y hj
        · rw [List.getElem?_append_right e, List.getElem?_drop] at hj
          have := hg2 (c + (j - Z.length)) y (by omega) hj
          rw [show X.length + (c + (j - Z.length)) = j by omega] at this; exact this
      · exact List.pairwise_append.mpr ⟨hM.1, hYs.sublist (List.drop_sublist _ _), hM.2.2.2⟩
      · refine (hM.2.1.append_right _).trans ?_
        rw [List.append_assoc, List.take_append_drop]
    · refine zr_iload_n dX7_blend_43 rfl ?_
      refine zr_iload_n dX7_blend_44 rfl ?_
      refine zr_icmp_geN 119 dX7_blend_45 (by decide) (by omega) (by omega) (fun h45 => ?_) (fun h45 => ?_)
      · refine zr_vret dX7_blend_119 rfl ?_
        have ea : a = X.length := by omega
        subst ea
        rw [List.drop_length, List.take_length] at hM
        refine hq0 g s (Z ++ Y.drop c) ?_ ?_ ?_
        · intro j y hj
          rcases Nat.lt_or_ge j Z.length with e | e
          · rw [List.getElem?_append_left e] at hj; exact hg1 j y hj
          · rw [List.getElem?_append_right e, List.getElem?_drop] at hj
            have := hg2 (c + (j - Z.length)) y (by omega) hj
            rw [show X.length + (c + (j - Z.length)) = j by omega] at this; exact this
        · exact List.pairwise_append.mpr ⟨hM.1, hYs.sublist (List.drop_sublist _ _), hM.2.2.2⟩
        · refine (hM.2.1.append_right _).trans ?_
          rw [List.append_assoc, List.take_append_drop]
      · obtain ⟨x, hx⟩ : ∃ x, X[a]? = some x := ⟨_, List.getElem?_eq_getElem (by omega)⟩
        refine zr_iload_n dX7_blend_48 rfl ?_
        refine zr_aload_n dX7_blend_49 rfl ?_
        refine zr_getI dX7_blend_50 lkX7_22 (by decide) (by decide) rfl (hL.K 23 8) ?_
        refine zr_as (y := (nI (X.length + Y.length))) hcn ?_
        refine zr_icmp_geN 78 dX7_blend_53 (by decide) (by omega) (by omega) (fun h53 => ?_) (fun h53 => ?_)
        · refine zr_aload_n dX7_blend_78 rfl ?_
          refine zr_getR dX7_blend_79 lkX7_9 (by decide) (by decide) rfl (hL.K 23 8) (hL.R 225 23 24) ?_
          refine zr_iload dX7_blend_82 rfl ?_
          refine zr_aload_n dX7_blend_84 rfl ?_
          refine zr_getR dX7_blend_85 lkX7_15 (by decide) (by decide) rfl (hL.K 23 8) (hL.R 226 23 25) ?_
          refine zr_iload_n dX7_blend_88 rfl ?_
          refine zr_ialdN dX7_blend_89 (hL.K 25 15) (hL.N 25 2048) (by omega) (by omega) ?_
          refine zr_as (y := (nI x)) ((congrFun (blM_25 hL _ _) _).trans (hs _ x hx)) ?_
          refine zr_iastN dX7_blend_90 (hL.K 24 15) (hL.N 24 2048) (by omega) (by omega) ?_
          refine zr_iincN (n := 1) (lv' := [some (.ref ((ad 23))), some (.int (nI X.length)), some (.int (nI (a + 1))), some (.int (nI (X.length + c))), some (.int (nI i))]) dX7_blend_91 (Nat.le_of_ble_eq_true rfl) (Nat.le_of_ble_eq_true rfl) rfl rfl rfl ?_
          refine zr_goto 113 dX7_blend_94 (by decide) ?_
          refine zr_iincN (n := 1) (lv' := [some (.ref ((ad 23))), some (.int (nI X.length)), some (.int (nI (a + 1))), some (.int (nI (X.length + c))), some (.int (nI (i + 1)))]) dX7_blend_113 (Nat.le_of_ble_eq_true rfl) (Nat.le_of_ble_eq_true rfl) rfl rfl rfl ?_
          refine zr_goto 34 dX7_blend_116 (by decide) ?_
          rw [blM_24, blM_set]
          exact ih _ (by omega) (a + 1) c (i + 1) (Z ++ [x]) _ rfl (by omega) (by omega) (by omega) (by rw [List.length_append]; simp; omega) (hM.leftI hXs hx (fun z hz => by rw [List.drop_eq_nil_of_le (by omega)] at hz; cases hz)) (by rw [show i = Z.length by omega]; exact hg1.snoc) (fun j y hj hy => by unfold upd; rw [if_neg (by omega)]; exact hg2 j y hj hy)
        · obtain ⟨y, hy⟩ : ∃ y, Y[c]? = some y := ⟨_, List.getElem?_eq_getElem (by omega)⟩
          refine zr_aload_n dX7_blend_56 rfl ?_
          refine zr_getR dX7_blend_57 lkX7_18 (by decide) (by decide) rfl (hL.K 23 8) (hL.R 224 23 1) ?_
          refine zr_aload_n dX7_blend_60 rfl ?_
          refine zr_getR dX7_blend_61 lkX7_15 (by decide) (by decide) rfl (hL.K 23 8) (hL.R 226 23 25) ?_
          refine zr_iload_n dX7_blend_64 rfl ?_
          refine zr_ialdN dX7_blend_65 (hL.K 25 15) (hL.N 25 2048) (by omega) (by omega) ?_
          refine zr_as (y := (nI x)) ((congrFun (blM_25 hL _ _) _).trans (hs _ x hx)) ?_
          refine zr_aload_n dX7_blend_66 rfl ?_
          refine zr_getR dX7_blend_67 lkX7_9 (by decide) (by decide) rfl (hL.K 23 8) (hL.R 225 23 24) ?_
          refine zr_iload_n dX7_blend_70 rfl ?_
          refine zr_ialdN dX7_blend_71 (hL.K 24 15) (hL.N 24 2048) (by omega) (by omega) ?_
          refine zr_as (y := (nI y)) ((congrFun (blM_24 _ _ _ _) _).trans (hg2 c y (Nat.le_refl _) hy)) ?_
          refine zr_callV (md' := mX1_precedes) (As := [.int (nI x), .int (nI y)]) dX7_blend_72 mlX7_36 okX1_precedes rfl inX1_precedes slX1_precedes (by decide) (hL.K 1 2) rfl (by omega) (Nat.le_of_ble_eq_true rfl) hcb (c_Disk_precedesT (d := d - 1) (M := (blM ad M g s)) (by omega) hcb (Lay.dk hL) (hEx x (List.mem_of_getElem? hx)).1 (hEy y (List.mem_of_getElem? hy)).1 (by rw [blM_A hL _ _ (by decide) (by decide)]; exact (hEx x (List.mem_of_getElem? hx)).2) (by rw [blM_A hL _ _ (by decide) (by decide)]; exact (hEy y (List.mem_of_getElem? hy)).2)) (fun k M1 h => by obtain ⟨-, t, -, h, -⟩ := h; cases h) (fun v M1 hq => ?_)
          obtain ⟨e1, t, ht, e0, htk⟩ := hq
          cases e0
          rw [e1]
          rw [blM_A hL _ _ (by decide) (by decide)] at htk
          refine zr_if_eqN 97 dX7_blend_75 (by decide) (by omega) (fun h75 => ?_) (fun h75 => ?_)
          · refine zr_aload_n dX7_blend_97 rfl ?_
            refine zr_getR dX7_blend_98 lkX7_9 (by decide) (by decide) rfl (hL.K 23 8) (hL.R 225 23 24) ?_
            refine zr_iload dX7_blend_101 rfl ?_
            refine zr_aload_n dX7_blend_103 rfl ?_
            refine zr_getR dX7_blend_104 lkX7_9 (by decide) (by decide) rfl (hL.K 23 8) (hL.R 225 23 24) ?_
            refine zr_iload_n dX7_blend_107 rfl ?_
            refine zr_ialdN dX7_blend_108 (hL.K 24 15) (hL.N 24 2048) (by omega) (by omega) ?_
            refine zr_as (y := (nI y)) ((congrFun (blM_24 _ _ _ _) _).trans (hg2 c y (Nat.le_refl _) hy)) ?_
            refine zr_iastN dX7_blend_109 (hL.K 24 15) (hL.N 24 2048) (by omega) (by omega) ?_
            refine zr_iincN (n := 1) (lv' := [some (.ref ((ad 23))), some (.int (nI X.length)), some (.int (nI a)), some (.int (nI ((X.length + c) + 1))), some (.int (nI i))]) dX7_blend_110 (Nat.le_of_ble_eq_true rfl) (Nat.le_of_ble_eq_true rfl) rfl rfl rfl ?_
            refine zr_iincN (n := 1) (lv' := [some (.ref ((ad 23))), some (.int (nI X.length)), some (.int (nI a)), some (.int (nI ((X.length + c) + 1))), some (.int (nI (i + 1)))]) dX7_blend_113 (Nat.le_of_ble_eq_true rfl) (Nat.le_of_ble_eq_true rfl) rfl rfl rfl ?_
            refine zr_goto 34 dX7_blend_116 (by decide) ?_
            rw [blM_24, blM_set]
            refine zr_asL (lv' := [some (.ref ((ad 23))), some (.int (nI X.length)), some (.int (nI a)), some (.int (nI (X.length + (c + 1)))), some (.int (nI (i + 1)))]) (by rw [Nat.add_assoc X.length c 1]) ?_
            have hyx : pre (zA M (ad 2)) y x := (hap.tri (List.mem_of_getElem? hx) (List.mem_of_getElem? hy)).elim (fun z => absurd (htk.mpr z) (by omega)) id
            exact ih _ (by omega) a (c + 1) (i + 1) (Z ++ [y]) _ rfl (by omega) (by omega) (by omega) (by rw [List.length_append]; simp; omega) (hM.rightI hYs hy (pre_drop hXs hx hyx)) (by rw [show i = Z.length by omega]; exact hg1.snoc) (fun j y hj hy => by unfold upd; rw [if_neg (by omega)]; exact hg2 j y (by omega) hy)
          · refine zr_aload_n dX7_blend_78 rfl ?_
            refine zr_getR dX7_blend_79 lkX7_9 (by decide) (by decide) rfl (hL.K 23 8) (hL.R 225 23 24) ?_
            refine zr_iload dX7_blend_82 rfl ?_
            refine zr_aload_n dX7_blend_84 rfl ?_
            refine zr_getR dX7_blend_85 lkX7_15 (by decide) (by decide) rfl (hL.K 23 8) (hL.R 226 23 25) ?_
            refine zr_iload_n dX7_blend_88 rfl ?_
            refine zr_ialdN dX7_blend_89 (hL.K 25 15) (hL.N 25 2048) (by omega) (by omega) ?_
            refine zr_as (y := (nI x)) ((congrFun (blM_25 hL _ _) _).trans (hs _ x hx)) ?_
            refine zr_iastN dX7_blend_90 (hL.K 24 15) (hL.N 24 2048) (by omega) (by omega) ?_
            refine zr_iincN (n := 1) (lv' := [some (.ref ((ad 23))), some (.int (nI X.length)), some (.int (nI (a + 1))), some (.int (nI (X.length + c))), some (.int (nI i))]) dX7_blend_91 (Nat.le_of_ble_eq_true rfl) (Nat.le_of_ble_eq_true rfl) rfl rfl rfl ?_
            refine zr_goto 113 dX7_blend_94 (by decide) ?_
            refine zr_iincN (n := 1) (lv' := [some (.ref ((ad 23))), some (.int (nI X.length)), some (.int (nI (a + 1))), some (.int (nI (X.length + c))), some (.int (nI (i + 1)))]) dX7_blend_113 (Nat.le_of_ble_eq_true rfl) (Nat.le_of_ble_eq_true rfl) rfl rfl rfl ?_
            refine zr_goto 34 dX7_blend_116 (by decide) ?_
            rw [blM_24, blM_set]
            exact ih _ (by omega) (a + 1) c (i + 1) (Z ++ [x]) _ rfl (by omega) (by omega) (by omega) (by rw [List.length_append]; simp; omega) (hM.leftI hXs hx (pre_drop hYs hy (htk.mp (by omega)))) (by rw [show i = Z.length by omega]; exact hg1.snoc) (fun j y hj hy => by unfold upd; rw [if_neg (by omega)]; exact hg2 j y hj hy)
set_option maxRecDepth 100000 in
set_option maxHeartbeats 4000000 in
theorem c_Rows_blend {G : zG} {ad : Nat → Nat} {d : Nat} {X Y : List Nat} {M : zM} (hd : 2 ≤ d) (hcb : zC M ≤ 600128 ∧ zS M ≤ 7301098) (hL : Lay ad M) (hcn : zI M 227 (ad 23) = nI (X.length + Y.length)) (hsz : X.length + Y.length ≤ 2048) (hEx : Eb (zA M (ad 2)) X) (hEy : Eb (zA M (ad 2)) Y) (hXs : X.Pairwise (pre (zA M (ad 2)))) (hYs : Y.Pairwise (pre (zA M (ad 2)))) (hap : Apart (zA M (ad 2)) X Y) (hld : Ld (zA M (ad 24)) (X ++ Y))  : zMet G mX7_blend d [.ref ((ad 23)), .int (nI X.length)] M (fun o M' => o = .inl none ∧ ∃ (g s : Nat → Int32) (Z : List Nat), M' = blM ad M g s ∧ Ld g Z ∧ Z.Pairwise (pre (zA M (ad 2))) ∧ Z.Perm (X ++ Y)) := by
  refine zMet_of (by decide +kernel) (Nat.le_of_ble_eq_true rfl) rfl hcb ?_
  show zw G mX7_blend d _ _ _ 0 [some (.ref ((ad 23))), some (.int (nI X.length)), none, none, none] [] M
  refine zr_iload_n dX7_blend_0 rfl ?_
  refine zr_if_leN 12 dX7_blend_1 (by decide) (by omega) (fun h1 => ?_) (fun h1 => ?_)
  · refine zr_vret dX7_blend_12 rfl ?_
    have e9 : M = blM ad M (zA M (ad 24)) (zA M (ad 25)) := by unfold blM; rw [zsetA_self (M := M) rfl, zsetA_self rfl]
    refine ⟨rfl, zA M (ad 24), zA M (ad 25), X ++ Y, e9, hld, ?_, List.Perm.refl _⟩
    rcases Nat.eq_zero_or_pos X.length with e | e
    · rw [List.length_eq_zero_iff.mp e, List.nil_append]; exact hYs
    · have e1 : Y = [] := List.length_eq_zero_iff.mp (by omega)
      rw [e1, List.append_nil]; exact hXs
  · refine zr_iload_n dX7_blend_4 rfl ?_
    refine zr_aload_n dX7_blend_5 rfl ?_
    refine zr_getI dX7_blend_6 lkX7_22 (by decide) (by decide) rfl (hL.K 23 8) ?_
    refine zr_as (y := (nI (X.length + Y.length))) hcn ?_
    refine zr_icmp_ltN 13 dX7_blend_9 (by decide) (by omega) (by omega) (fun h9 => ?_) (fun h9 => ?_)
    · refine zr_aload_n dX7_blend_13 rfl ?_
      refine zr_getR dX7_blend_14 lkX7_9 (by decide) (by decide) rfl (hL.K 23 8) (hL.R 225 23 24) ?_
      refine zr_iconst (v := nI 0) dX7_blend_17 (by decide) ?_
      refine zr_aload_n dX7_blend_18 rfl ?_
      refine zr_getR dX7_blend_19 lkX7_15 (by decide) (by decide) rfl (hL.K 23 8) (hL.R 226 23 25) ?_
      refine zr_iconst (v := nI 0) dX7_blend_22 (by decide) ?_
      refine zr_iload_n dX7_blend_23 rfl ?_
      refine zr_copyN dX7_blend_24 mlX7_30 (Or.inr ⟨hL.K 24 15, hL.K 25 15⟩) (hL.N 24 2048) (hL.N 25 2048) (by omega) (by omega) (by omega) (by omega) (by omega) (Nat.le_of_ble_eq_true rfl) ?_
      refine zr_iconst (v := nI 0) dX7_blend_27 (by decide) ?_
      refine zr_istore_n (lv' := [some (.ref ((ad 23))), some (.int (nI X.length)), some (.int (nI 0)), none, none]) dX7_blend_28 (Nat.le_of_ble_eq_true rfl) (Nat.le_of_ble_eq_true rfl) rfl rfl ?_
      refine zr_iload_n dX7_blend_29 rfl ?_
      refine zr_istore_n (lv' := [some (.ref ((ad 23))), some (.int (nI X.length)), some (.int (nI 0)), some (.int (nI X.length)), none]) dX7_blend_30 (Nat.le_of_ble_eq_true rfl) (Nat.le_of_ble_eq_true rfl) rfl rfl ?_
      refine zr_iconst (v := nI 0) dX7_blend_31 (by decide) ?_
      refine zr_istore (lv' := [some (.ref ((ad 23))), some (.int (nI X.length)), some (.int (nI 0)), some (.int (nI X.length)), some (.int (nI 0))]) dX7_blend_32 (Nat.le_of_ble_eq_true rfl) (Nat.le_of_ble_eq_true rfl) rfl rfl ?_
      refine zr_asM (M' := blM ad M (zA M (ad 24)) (va_cpy (zA M (ad 24)) (zA M (ad 25)) 0 0 X.length)) (zsetA_self (zsetA_ms (M := M) (hL.ne (by decide)) rfl)).symm ?_
      exact l_Rows_blend hd hcb hL hcn hsz hEx hEy hXs hYs hap (fun i q hi => by rw [show va_cpy (zA M (ad 24)) (zA M (ad 25)) 0 0 X.length i = zA M (ad 24) i from by rw [pk_cpy_in (by omega) (by have := (List.getElem?_eq_some_iff.mp hi).1; omega)]; congr 1; omega]; exact hld i q (by rw [List.getElem?_append_left (List.getElem?_eq_some_iff.mp hi).1]; exact hi)) (fun g s Z h1 h2 h3 => ⟨rfl, g, s, Z, rfl, h1, h2, h3⟩) _ 0 0 0 [] _ rfl rfl (by omega) (by omega) rfl ⟨List.Pairwise.nil, List.Perm.refl _, fun z hz => (by cases hz), fun z hz => (by cases hz)⟩ (fun j y hj => by simp at hj) (fun j y hj hy => hld _ y (by rw [List.getElem?_append_right (by omega), Nat.add_sub_cancel_left]; exact hy))
    · refine zr_vret dX7_blend_12 rfl ?_
      have e9 : M = blM ad M (zA M (ad 24)) (zA M (ad 25)) := by unfold blM; rw [zsetA_self (M := M) rfl, zsetA_self rfl]
      refine ⟨rfl, zA M (ad 24), zA M (ad 25), X ++ Y, e9, hld, ?_, List.Perm.refl _⟩
      rcases Nat.eq_zero_or_pos X.length with e | e
      · rw [List.length_eq_zero_iff.mp e, List.nil_append]; exact hYs
      · have e1 : Y = [] := List.length_eq_zero_iff.mp (by omega)
        rw [e1, List.append_nil]; exact hXs
/-- the removes at the end go -/
def Wor (D : Nat → Int32) (K : List Nat) (n : Nat) : Prop := n ≤ K.length ∧ (∀ i q, n ≤ i → K[i]? = some q → zb (D q) = 2) ∧ ∀ q, 1 ≤ n → K[n - 1]? = some q → zb (D q) ≠ 2
set_option maxRecDepth 100000 in
set_option maxHeartbeats 4000000 in
theorem l_Rows_without {G : zG} {ad : Nat → Nat} {d k0 n0 n : Nat} {K : List Nat} {M : zM} {Q : zOut → zM → Prop} (hd : 1 ≤ d) (hcb : zC M ≤ 600128 ∧ zS M ≤ 7301098) (hL : Lay ad M) (hld : Ld (zA M (ad 24)) K) (hE : Eb (zA M (ad 2)) K) (hkl : K.length ≤ 2048) (hq0 : ∀ e, Wor (zA M (ad 2)) K e → Q (.inl (some (.int (nI e)))) M) : ∀ (e : Nat), e ≤ K.length → (∀ i q, e ≤ i → K[i]? = some q → zb (zA M (ad 2) q) = 2) → zw G mX7_withoutRemoves d k0 n0 Q 2 [some (.ref ((ad 23))), some (.int (nI n)), some (.int (nI e))] [] M := by
  intro e
  induction e using Nat.strongRecOn with
  | _ e ih =>
    intro hen ha
    refine zr_iload_n dX7_withoutRemoves_2 rfl ?_
    refine zr_if_leN 31 dX7_withoutRemoves_3 (by decide) (by omega) (fun h3 => ?_) (fun h3 => ?_)
    · refine zr_iload_n dX7_withoutRemoves_31 rfl ?_
      refine zr_iret dX7_withoutRemoves_32 rfl ?_
      first
        | exact hq0 e ⟨hen, ha, fun q h1 h2 => by rw [hx] at h2; cases h2; exact h22⟩
        | exact hq0 e ⟨hen, ha, fun q h1 h2 => by omega⟩
    · obtain ⟨x, hx⟩ : ∃ x, K[e - 1]? = some x := ⟨_, List.getElem?_eq_getElem (by omega)⟩
      refine zr_aload_n dX7_withoutRemoves_6 rfl ?_
      refine zr_getR dX7_withoutRemoves_7 lkX7_18 (by decide) (by decide) rfl (hL.K 23 8) (hL.R 224 23 1) ?_
      refine zr_aload_n dX7_withoutRemoves_10 rfl ?_
      refine zr_getR dX7_withoutRemoves_11 lkX7_9 (by decide) (by decide) rfl (hL.K 23 8) (hL.R 225 23 24) ?_
      refine zr_iload_n dX7_withoutRemoves_14 rfl ?_
      refine zr_iconst (v := nI 1) dX7_withoutRemoves_15 (by decide) ?_
      refine zr_isubN dX7_withoutRemoves_16 (by omega) ?_
      refine zr_ialdN dX7_withoutRemoves_17 (hL.K 24 15) (hL.N 24 2048) (by omega) (by omega) ?_
      refine zr_as (y := (nI x)) (hld _ x hx) ?_
      refine zr_callV (md' := mX1_kind) (As := [.int (nI x)]) dX7_withoutRemoves_18 mlX7_58 okX1_kind rfl inX1_kind slX1_kind (by decide) (hL.K 1 2) rfl (by omega) (Nat.le_of_ble_eq_true rfl) hcb (c_Disk_kind (d := d - 1) hcb (Lay.dk hL) (Nat.lt_trans (hE x (List.mem_of_getElem? hx)).1 (by decide))) (fun k M1 h => by cases h.1) (fun v M1 hq => ?_)
      obtain ⟨e0, e1⟩ := hq
      cases e0
      rw [e1]
      refine zr_iconst (v := nI 2) dX7_withoutRemoves_21 (by decide) ?_
      refine zr_icmp_neN 31 dX7_withoutRemoves_22 (by decide) (by have := Nat.mod_lt (Int32.toBitVec (zA M (ad 2) x)).toNat (show 0 < 256 by decide); unfold zb; omega) (by decide) (fun h22 => ?_) (fun h22 => ?_)
      · refine zr_iload_n dX7_withoutRemoves_31 rfl ?_
        refine zr_iret dX7_withoutRemoves_32 rfl ?_
        first
          | exact hq0 e ⟨hen, ha, fun q h1 h2 => by rw [hx] at h2; cases h2; exact h22⟩
          | exact hq0 e ⟨hen, ha, fun q h1 h2 => by omega⟩
      · refine zr_idecN (lv' := [some (.ref ((ad 23))), some (.int (nI n)), some (.int (nI (e - 1)))]) dX7_withoutRemoves_25 (Nat.le_of_ble_eq_true rfl) (Nat.le_of_ble_eq_true rfl) rfl rfl (by omega) rfl ?_
        refine zr_goto 2 dX7_withoutRemoves_28 (by decide) ?_
        exact ih (e - 1) (by omega) (by omega) (fun i q h1 h2 => (Nat.lt_or_ge i e).elim (fun z => by rw [show i = e - 1 by omega, hx] at h2; cases h2; exact h22) (fun z => ha i q z h2))
set_option maxRecDepth 100000 in
set_option maxHeartbeats 4000000 in
theorem c_Rows_withoutRemoves {G : zG} {ad : Nat → Nat} {d : Nat} {K : List Nat} {M : zM} (hd : 1 ≤ d) (hcb : zC M ≤ 600128 ∧ zS M ≤ 7301098) (hL : Lay ad M) (hld : Ld (zA M (ad 24)) K) (hE : Eb (zA M (ad 2)) K) (hkl : K.length ≤ 2048)  : zMet G mX7_withoutRemoves d [.ref ((ad 23)), .int (nI K.length)] M (fun o M' => M' = M ∧ ∃ e : Nat, o = .inl (some (.int (nI e))) ∧ Wor (zA M (ad 2)) K e) := by
  refine zMet_of (by decide +kernel) (Nat.le_of_ble_eq_true rfl) rfl hcb ?_
  show zw G mX7_withoutRemoves d _ _ _ 0 [some (.ref ((ad 23))), some (.int (nI K.length)), none] [] M
  refine zr_iload_n dX7_withoutRemoves_0 rfl ?_
  refine zr_istore_n (lv' := [some (.ref ((ad 23))), some (.int (nI K.length)), some (.int (nI K.length))]) dX7_withoutRemoves_1 (Nat.le_of_ble_eq_true rfl) (Nat.le_of_ble_eq_true rfl) rfl rfl ?_
  exact l_Rows_without hd hcb hL hld hE hkl (fun e h => ⟨rfl, e, rfl, h⟩) _ (Nat.le_refl _) (fun i q h1 h2 => by have := (List.getElem?_eq_some_iff.mp h2).1; omega)
/-- the view w sees the i-th row -/
def Nw (D : Nat → Int32) (P : List Nat) (i w : Nat) : Prop := ∃ q x, 1 ≤ i ∧ P[i - 1]? = some q ∧ P[i]? = some x ∧ eky D q = eky D x ∧ ecm D q ≤ w
def Vis (D : Nat → Int32) (P : List Nat) (w i : Nat) : Prop := ∃ x, P[i]? = some x ∧ ecm D x ≤ w ∧ ¬ Nw D P i w ∧ zb (D x) = 1
set_option maxRecDepth 100000 in
set_option maxHeartbeats 4000000 in
theorem c_Rows_hasNewer {G : zG} {ad : Nat → Nat} {d i w x : Nat} {P : List Nat} {M : zM} (hd : 1 ≤ d) (hcb : zC M ≤ 600128 ∧ zS M ≤ 7301098) (hL : Lay ad M) (hR : Rs ad M P) (hE : Eb (zA M (ad 2)) P) (hwb : w < 2 ^ 31) (hx : P[i]? = some x)  : zMet G mX7_hasNewer d [.ref ((ad 23)), .int (nI i), .int (nI w)] M (fun o M' => M' = M ∧ ∃ t : Nat, t ≤ 1 ∧ o = .inl (some (.int (nI t))) ∧ (t = 1 ↔ Nw (zA M (ad 2)) P i w)) := by
  refine zMet_of (by decide +kernel) (Nat.le_of_ble_eq_true rfl) rfl hcb ?_
  show zw G mX7_hasNewer d _ _ _ 0 [some (.ref ((ad 23))), some (.int (nI i)), some (.int (nI w))] [] M
  have hil := (List.getElem?_eq_some_iff.mp hx).1
  have hpl := hR.2.1
  refine zr_iload_n dX7_hasNewer_0 rfl ?_
  refine zr_if_leN 54 dX7_hasNewer_1 (by decide) (by omega) (fun h1 => ?_) (fun h1 => ?_)
  · refine zr_iconst (v := nI 0) dX7_hasNewer_54 (by decide) ?_
    refine zr_zret dX7_hasNewer_55 rfl (Or.inl rfl) ?_
    exact ⟨rfl, 0, by decide, rfl, fun z => absurd z (by decide), fun ⟨q1, x1, z1, z2, z3, z4, z5⟩ => (by omega : False).elim⟩
  · obtain ⟨q, hq9⟩ : ∃ q, P[i - 1]? = some q := ⟨_, List.getElem?_eq_getElem (by omega)⟩
    refine zr_aload_n dX7_hasNewer_4 rfl ?_
    refine zr_getR dX7_hasNewer_5 lkX7_18 (by decide) (by decide) rfl (hL.K 23 8) (hL.R 224 23 1) ?_
    refine zr_aload_n dX7_hasNewer_8 rfl ?_
    refine zr_getR dX7_hasNewer_9 lkX7_9 (by decide) (by decide) rfl (hL.K 23 8) (hL.R 225 23 24) ?_
    refine zr_iload_n dX7_hasNewer_12 rfl ?_
    refine zr_iconst (v := nI 1) dX7_hasNewer_13 (by decide) ?_
    refine zr_isubN dX7_hasNewer_14 (by omega) ?_
    refine zr_ialdN dX7_hasNewer_15 (hL.K 24 15) (hL.N 24 2048) (by omega) (by omega) ?_
    refine zr_as (y := (nI q)) (hR.2.2 _ q hq9) ?_
    refine zr_aload_n dX7_hasNewer_16 rfl ?_
    refine zr_getR dX7_hasNewer_17 lkX7_9 (by decide) (by decide) rfl (hL.K 23 8) (hL.R 225 23 24) ?_
    refine zr_iload_n dX7_hasNewer_20 rfl ?_
    refine zr_ialdN dX7_hasNewer_21 (hL.K 24 15) (hL.N 24 2048) (by omega) (by omega) ?_
    refine zr_as (y := (nI x)) (hR.2.2 _ x hx) ?_
    refine zr_callV (md' := mX1_order) (As := [.int (nI q), .int (nI x)]) dX7_hasNewer_22 mlX7_46 okX1_order rfl inX1_order slX1_order (by decide) (hL.K 1 2) rfl (by omega) (Nat.le_of_ble_eq_true rfl) hcb (c_Disk_order (d := d - 1) hcb (Lay.dk hL) (Nat.lt_trans (hE q (List.mem_of_getElem? hq9)).1 (by decide)) (Nat.lt_trans (hE x (List.mem_of_getElem? hx)).1 (by decide))) (fun k M1 h => by obtain ⟨r, h, -⟩ := h; cases h) (fun v M1 hq => ?_)
    obtain ⟨r, e0, e1, hr1, hr2⟩ := hq
    cases e0
    rw [e1]
    refine zr_if_ne 54 dX7_hasNewer_25 (by decide) (fun h25 => ?_) (fun h25 => ?_)
    · refine zr_iconst (v := nI 0) dX7_hasNewer_54 (by decide) ?_
      refine zr_zret dX7_hasNewer_55 rfl (Or.inl rfl) ?_
      exact ⟨rfl, 0, by decide, rfl, fun z => absurd z (by decide), fun ⟨q1, x1, z1, z2, z3, z4, z5⟩ => (h25 (hr2.mpr (by rw [hq9] at z2; rw [hx] at z3; cases z2; cases z3; exact z4)) : False).elim⟩
    · refine zr_aload_n dX7_hasNewer_28 rfl ?_
      refine zr_getR dX7_hasNewer_29 lkX7_18 (by decide) (by decide) rfl (hL.K 23 8) (hL.R 224 23 1) ?_
      refine zr_aload_n dX7_hasNewer_32 rfl ?_
      refine zr_getR dX7_hasNewer_33 lkX7_9 (by decide) (by decide) rfl (hL.K 23 8) (hL.R 225 23 24) ?_
      refine zr_iload_n dX7_hasNewer_36 rfl ?_
      refine zr_iconst (v := nI 1) dX7_hasNewer_37 (by decide) ?_
      refine zr_isubN dX7_hasNewer_38 (by omega) ?_
      refine zr_ialdN dX7_hasNewer_39 (hL.K 24 15) (hL.N 24 2048) (by omega) (by omega) ?_
      refine zr_as (y := (nI q)) (hR.2.2 _ q hq9) ?_
      refine zr_iconst (v := nI 4) dX7_hasNewer_40 (by decide) ?_
      refine zr_iaddN dX7_hasNewer_41 ?_
      refine zr_iconst (v := nI 4) dX7_hasNewer_42 (by decide) ?_
      refine zr_callV (md' := mX1_number) (As := [.int (nI (q + 4)), .int (nI 4)]) dX7_hasNewer_43 mlX7_42 okX1_number rfl inX1_number slX1_number (by decide) (hL.K 1 2) rfl (by omega) (Nat.le_of_ble_eq_true rfl) hcb (c_Disk_number (d := d - 1) hcb (Lay.dk hL) (by have := (hE q (List.mem_of_getElem? hq9)).1; omega) (by decide) (hE q (List.mem_of_getElem? hq9)).2) (fun k M1 h => by cases h.1) (fun v M1 hq => ?_)
      obtain ⟨e0, e1⟩ := hq
      cases e0
      rw [e1]
      refine zr_as (y := nI (ecm (zA M (ad 2)) q)) rfl ?_
      refine zr_iload_n dX7_hasNewer_46 rfl ?_
      refine zr_icmp_gtN 54 dX7_hasNewer_47 (by decide) (by have := (hE q (List.mem_of_getElem? hq9)).2; omega) (by omega) (fun h47 => ?_) (fun h47 => ?_)
      · refine zr_iconst (v := nI 0) dX7_hasNewer_54 (by decide) ?_
        refine zr_zret dX7_hasNewer_55 rfl (Or.inl rfl) ?_
        exact ⟨rfl, 0, by decide, rfl, fun z => absurd z (by decide), fun ⟨q1, x1, z1, z2, z3, z4, z5⟩ => (by rw [hq9] at z2; cases z2; omega : False).elim⟩
      · refine zr_iconst (v := nI 1) dX7_hasNewer_50 (by decide) ?_
        refine zr_goto 55 dX7_hasNewer_51 (by decide) ?_
        refine zr_zret dX7_hasNewer_55 rfl (Or.inr rfl) ?_
        exact ⟨rfl, 1, by decide, rfl, fun _ => ⟨q, x, by omega, hq9, hx, hr2.mp h25, h47⟩, fun _ => rfl⟩
set_option maxRecDepth 100000 in
set_option maxHeartbeats 4000000 in
theorem l_Rows_firstSeen {G : zG} {ad : Nat → Nat} {d k0 n0 st w : Nat} {P : List Nat} {M : zM} {Q : zOut → zM → Prop} (hd : 2 ≤ d) (hcb : zC M ≤ 600128 ∧ zS M ≤ 7301098) (hL : Lay ad M) (hR : Rs ad M P) (hE : Eb (zA M (ad 2)) P) (hwb : w < 2 ^ 31) (hq0 : ∀ x : Option Nat, (∀ j, x = some j → st ≤ j ∧ Vis (zA M (ad 2)) P w j ∧ ∀ i, st ≤ i → i < j → ¬ Vis (zA M (ad 2)) P w i) → (x = none → ∀ j, st ≤ j → ¬ Vis (zA M (ad 2)) P w j) → Q (.inl (some (.int (zvi x)))) M) : ∀ (m i : Nat), P.length - i = m → st ≤ i → i < 2 ^ 31 → (∀ j, st ≤ j → j < i → ¬ Vis (zA M (ad 2)) P w j) → zw G mX7_firstSeen d k0 n0 Q 6 [some (.ref ((ad 23))), some (.int (nI st)), some (.int (nI w)), some (.int (nI i)), none, none] [] M := by
  intro m
  induction m using Nat.strongRecOn with
  | _ m ih =>
    intro i hm hi1 hi ha
    have hpl := hR.2.1
    refine zr_iload_n dX7_firstSeen_6 rfl ?_
    refine zr_aload_n dX7_firstSeen_7 rfl ?_
    refine zr_getI dX7_firstSeen_8 lkX7_22 (by decide) (by decide) rfl (hL.K 23 8) ?_
    refine zr_as (y := (nI P.length)) hR.1 ?_
    refine zr_icmp_geN 80 dX7_firstSeen_11 (by decide) (by omega) (by omega) (fun h11 => ?_) (fun h11 => ?_)
    · refine zr_iconst (v := -1) dX7_firstSeen_80 (by decide) ?_
      refine zr_iret dX7_firstSeen_81 rfl ?_
      exact hq0 none (fun j hj => by cases hj) (fun _ j hj hv => ha j hj (by obtain ⟨x1, z1, -⟩ := hv; have := (List.getElem?_eq_some_iff.mp z1).1; omega) hv)
    · obtain ⟨x, hx⟩ : ∃ x, P[i]? = some x := ⟨_, List.getElem?_eq_getElem (by omega)⟩
      refine zr_aload_n dX7_firstSeen_14 rfl ?_
      refine zr_getR dX7_firstSeen_15 lkX7_9 (by decide) (by decide) rfl (hL.K 23 8) (hL.R 225 23 24) ?_
      refine zr_iload_n dX7_firstSeen_18 rfl ?_
      refine zr_ialdN dX7_firstSeen_19 (hL.K 24 15) (hL.N 24 2048) (by omega) (by omega) ?_
      refine zr_as (y := (nI x)) (hR.2.2 _ x hx) ?_
      refine zr_istore (lv' := [some (.ref ((ad 23))), some (.int (nI st)), some (.int (nI w)), some (.int (nI i)), some (.int (nI x)), none]) dX7_firstSeen_20 (Nat.le_of_ble_eq_true rfl) (Nat.le_of_ble_eq_true rfl) rfl rfl ?_
      refine zr_aload_n dX7_firstSeen_22 rfl ?_
      refine zr_getR dX7_firstSeen_23 lkX7_18 (by decide) (by decide) rfl (hL.K 23 8) (hL.R 224 23 1) ?_
      refine zr_iload dX7_firstSeen_26 rfl ?_
      refine zr_iconst (v := nI 4) dX7_firstSeen_28 (by decide) ?_
      refine zr_iaddN dX7_firstSeen_29 ?_
      refine zr_iconst (v := nI 4) dX7_firstSeen_30 (by decide) ?_
      refine zr_callV (md' := mX1_number) (As := [.int (nI (x + 4)), .int (nI 4)]) dX7_firstSeen_31 mlX7_42 okX1_number rfl inX1_number slX1_number (by decide) (hL.K 1 2) rfl (by omega) (Nat.le_of_ble_eq_true rfl) hcb (c_Disk_number (d := d - 1) hcb (Lay.dk hL) (by have := (hE x (List.mem_of_getElem? hx)).1; omega) (by decide) (hE x (List.mem_of_getElem? hx)).2) (fun k M1 h => by cases h.1) (fun v M1 hq => ?_)
      obtain ⟨e0, e1⟩ := hq
      cases e0
      rw [e1]
      refine zr_as (y := nI (ecm (zA M (ad 2)) x)) rfl ?_
      refine zr_iload_n dX7_firstSeen_34 rfl ?_
      refine zr_icmp_gtN 47 dX7_firstSeen_35 (by decide) (by have := (hE x (List.mem_of_getElem? hx)).2; omega) (by omega) (fun h35 => ?_) (fun h35 => ?_)
      · refine zr_iconst (v := nI 1) dX7_firstSeen_47 (by decide) ?_
        refine zr_goto 52 dX7_firstSeen_48 (by decide) ?_
        refine zr_istore (lv' := [some (.ref ((ad 23))), some (.int (nI st)), some (.int (nI w)), some (.int (nI i)), some (.int (nI x)), some (.int (nI 1))]) dX7_firstSeen_52 (Nat.le_of_ble_eq_true rfl) (Nat.le_of_ble_eq_true rfl) rfl rfl ?_
        refine zr_iload dX7_firstSeen_54 rfl ?_
        refine zr_if_ne 74 dX7_firstSeen_56 (by decide) (fun h56 => ?_) (fun h56 => absurd h56 (by decide))
        refine zr_iincN (n := 1) (lv' := [some (.ref ((ad 23))), some (.int (nI st)), some (.int (nI w)), some (.int (nI (i + 1))), some (.int (nI x)), some (.int (nI 1))]) dX7_firstSeen_74 (Nat.le_of_ble_eq_true rfl) (Nat.le_of_ble_eq_true rfl) rfl rfl rfl ?_
        refine zr_goto 6 dX7_firstSeen_77 (by decide) ?_
        refine zr_drop 4 rfl ?_
        refine zr_drop 5 rfl ?_
        exact ih _ (by omega) (i + 1) rfl (by omega) (by omega) (fun j h1 h2 => (Nat.lt_or_ge j i).elim (fun z => ha j h1 z) (fun z hv => by obtain ⟨x1, z1, z2, z3, z4⟩ := hv; rw [show j = i by omega] at z1 z3; rw [hx] at z1; cases z1; exact (by omega : False)))
      · refine zr_aload_n dX7_firstSeen_38 rfl ?_
        refine zr_iload_n dX7_firstSeen_39 rfl ?_
        refine zr_iload_n dX7_firstSeen_40 rfl ?_
        refine zr_callV (md' := mX7_hasNewer) (As := [.int (nI i), .int (nI w)]) dX7_firstSeen_41 mlX7_66 okX7_hasNewer rfl inX7_hasNewer slX7_hasNewer (by decide) (hL.K 23 8) rfl (by omega) (Nat.le_of_ble_eq_true rfl) hcb (c_Rows_hasNewer (d := d - 1) (by omega) hcb hL hR hE hwb hx) (fun k M1 h => by obtain ⟨-, t, -, h, -⟩ := h; cases h) (fun v M1 hq => ?_)
        obtain ⟨e1, t, ht, e0, htk⟩ := hq
        cases e0
        rw [e1]
        refine zr_if_eqN 51 dX7_firstSeen_44 (by decide) (by omega) (fun h44 => ?_) (fun h44 => ?_)
        · refine zr_iconst (v := nI 0) dX7_firstSeen_51 (by decide) ?_
          refine zr_istore (lv' := [some (.ref ((ad 23))), some (.int (nI st)), some (.int (nI w)), some (.int (nI i)), some (.int (nI x)), some (.int (nI 0))]) dX7_firstSeen_52 (Nat.le_of_ble_eq_true rfl) (Nat.le_of_ble_eq_true rfl) rfl rfl ?_
          refine zr_iload dX7_firstSeen_54 rfl ?_
          refine zr_if_ne 74 dX7_firstSeen_56 (by decide) (fun h56 => absurd rfl h56) (fun h56 => ?_)
          refine zr_aload_n dX7_firstSeen_59 rfl ?_
          refine zr_getR dX7_firstSeen_60 lkX7_18 (by decide) (by decide) rfl (hL.K 23 8) (hL.R 224 23 1) ?_
          refine zr_iload dX7_firstSeen_63 rfl ?_
          refine zr_callV (md' := mX1_kind) (As := [.int (nI x)]) dX7_firstSeen_65 mlX7_58 okX1_kind rfl inX1_kind slX1_kind (by decide) (hL.K 1 2) rfl (by omega) (Nat.le_of_ble_eq_true rfl) hcb (c_Disk_kind (d := d - 1) hcb (Lay.dk hL) (Nat.lt_trans (hE x (List.mem_of_getElem? hx)).1 (by decide))) (fun k M1 h => by cases h.1) (fun v M1 hq => ?_)
          obtain ⟨e0, e1⟩ := hq
          cases e0
          rw [e1]
          refine zr_iconst (v := nI 1) dX7_firstSeen_68 (by decide) ?_
          refine zr_icmp_neN 74 dX7_firstSeen_69 (by decide) (by have := Nat.mod_lt (Int32.toBitVec (zA M (ad 2) x)).toNat (show 0 < 256 by decide); unfold zb; omega) (by decide) (fun h69 => ?_) (fun h69 => ?_)
          · refine zr_iincN (n := 1) (lv' := [some (.ref ((ad 23))), some (.int (nI st)), some (.int (nI w)), some (.int (nI (i + 1))), some (.int (nI x)), some (.int (nI 0))]) dX7_firstSeen_74 (Nat.le_of_ble_eq_true rfl) (Nat.le_of_ble_eq_true rfl) rfl rfl rfl ?_
            refine zr_goto 6 dX7_firstSeen_77 (by decide) ?_
            refine zr_drop 4 rfl ?_
            refine zr_drop 5 rfl ?_
            exact ih _ (by omega) (i + 1) rfl (by omega) (by omega) (fun j h1 h2 => (Nat.lt_or_ge j i).elim (fun z => ha j h1 z) (fun z hv => by obtain ⟨x1, z1, z2, z3, z4⟩ := hv; rw [show j = i by omega] at z1 z3; rw [hx] at z1; cases z1; exact (absurd z4 h69 : False)))
          · refine zr_iload_n dX7_firstSeen_72 rfl ?_
            refine zr_iret dX7_firstSeen_73 rfl ?_
            exact hq0 (some i) (fun j hj => by cases hj; exact ⟨hi1, ⟨x, hx, by omega, fun z => absurd (htk.mpr z) (by omega), h69⟩, ha⟩) (fun z => by cases z)
        · refine zr_iconst (v := nI 1) dX7_firstSeen_47 (by decide) ?_
          refine zr_goto 52 dX7_firstSeen_48 (by decide) ?_
          refine zr_istore (lv' := [some (.ref ((ad 23))), some (.int (nI st)), some (.int (nI w)), some (.int (nI i)), some (.int (nI x)), some (.int (nI 1))]) dX7_firstSeen_52 (Nat.le_of_ble_eq_true rfl) (Nat.le_of_ble_eq_true rfl) rfl rfl ?_
          refine zr_iload dX7_firstSeen_54 rfl ?_
          refine zr_if_ne 74 dX7_firstSeen_56 (by decide) (fun h56 => ?_) (fun h56 => absurd h56 (by decide))
          refine zr_iincN (n := 1) (lv' := [some (.ref ((ad 23))), some (.int (nI st)), some (.int (nI w)), some (.int (nI (i + 1))), some (.int (nI x)), some (.int (nI 1))]) dX7_firstSeen_74 (Nat.le_of_ble_eq_true rfl) (Nat.le_of_ble_eq_true rfl) rfl rfl rfl ?_
          refine zr_goto 6 dX7_firstSeen_77 (by decide) ?_
          refine zr_drop 4 rfl ?_
          refine zr_drop 5 rfl ?_
          exact ih _ (by omega) (i + 1) rfl (by omega) (by omega) (fun j h1 h2 => (Nat.lt_or_ge j i).elim (fun z => ha j h1 z) (fun z hv => by obtain ⟨x1, z1, z2, z3, z4⟩ := hv; rw [show j = i by omega] at z1 z3; rw [hx] at z1; cases z1; exact (absurd (htk.mp (by omega)) z3 : False)))
set_option maxRecDepth 100000 in
set_option maxHeartbeats 4000000 in
theorem c_Rows_firstSeen {G : zG} {ad : Nat → Nat} {d st w : Nat} {P : List Nat} {M : zM} (hd : 2 ≤ d) (hcb : zC M ≤ 600128 ∧ zS M ≤ 7301098) (hL : Lay ad M) (hR : Rs ad M P) (hE : Eb (zA M (ad 2)) P) (hwb : w < 2 ^ 31) (hst : st < 2 ^ 31)  : zMet G mX7_firstSeen d [.ref ((ad 23)), .int (nI st), .int (nI w)] M (fun o M' => M' = M ∧ ∃ x : Option Nat, o = .inl (some (.int (zvi x))) ∧ (∀ j, x = some j → st ≤ j ∧ Vis (zA M (ad 2)) P w j ∧ ∀ i, st ≤ i → i < j → ¬ Vis (zA M (ad 2)) P w i) ∧ (x = none → ∀ j, st ≤ j → ¬ Vis (zA M (ad 2)) P w j)) := by
  refine zMet_of (by decide +kernel) (Nat.le_of_ble_eq_true rfl) rfl hcb ?_
  show zw G mX7_firstSeen d _ _ _ 0 [some (.ref ((ad 23))), some (.int (nI st)), some (.int (nI w)), none, none, none] [] M
  refine zr_iconst (v := nI 0) dX7_firstSeen_0 (by decide) ?_
  refine zr_iload_n dX7_firstSeen_1 rfl ?_
  refine zr_callS (md' := mJ9_max_7cf53) (As := [.int (nI 0), .int (nI st)]) dX7_firstSeen_2 mlX7_61 okJ9_max_7cf53 rfl stJ9_max_7cf53 rfl (by omega) (Nat.le_of_ble_eq_true rfl) hcb (c_max (d := d - 1) hcb (by omega) (by omega)) (fun k M1 h => by cases h.1) (fun v M1 hq => ?_)
  obtain ⟨e0, e1⟩ := hq
  cases e0
  rw [e1]
  rw [Nat.zero_max]
  refine zr_istore_n (lv' := [some (.ref ((ad 23))), some (.int (nI st)), some (.int (nI w)), some (.int (nI st)), none, none]) dX7_firstSeen_5 (Nat.le_of_ble_eq_true rfl) (Nat.le_of_ble_eq_true rfl) rfl rfl ?_
  exact l_Rows_firstSeen hd hcb hL hR hE hwb (fun x h1 h2 => ⟨rfl, x, rfl, h1, h2⟩) _ st rfl (by omega) (by omega) (fun j h1 h2 => by omega)
