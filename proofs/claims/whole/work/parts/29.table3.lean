/-! ===== what a file holds; Table.lastBefore, following, faults ===== -/
/-- what a file holds: its blocks, and the entries of each data block (the last block is its filter) -/
def TC (D : Nat → Int32) (bl : List Nat) (css : List (List Nat)) : Prop :=
  bl.length = css.length + 1 ∧ 1 ≤ css.length ∧ css.length ≤ 8 ∧ Br bl ∧ (∀ (i b : Nat) (c : List Nat), bl[i]? = some b → css[i]? = some c → ∃ ps, c = b * 512 :: ps ∧ Cb D (b * 512) ps ∧ c.length ≤ 64) ∧
  (∀ q ∈ css.flatten, q < 303096 ∧ ecm D q < 2 ^ 31) ∧ (∀ q ∈ css.flatten, Ewf D q) ∧ css.flatten.Pairwise (pre D) ∧ ∀ f, bl[css.length]? = some f → ∀ q ∈ css.flatten, Fil D (f * 512) (eky D q)
theorem flatten_get : ∀ {css : List (List Nat)} {i p : Nat}, css.flatten[i]? = some p → ∃ A c B l1 l2, css = A ++ c :: B ∧ c = l1 ++ p :: l2 ∧ i = A.flatten.length + l1.length
  | [], i, p, h => by simp at h
  | c :: css, i, p, h => by
    rw [List.flatten_cons] at h
    rcases Nat.lt_or_ge i c.length with e | e
    · rw [List.getElem?_append_left e] at h
      refine ⟨[], c, css, c.take i, c.drop (i + 1), rfl, ?_, by rw [List.length_take]; simp; omega⟩
      have h2 := List.getElem?_eq_some_iff.mp h
      obtain ⟨h3, h4⟩ := h2
      rw [← h4, ← List.drop_eq_getElem_cons h3, List.take_append_drop]
    · rw [List.getElem?_append_right e] at h
      obtain ⟨A, c', B, l1, l2, h1, h2, h3⟩ := flatten_get h
      exact ⟨c :: A, c', B, l1, l2, by rw [h1]; rfl, h2, by rw [List.flatten_cons, List.length_append]; omega⟩
theorem Cb.at {D : Nat → Int32} : ∀ {l1 : List Nat} {p q : Nat} {ps l2 : List Nat}, Cb D p ps → p :: ps = l1 ++ q :: l2 → (l2 = [] → nib D q = none) ∧ (∀ x l3, l2 = x :: l3 → nib D q = some x)
  | [], p, q, ps, l2, h, e => by
    cases e
    cases ps with
    | nil => exact ⟨fun _ => h, fun x l3 z => by cases z⟩
    | cons y ps => exact ⟨fun z => (by cases z), fun x l3 z => by cases z; exact h.1⟩
  | a :: l1, p, q, ps, l2, h, e => by
    rw [List.cons_append] at e
    injection e with e1 e2
    cases ps with
    | nil => cases l1 <;> cases e2
    | cons y ps => exact Cb.at h.2 e2
/-- the next entry, by the blocks and by the row of all -/
theorem TC.nx {D : Nat → Int32} {bl : List Nat} {css : List (List Nat)} (h : TC D bl css) {i p : Nat} (hp : css.flatten[i]? = some p) : ∃ k, bl[k]? = some (p / 512) ∧ k + 1 < bl.length ∧ nxt D bl k p = css.flatten[i + 1]? := by
  obtain ⟨h1, h2, h3, h4, h5, h6⟩ := h
  obtain ⟨A, c, B, l1, l2, e1, e2, e3⟩ := flatten_get hp
  have hl : css.length = A.length + (B.length + 1) := by rw [e1, List.length_append, List.length_cons]
  obtain ⟨b, hb⟩ : ∃ b, bl[A.length]? = some b := ⟨_, List.getElem?_eq_getElem (by omega)⟩
  have hc : css[A.length]? = some c := by rw [e1, List.getElem?_append_right (Nat.le_refl _), Nat.sub_self, List.getElem?_cons_zero]
  obtain ⟨ps, c1, c2, c3⟩ := h5 _ _ _ hb hc
  have hmem : p ∈ b * 512 :: ps := by rw [← c1, e2]; exact List.mem_append_right _ List.mem_cons_self
  have hblk := c2.blk p hmem
  have hE : css.flatten = A.flatten ++ (l1 ++ p :: l2) ++ B.flatten := by rw [e1, List.flatten_append, List.flatten_cons, e2]; simp
  have hat := c2.at (l1 := l1) (q := p) (l2 := l2) (by rw [← c1, e2])
  refine ⟨A.length, by rw [hb, hblk]; congr 1; omega, by omega, ?_⟩
  rw [hE, e3]
  cases l2 with
  | cons x l3 =>
    unfold nxt
    rw [hat.2 x l3 rfl, List.append_assoc, List.append_assoc, List.getElem?_append_right (by omega), List.getElem?_append_right (by omega), show A.flatten.length + l1.length + 1 - A.flatten.length - l1.length = 1 by omega]
    rfl
  | nil =>
    unfold nxt
    rw [hat.1 rfl, List.getElem?_append_right (by simp; omega), show A.flatten.length + l1.length + 1 - (A.flatten ++ (l1 ++ [p])).length = 0 by simp; omega]
    show sOf bl (A.length + 1) = _
    unfold sOf
    cases B with
    | nil => rw [if_neg (by rw [hl] at h1; simp at h1; omega)]; rfl
    | cons c' B =>
      rw [if_pos (by rw [hl] at h1; simp at h1; omega)]
      obtain ⟨b', hb'⟩ : ∃ b', bl[A.length + 1]? = some b' := ⟨_, List.getElem?_eq_getElem (by rw [hl] at h1; simp at h1; omega)⟩
      have hc' : css[A.length + 1]? = some c' := by rw [e1, List.getElem?_append_right (by omega), show A.length + 1 - A.length = 1 by omega]; rfl
      obtain ⟨ps', d1, d2, d3⟩ := h5 _ _ _ hb' hc'
      rw [hb', d1]; rfl
theorem TC.first {D : Nat → Int32} {bl : List Nat} {css : List (List Nat)} (h : TC D bl css) : sOf bl 0 = css.flatten[0]? := by
  obtain ⟨h1, h2, h3, h4, h5, h6⟩ := h
  cases css with
  | nil => simp at h2
  | cons c css =>
    obtain ⟨b, hb⟩ : ∃ b, bl[0]? = some b := ⟨_, List.getElem?_eq_getElem (by omega)⟩
    obtain ⟨ps, c1, -⟩ := h5 0 b c hb rfl
    unfold sOf
    rw [if_pos (by rw [List.length_cons] at h1; omega), hb, List.flatten_cons, c1]; rfl
/-- the last that is before, out of what stands behind it -/
theorem lst_of {D : Nat → Int32} {X Z : List Nat} {y : Nat} {k : List Nat} {v : Nat} (hs : (X ++ y :: Z).Pairwise (pre D)) (hy : bef D y k v) (hz : ∀ q, Z.head? = some q → ¬ bef D q k v) : Lst D (X ++ y :: Z) k v (some y) := by
  rw [List.pairwise_append, List.pairwise_cons] at hs
  refine ⟨fun p hp => ?_, fun z => by cases z⟩
  cases hp
  refine ⟨List.mem_append_right _ List.mem_cons_self, hy, fun q hq hb => ?_⟩
  rcases List.mem_append.mp hq with hq | hq
  · exact Or.inr (hs.2.2 q hq y List.mem_cons_self)
  · rcases List.mem_cons.mp hq with rfl | hq
    · exact Or.inl rfl
    · cases Z with
      | nil => cases hq
      | cons z Z =>
        have h1 := hz z rfl
        rcases List.mem_cons.mp hq with rfl | hq
        · exact absurd hb h1
        · exact absurd (bef_pre ((List.pairwise_cons.mp hs.2.1.2).1 q hq) hb) h1
theorem Lst.none_of {D : Nat → Int32} {E : List Nat} {k : List Nat} {v : Nat} (hs : E.Pairwise (pre D)) (h : ∀ q, E.head? = some q → ¬ bef D q k v) : Lst D E k v none := by
  refine ⟨fun p hp => (by cases hp), fun _ q hq hb => ?_⟩
  cases E with
  | nil => cases hq
  | cons z E =>
    have h1 := h z rfl
    rcases List.mem_cons.mp hq with rfl | hq
    · exact h1 hb
    · exact h1 (bef_pre ((List.pairwise_cons.mp hs).1 q hq) hb)
/-- what stands behind the last that is before is the first that is not -/
theorem Lst.frm {D : Nat → Int32} {E : List Nat} {k : List Nat} {v : Nat} (hs : E.Pairwise (pre D)) {x : Option Nat} (h : Lst D E k v x) : (x = none → Frm D E k v E[0]?) ∧ ∀ p i, x = some p → E[i]? = some p → Frm D E k v E[i + 1]? := by
  constructor
  · intro hx
    refine ⟨fun p hp => ⟨List.mem_of_getElem? hp, h.2 hx p (List.mem_of_getElem? hp), fun q hq _ => ?_⟩, fun hn q hq => ?_⟩
    · obtain ⟨j, hj⟩ := List.getElem?_of_mem hq
      rcases Nat.eq_zero_or_pos j with e | e
      · rw [e, hp] at hj; exact Or.inl (Option.some.inj hj).symm
      · exact Or.inr (pw_get hs e hp hj)
    · have := List.getElem?_eq_none_iff.mp hn
      have h9 : E = [] := List.length_eq_zero_iff.mp (by omega)
      rw [h9] at hq; cases hq
  · intro p i hx hi
    obtain ⟨h1, h2, h3⟩ := h.1 p hx
    refine ⟨fun r hr => ⟨List.mem_of_getElem? hr, fun hb => ?_, fun q hq hb => ?_⟩, fun hn q hq => ?_⟩
    · rcases h3 r (List.mem_of_getElem? hr) hb with rfl | z
      · exact pre_irrefl (pw_get hs (Nat.lt_succ_self i) hi hr)
      · exact pre_irrefl (pre_trans z (pw_get hs (Nat.lt_succ_self i) hi hr))
    · obtain ⟨j, hj⟩ := List.getElem?_of_mem hq
      rcases Nat.lt_trichotomy j (i + 1) with e | e | e
      · rcases Nat.lt_or_ge j i with e2 | e2
        · exact absurd (bef_pre (pw_get hs e2 hj hi) h2) hb
        · rw [show j = i by omega, hi] at hj; cases hj; exact absurd h2 hb
      · rw [e, hr] at hj; exact Or.inl (Option.some.inj hj).symm
      · exact Or.inr (pw_get hs e hr hj)
    · obtain ⟨j, hj⟩ := List.getElem?_of_mem hq
      have a1 := (List.getElem?_eq_some_iff.mp hj).1
      have a2 := List.getElem?_eq_none_iff.mp hn
      rcases Nat.lt_or_ge j i with e2 | e2
      · exact bef_pre (pw_get hs e2 hj hi) h2
      · rw [show j = i by omega, hi] at hj; cases hj; exact h2
set_option maxRecDepth 100000 in
set_option maxHeartbeats 4000000 in
theorem l_Table_lb2 {G : zG} {ad : Nat → Nat} {d k0 n0 j v r rc len cap : Nat} {bl : List Nat} {la : Option Nat} {M : zM} {Q : zOut → zM → Prop} (hd : 2 ≤ d) (hcb : zC M ≤ 600128 ∧ zS M ≤ 7301098) (hL : Lay ad M) (hj : j < 259) (hT : Tb ad M j bl la) (hw : zRw M r rc len cap) (hvb : v < 2 ^ 31) : ∀ (ps : List Nat) (a i : Nat), Cb (zA M (ad 2)) a ps → bef (zA M (ad 2)) a (rwl (zA M rc) len) v → (∀ q ∈ a :: ps, q < 303096 ∧ ecm (zA M (ad 2)) q < 2 ^ 31) → i + ps.length < 511 → (∀ (y : Nat) (r1 r2 : List Nat), a :: ps = r1 ++ y :: r2 → bef (zA M (ad 2)) y (rwl (zA M rc) len) v → (∀ q, r2.head? = some q → ¬ bef (zA M (ad 2)) q (rwl (zA M rc) len) v) → Q (.inl (some (.int (nI y)))) M) → zw G mX8_lastBefore d k0 n0 Q 60 [some (.ref ((ad (tA j)))), some (.ref r), some (.int (nI v)), some (.int (nI a)), some (.int (nI i)), none] [] M := by
  intro ps
  obtain ⟨ht1, ht2, ht3, ht4⟩ := id hT
  obtain ⟨gK, gR, gKb, gNb, gI, gl, gc⟩ := id hw
  induction ps with
  | nil =>
    intro a i hch hba hin hl hq0
    have hnb : nib (zA M (ad 2)) a = none := hch
    have ha := (hin a List.mem_cons_self).1
    rw [List.length_nil] at hl
    refine zr_iload dX8_lastBefore_60 rfl ?_
    refine zr_sipush (v := nI 512) dX8_lastBefore_62 (by decide) ?_
    refine zr_icmp_geN 114 dX8_lastBefore_65 (by decide) (by omega) (by omega) (fun h65 => ?_) (fun h65 => ?_)
    · refine zr_iload_n dX8_lastBefore_114 rfl ?_
      refine zr_iret dX8_lastBefore_115 rfl ?_
      first | (exfalso; omega) | exact hq0 a [] [] rfl hba (fun q hq => by cases hq)
    · refine zr_iload_n dX8_lastBefore_68 rfl ?_
      refine zr_iconst (v := -1) dX8_lastBefore_69 (by decide) ?_
      refine zr_icmp_eqM 114 dX8_lastBefore_70 (by decide) (by omega) ?_
      refine zr_aload_n dX8_lastBefore_73 rfl ?_
      refine zr_getR dX8_lastBefore_74 lkX8_15 (by decide) (by decide) rfl (hL.Kt hj) (hL.td hj) ?_
      refine zr_iload_n dX8_lastBefore_77 rfl ?_
      refine zr_callV (md' := mX1_nextInBlock) (As := [.int (nI a)]) dX8_lastBefore_78 mlX8_30 okX1_nextInBlock rfl inX1_nextInBlock slX1_nextInBlock (by decide) (hL.K 1 2) rfl (by omega) (Nat.le_of_ble_eq_true rfl) hcb (c_Disk_nextT (d := d - 1) hcb hL.dk (by omega)) (fun k M1 h => by cases h.1) (fun v M1 hq => ?_)
      obtain ⟨e0, e1⟩ := hq
      cases e0
      rw [e1, hnb]
      refine zr_istore (lv' := [some (.ref ((ad (tA j)))), some (.ref r), some (.int (nI v)), some (.int (nI a)), some (.int (nI i)), some (.int ((-1)))]) dX8_lastBefore_81 (Nat.le_of_ble_eq_true rfl) (Nat.le_of_ble_eq_true rfl) rfl rfl ?_
      refine zr_iload dX8_lastBefore_83 rfl ?_
      refine zr_iconst (v := -1) dX8_lastBefore_85 (by decide) ?_
      refine zr_icmp_eqMM 103 dX8_lastBefore_86 (by decide) ?_
      refine zr_iload_n dX8_lastBefore_103 rfl ?_
      refine zr_iret dX8_lastBefore_104 rfl ?_
      first | (exfalso; omega) | exact hq0 a [] [] rfl hba (fun q hq => by cases hq)
  | cons q ps ih =>
    intro a i hch hba hin hl hq0
    obtain ⟨hnb, hnx⟩ := id hch
    have ha := (hin a List.mem_cons_self).1
    rw [List.length_cons] at hl
    refine zr_iload dX8_lastBefore_60 rfl ?_
    refine zr_sipush (v := nI 512) dX8_lastBefore_62 (by decide) ?_
    refine zr_icmp_geN 114 dX8_lastBefore_65 (by decide) (by omega) (by omega) (fun h65 => ?_) (fun h65 => ?_)
    · refine zr_iload_n dX8_lastBefore_114 rfl ?_
      refine zr_iret dX8_lastBefore_115 rfl ?_
      first | (exfalso; omega) | exact hq0 a [] (q :: ps) rfl hba (fun z hz => by cases hz; exact fun y => absurd (htk.mpr y) (by omega))
    · refine zr_iload_n dX8_lastBefore_68 rfl ?_
      refine zr_iconst (v := -1) dX8_lastBefore_69 (by decide) ?_
      refine zr_icmp_eqM 114 dX8_lastBefore_70 (by decide) (by omega) ?_
      refine zr_aload_n dX8_lastBefore_73 rfl ?_
      refine zr_getR dX8_lastBefore_74 lkX8_15 (by decide) (by decide) rfl (hL.Kt hj) (hL.td hj) ?_
      refine zr_iload_n dX8_lastBefore_77 rfl ?_
      refine zr_callV (md' := mX1_nextInBlock) (As := [.int (nI a)]) dX8_lastBefore_78 mlX8_30 okX1_nextInBlock rfl inX1_nextInBlock slX1_nextInBlock (by decide) (hL.K 1 2) rfl (by omega) (Nat.le_of_ble_eq_true rfl) hcb (c_Disk_nextT (d := d - 1) hcb hL.dk (by omega)) (fun k M1 h => by cases h.1) (fun v M1 hq => ?_)
      obtain ⟨e0, e1⟩ := hq
      cases e0
      rw [e1, hnb]
      refine zr_istore (lv' := [some (.ref ((ad (tA j)))), some (.ref r), some (.int (nI v)), some (.int (nI a)), some (.int (nI i)), some (.int (nI q))]) dX8_lastBefore_81 (Nat.le_of_ble_eq_true rfl) (Nat.le_of_ble_eq_true rfl) rfl rfl ?_
      have hq9 := (hin q (List.mem_cons_of_mem _ List.mem_cons_self)).1
      refine zr_iload dX8_lastBefore_83 rfl ?_
      refine zr_iconst (v := -1) dX8_lastBefore_85 (by decide) ?_
      refine zr_icmp_eqM 103 dX8_lastBefore_86 (by decide) (by omega) ?_
      refine zr_aload_n dX8_lastBefore_89 rfl ?_
      refine zr_getR dX8_lastBefore_90 lkX8_15 (by decide) (by decide) rfl (hL.Kt hj) (hL.td hj) ?_
      refine zr_iload dX8_lastBefore_93 rfl ?_
      refine zr_aload_n dX8_lastBefore_95 rfl ?_
      refine zr_iload_n dX8_lastBefore_96 rfl ?_
      refine zr_callV (md' := mX1_isBefore) (As := [.int (nI q), .ref r, .int (nI v)]) dX8_lastBefore_97 mlX8_35 okX1_isBefore rfl inX1_isBefore slX1_isBefore (by decide) (hL.K 1 2) rfl (by omega) (Nat.le_of_ble_eq_true rfl) hcb (c_Disk_isBefore (d := d - 1) (by omega) hcb hL.dk hw (hin q (List.mem_cons_of_mem _ List.mem_cons_self)).1 (hin q (List.mem_cons_of_mem _ List.mem_cons_self)).2 hvb) (fun k M1 h => by obtain ⟨-, t, -, h, -⟩ := h; cases h) (fun v M1 hq => ?_)
      obtain ⟨e1, t, ht, e0, htk⟩ := hq
      cases e0
      rw [e1]
      refine zr_if_neN 105 dX8_lastBefore_100 (by decide) (by omega) (fun h100 => ?_) (fun h100 => ?_)
      · refine zr_iload dX8_lastBefore_105 rfl ?_
        refine zr_istore_n (lv' := [some (.ref ((ad (tA j)))), some (.ref r), some (.int (nI v)), some (.int (nI q)), some (.int (nI i)), some (.int (nI q))]) dX8_lastBefore_107 (Nat.le_of_ble_eq_true rfl) (Nat.le_of_ble_eq_true rfl) rfl rfl ?_
        refine zr_iincN (n := 1) (lv' := [some (.ref ((ad (tA j)))), some (.ref r), some (.int (nI v)), some (.int (nI q)), some (.int (nI (i + 1))), some (.int (nI q))]) dX8_lastBefore_108 (Nat.le_of_ble_eq_true rfl) (Nat.le_of_ble_eq_true rfl) rfl rfl rfl ?_
        refine zr_goto 60 dX8_lastBefore_111 (by decide) ?_
        refine zr_drop 5 rfl ?_
        exact ih q (i + 1) hnx (htk.mp (by omega)) (fun z hz => hin z (List.mem_cons_of_mem _ hz)) (by omega) (fun y r1 r2 h1 h2 h3 => hq0 y (a :: r1) r2 (by rw [h1]; rfl) h2 h3)
      · refine zr_iload_n dX8_lastBefore_103 rfl ?_
        refine zr_iret dX8_lastBefore_104 rfl ?_
        first | (exfalso; omega) | exact hq0 a [] (q :: ps) rfl hba (fun z hz => by cases hz; exact fun y => absurd (htk.mpr y) (by omega))
set_option maxRecDepth 100000 in
set_option maxHeartbeats 4000000 in
theorem l_Table_lb1 {G : zG} {ad : Nat → Nat} {d k0 n0 j v r rc len cap : Nat} {bl : List Nat} {css : List (List Nat)} {la : Option Nat} {M : zM} {Q : zOut → zM → Prop} (hd : 2 ≤ d) (hcb : zC M ≤ 600128 ∧ zS M ≤ 7301098) (hL : Lay ad M) (hj : j < 259) (hT : Tb ad M j bl la) (hC : TC (zA M (ad 2)) bl css) (hw : zRw M r rc len cap) (hvb : v < 2 ^ 31) (hk : ∀ (i : Nat) (x : Option Nat), i ≤ css.length → (∀ z b, z < i → bl[z]? = some b → bef (zA M (ad 2)) (b * 512) (rwl (zA M rc) len) v) → (i < css.length → ∀ b, bl[i]? = some b → ¬ bef (zA M (ad 2)) (b * 512) (rwl (zA M rc) len) v) → ((i = 0 ∧ x = none) ∨ (∃ b, bl[i - 1]? = some b ∧ x = some (b * 512) ∧ 1 ≤ i)) → zw G mX8_lastBefore d k0 n0 Q 57 [some (.ref ((ad (tA j)))), some (.ref r), some (.int (nI v)), some (.int (zvi x)), some (.int (nI i)), none] [] M) : ∀ (m i : Nat) (x : Option Nat), css.length - i = m → i ≤ css.length → (∀ z b, z < i → bl[z]? = some b → bef (zA M (ad 2)) (b * 512) (rwl (zA M rc) len) v) → ((i = 0 ∧ x = none) ∨ (∃ b, bl[i - 1]? = some b ∧ x = some (b * 512) ∧ 1 ≤ i)) → zw G mX8_lastBefore d k0 n0 Q 5 [some (.ref ((ad (tA j)))), some (.ref r), some (.int (nI v)), some (.int (zvi x)), some (.int (nI i)), none] [] M := by
  intro m
  induction m using Nat.strongRecOn with
  | _ m ih =>
    intro i x hm hi hall hx
    obtain ⟨ht1, ht2, ht3, ht4⟩ := id hT
    obtain ⟨gK, gR, gKb, gNb, gI, gl, gc⟩ := id hw
    have hbl := hC.1
    have hcl := hC.2.1
    refine zr_iload dX8_lastBefore_5 rfl ?_
    refine zr_aload_n dX8_lastBefore_7 rfl ?_
    refine zr_getI dX8_lastBefore_8 lkX8_19 (by decide) (by decide) rfl (hL.Kt hj) ?_
    refine zr_as (y := (nI bl.length)) ht1 ?_
    refine zr_iconst (v := nI 1) dX8_lastBefore_11 (by decide) ?_
    refine zr_isubN dX8_lastBefore_12 (by omega) ?_
    refine zr_icmp_geN 57 dX8_lastBefore_13 (by decide) (by omega) (by omega) (fun h13 => ?_) (fun h13 => ?_)
    · first
        | exact hk i x hi hall (fun z => by omega) hx
        | exact hk i x hi hall (fun z b0 h0 => by rw [hb] at h0; cases h0; exact fun y => absurd (htk.mpr y) (by omega)) hx
    · obtain ⟨b, hb⟩ : ∃ b, bl[i]? = some b := ⟨_, List.getElem?_eq_getElem (by omega)⟩
      have hbr1 := hC.2.2.2.1.1 b (List.mem_of_getElem? hb)
      obtain ⟨c, hc⟩ : ∃ c, css[i]? = some c := ⟨_, List.getElem?_eq_getElem (by omega)⟩
      obtain ⟨ps, c1, c2, c3⟩ := hC.2.2.2.2.1 i b c hb hc
      have hmem : b * 512 ∈ css.flatten := List.mem_flatten.mpr ⟨c, List.mem_of_getElem? hc, by rw [c1]; exact List.mem_cons_self⟩
      refine zr_aload_n dX8_lastBefore_16 rfl ?_
      refine zr_getR dX8_lastBefore_17 lkX8_15 (by decide) (by decide) rfl (hL.Kt hj) (hL.td hj) ?_
      refine zr_aload_n dX8_lastBefore_20 rfl ?_
      refine zr_getR dX8_lastBefore_21 lkX8_9 (by decide) (by decide) rfl (hL.Kt hj) (hL.tb hj) ?_
      refine zr_iload dX8_lastBefore_24 rfl ?_
      refine zr_ialdN dX8_lastBefore_26 (hL.Kb hj) (hL.Nb hj) (by omega) (by omega) ?_
      refine zr_as (y := (nI b)) (ht3 i b hb) ?_
      refine zr_sipush (v := nI 512) dX8_lastBefore_27 (by decide) ?_
      refine zr_imulN dX8_lastBefore_30 ?_
      refine zr_aload_n dX8_lastBefore_31 rfl ?_
      refine zr_iload_n dX8_lastBefore_32 rfl ?_
      refine zr_callV (md' := mX1_isBefore) (As := [.int (nI (b * 512)), .ref r, .int (nI v)]) dX8_lastBefore_33 mlX8_35 okX1_isBefore rfl inX1_isBefore slX1_isBefore (by decide) (hL.K 1 2) rfl (by omega) (Nat.le_of_ble_eq_true rfl) hcb (c_Disk_isBefore (d := d - 1) (by omega) hcb hL.dk hw (hC.2.2.2.2.2.1 _ hmem).1 (hC.2.2.2.2.2.1 _ hmem).2 hvb) (fun k M1 h => by obtain ⟨-, t, -, h, -⟩ := h; cases h) (fun v M1 hq => ?_)
      obtain ⟨e1, t, ht, e0, htk⟩ := hq
      cases e0
      rw [e1]
      refine zr_if_eqN 57 dX8_lastBefore_36 (by decide) (by omega) (fun h36 => ?_) (fun h36 => ?_)
      · first
          | exact hk i x hi hall (fun z => by omega) hx
          | exact hk i x hi hall (fun z b0 h0 => by rw [hb] at h0; cases h0; exact fun y => absurd (htk.mpr y) (by omega)) hx
      · refine zr_aload_n dX8_lastBefore_39 rfl ?_
        refine zr_getR dX8_lastBefore_40 lkX8_9 (by decide) (by decide) rfl (hL.Kt hj) (hL.tb hj) ?_
        refine zr_iload dX8_lastBefore_43 rfl ?_
        refine zr_ialdN dX8_lastBefore_45 (hL.Kb hj) (hL.Nb hj) (by omega) (by omega) ?_
        refine zr_as (y := (nI b)) (ht3 i b hb) ?_
        refine zr_sipush (v := nI 512) dX8_lastBefore_46 (by decide) ?_
        refine zr_imulN dX8_lastBefore_49 ?_
        refine zr_istore_n (lv' := [some (.ref ((ad (tA j)))), some (.ref r), some (.int (nI v)), some (.int (nI (b * 512))), some (.int (nI i)), none]) dX8_lastBefore_50 (Nat.le_of_ble_eq_true rfl) (Nat.le_of_ble_eq_true rfl) rfl rfl ?_
        refine zr_iincN (n := 1) (lv' := [some (.ref ((ad (tA j)))), some (.ref r), some (.int (nI v)), some (.int (nI (b * 512))), some (.int (nI (i + 1))), none]) dX8_lastBefore_51 (Nat.le_of_ble_eq_true rfl) (Nat.le_of_ble_eq_true rfl) rfl rfl rfl ?_
        refine zr_goto 5 dX8_lastBefore_54 (by decide) ?_
        exact ih _ (by omega) (i + 1) (some (b * 512)) rfl (by omega) (fun z b0 hz h0 => (Nat.lt_or_ge z i).elim (fun y => hall z b0 y h0) (fun y => by rw [show z = i by omega, hb] at h0; cases h0; exact htk.mp (by omega))) (Or.inr ⟨b, by rw [Nat.add_sub_cancel]; exact hb, rfl, by omega⟩)
set_option maxRecDepth 100000 in
set_option maxHeartbeats 4000000 in
theorem t_Table_lb {G : zG} {ad : Nat → Nat} {d k0 n0 j v r rc len cap i : Nat} {x : Option Nat} {bl : List Nat} {css : List (List Nat)} {la : Option Nat} {M : zM} (hd : 2 ≤ d) (hcb : zC M ≤ 600128 ∧ zS M ≤ 7301098) (hL : Lay ad M) (hj : j < 259) (hT : Tb ad M j bl la) (hC : TC (zA M (ad 2)) bl css) (hw : zRw M r rc len cap) (hvb : v < 2 ^ 31) (hi : i ≤ css.length) (hall : ∀ z b, z < i → bl[z]? = some b → bef (zA M (ad 2)) (b * 512) (rwl (zA M rc) len) v) (hnb0 : i < css.length → ∀ b, bl[i]? = some b → ¬ bef (zA M (ad 2)) (b * 512) (rwl (zA M rc) len) v) (hx : (i = 0 ∧ x = none) ∨ (∃ b, bl[i - 1]? = some b ∧ x = some (b * 512) ∧ 1 ≤ i)) : zw G mX8_lastBefore d k0 n0 (fun o M' => M' = M ∧ ∃ y : Option Nat, o = .inl (some (.int (zvi y))) ∧ Lst (zA M (ad 2)) css.flatten (rwl (zA M rc) len) v y) 57 [some (.ref ((ad (tA j)))), some (.ref r), some (.int (nI v)), some (.int (zvi x)), some (.int (nI i)), none] [] M := by
  obtain ⟨ht1, ht2, ht3, ht4⟩ := id hT
  obtain ⟨gK, gR, gKb, gNb, gI, gl, gc⟩ := id hw
  have hbl := hC.1
  have hcl := hC.2.1
  rcases hx with ⟨hi0, rfl⟩ | ⟨b, hb, rfl, hi1⟩
  · subst hi0
    refine zr_iconst (v := nI 0) dX8_lastBefore_57 (by decide) ?_
    refine zr_istore (lv' := [some (.ref ((ad (tA j)))), some (.ref r), some (.int (nI v)), some (.int ((-1))), some (.int (nI 0)), none]) dX8_lastBefore_58 (Nat.le_of_ble_eq_true rfl) (Nat.le_of_ble_eq_true rfl) rfl rfl ?_
    refine zr_iload dX8_lastBefore_60 rfl ?_
    refine zr_sipush (v := nI 512) dX8_lastBefore_62 (by decide) ?_
    refine zr_icmp_geN 114 dX8_lastBefore_65 (by decide) (by omega) (by omega) (fun h65 => ?_) (fun h65 => ?_)
    · refine zr_iload_n dX8_lastBefore_114 rfl ?_
      refine zr_iret dX8_lastBefore_115 rfl ?_
      exact ⟨rfl, none, rfl, Lst.none_of hC.2.2.2.2.2.2.2.1 (fun q hq => by
        have hf := hC.first
        obtain ⟨b, hb⟩ : ∃ b, bl[0]? = some b := ⟨_, List.getElem?_eq_getElem (by omega)⟩
        unfold sOf at hf
        rw [if_pos (by omega), hb, ← List.head?_eq_getElem?, hq] at hf
        cases hf
        exact hnb0 (by omega) b hb)⟩
    · refine zr_iload_n dX8_lastBefore_68 rfl ?_
      refine zr_iconst (v := -1) dX8_lastBefore_69 (by decide) ?_
      refine zr_icmp_eqMM 114 dX8_lastBefore_70 (by decide) ?_
      refine zr_iload_n dX8_lastBefore_114 rfl ?_
      refine zr_iret dX8_lastBefore_115 rfl ?_
      exact ⟨rfl, none, rfl, Lst.none_of hC.2.2.2.2.2.2.2.1 (fun q hq => by
        have hf := hC.first
        obtain ⟨b, hb⟩ : ∃ b, bl[0]? = some b := ⟨_, List.getElem?_eq_getElem (by omega)⟩
        unfold sOf at hf
        rw [if_pos (by omega), hb, ← List.head?_eq_getElem?, hq] at hf
        cases hf
        exact hnb0 (by omega) b hb)⟩
  · obtain ⟨c, hc⟩ : ∃ c, css[i - 1]? = some c := ⟨_, List.getElem?_eq_getElem (by omega)⟩
    obtain ⟨ps, c1, c2, c3⟩ := hC.2.2.2.2.1 (i - 1) b c hb hc
    have hin : ∀ q ∈ b * 512 :: ps, q < 303096 ∧ ecm (zA M (ad 2)) q < 2 ^ 31 := fun q hq => hC.2.2.2.2.2.1 q (List.mem_flatten.mpr ⟨c, List.mem_of_getElem? hc, by rw [c1]; exact hq⟩)
    refine zr_iconst (v := nI 0) dX8_lastBefore_57 (by decide) ?_
    refine zr_istore (lv' := [some (.ref ((ad (tA j)))), some (.ref r), some (.int (nI v)), some (.int (nI (b * 512))), some (.int (nI 0)), none]) dX8_lastBefore_58 (Nat.le_of_ble_eq_true rfl) (Nat.le_of_ble_eq_true rfl) rfl rfl ?_
    refine l_Table_lb2 hd hcb hL hj hT hw hvb ps (b * 512) 0 c2 (hall _ _ (by omega) hb) hin (by rw [c1, List.length_cons] at c3; omega) (fun y r1 r2 h1 h2 h3 => ⟨rfl, some y, rfl, ?_⟩)
    have e1 : css = css.take (i - 1) ++ c :: css.drop i := by
      have h9 := List.getElem?_eq_some_iff.mp hc
      obtain ⟨h9, h10⟩ := h9
      have h11 := List.drop_eq_getElem_cons h9
      rw [h10, show i - 1 + 1 = i by omega] at h11
      rw [← h11, List.take_append_drop]
    have hE : css.flatten = ((css.take (i - 1)).flatten ++ r1) ++ y :: (r2 ++ (css.drop i).flatten) := by
      have e2 := congrArg List.flatten e1
      rw [List.flatten_append, List.flatten_cons, c1, h1] at e2
      rw [e2]; simp
    have hsr := hC.2.2.2.2.2.2.2.1
    rw [hE] at hsr ⊢
    refine lst_of hsr h2 (fun q hq => ?_)
    cases r2 with
    | cons z r2 => exact h3 q hq
    | nil =>
      rw [List.nil_append] at hq
      rcases Nat.lt_or_ge i css.length with e3 | e3
      · obtain ⟨b2, hb2⟩ : ∃ b2, bl[i]? = some b2 := ⟨_, List.getElem?_eq_getElem (by omega)⟩
        obtain ⟨cc, hcc⟩ : ∃ cc, css[i]? = some cc := ⟨_, List.getElem?_eq_getElem e3⟩
        obtain ⟨ps2, d1, -⟩ := hC.2.2.2.2.1 i b2 cc hb2 hcc
        have h12 := List.drop_eq_getElem_cons e3
        rw [h12, (List.getElem?_eq_some_iff.mp hcc).2, List.flatten_cons, d1] at hq
        cases hq
        exact hnb0 e3 b2 hb2
      · rw [List.drop_eq_nil_of_le e3] at hq; cases hq
set_option maxRecDepth 100000 in
set_option maxHeartbeats 4000000 in
theorem c_Table_lastBefore {G : zG} {ad : Nat → Nat} {d j v r rc len cap : Nat} {bl : List Nat} {css : List (List Nat)} {la : Option Nat} {M : zM} (hd : 2 ≤ d) (hcb : zC M ≤ 600128 ∧ zS M ≤ 7301098) (hL : Lay ad M) (hj : j < 259) (hT : Tb ad M j bl la) (hC : TC (zA M (ad 2)) bl css) (hw : zRw M r rc len cap) (hvb : v < 2 ^ 31)  : zMet G mX8_lastBefore d [.ref ((ad (tA j))), .ref r, .int (nI v)] M (fun o M' => M' = M ∧ ∃ y : Option Nat, o = .inl (some (.int (zvi y))) ∧ Lst (zA M (ad 2)) css.flatten (rwl (zA M rc) len) v y) := by
  refine zMet_of (by decide +kernel) (Nat.le_of_ble_eq_true rfl) rfl hcb ?_
  show zw G mX8_lastBefore d _ _ _ 0 [some (.ref ((ad (tA j)))), some (.ref r), some (.int (nI v)), none, none, none] [] M
  obtain ⟨ht1, ht2, ht3, ht4⟩ := id hT
  refine zr_iconst (v := -1) dX8_lastBefore_0 (by decide) ?_
  refine zr_istore_n (lv' := [some (.ref ((ad (tA j)))), some (.ref r), some (.int (nI v)), some (.int ((-1))), none, none]) dX8_lastBefore_1 (Nat.le_of_ble_eq_true rfl) (Nat.le_of_ble_eq_true rfl) rfl rfl ?_
  refine zr_iconst (v := nI 0) dX8_lastBefore_2 (by decide) ?_
  refine zr_istore (lv' := [some (.ref ((ad (tA j)))), some (.ref r), some (.int (nI v)), some (.int ((-1))), some (.int (nI 0)), none]) dX8_lastBefore_3 (Nat.le_of_ble_eq_true rfl) (Nat.le_of_ble_eq_true rfl) rfl rfl ?_
  exact l_Table_lb1 hd hcb hL hj hT hC hw hvb (fun i x h1 h2 h3 h4 => t_Table_lb hd hcb hL hj hT hC hw hvb h1 h2 h3 h4) _ 0 none rfl (by omega) (fun z b hz => by omega) (Or.inl ⟨rfl, rfl⟩)
set_option maxRecDepth 100000 in
set_option maxHeartbeats 4000000 in
theorem l_Table_faults {G : zG} {ad : Nat → Nat} {d k0 n0 j f : Nat} {bl : List Nat} {css : List (List Nat)} {la : Option Nat} {M : zM} {Q : zOut → zM → Prop} (hd : 3 ≤ d) (hcb : zC M ≤ 600128 ∧ zS M ≤ 7301098) (hL : Lay ad M) (hj : j < 259) (hT : Tb ad M j bl la) (hC : TC (zA M (ad 2)) bl css) (hf : bl[css.length]? = some f) (hlen : css.flatten.length ≤ 4000) (hq0 : Q (.inl (some (.int (nI 0)))) M) : ∀ (m n : Nat) (x : Option Nat), css.flatten.length - n = m → n ≤ css.flatten.length → ((n = 0 ∧ x = none) ∨ (∃ p0, css.flatten[n - 1]? = some p0 ∧ x = some p0 ∧ 1 ≤ n)) → zw G mX8_faults d k0 n0 Q 13 [some (.ref ((ad (tA j)))), some (.int (nI 0)), some (.int (zvi x)), some (.int (zvi (css.flatten[n]?))), some (.int (nI n))] [] M := by
  intro m
  induction m using Nat.strongRecOn with
  | _ m ih =>
    intro n x hm hn hx
    obtain ⟨ht1, ht2, ht3, ht4⟩ := id hT
    have hbl := hC.1
    have hcl := hC.2.1
    rcases Nat.lt_or_ge n css.flatten.length with h9 | h9
    · obtain ⟨p, hp⟩ : ∃ p, css.flatten[n]? = some p := ⟨_, List.getElem?_eq_getElem h9⟩
      rw [hp]
      have hpb := (hC.2.2.2.2.2.1 p (List.mem_of_getElem? hp)).1
      rcases hx with ⟨hn0, rfl⟩ | ⟨p0, hp0, rfl, hn1⟩
      · have hn9 := hn0
        refine zr_iload dX8_faults_13 rfl ?_
        refine zr_sipush (v := nI 4608) dX8_faults_15 (by decide) ?_
        refine zr_icmp_geN 92 dX8_faults_18 (by decide) (by omega) (by omega) (fun h18 => ?_) (fun h18 => ?_)
        · refine zr_iload_n dX8_faults_92 rfl ?_
          refine zr_iret dX8_faults_93 rfl ?_
          first | (exfalso; omega) | exact hq0
        · refine zr_iload_n dX8_faults_21 rfl ?_
          refine zr_iconst (v := -1) dX8_faults_22 (by decide) ?_
          refine zr_icmp_eqM 92 dX8_faults_23 (by decide) (by omega) ?_
          obtain ⟨kk, hk1, hk2, hk3⟩ := hC.nx hp
          have hkl := zb_lt (zA M (ad 2) (p + 1))
          have hkl2 : ekl (zA M (ad 2)) p = zb (zA M (ad 2) (p + 1)) := rfl
          refine zr_iload_n dX8_faults_26 rfl ?_
          refine zr_iconst (v := -1) dX8_faults_27 (by decide) ?_
          refine zr_icmp_eqMM 46 dX8_faults_28 (by decide) ?_
          refine zr_aload_n dX8_faults_46 rfl ?_
          refine zr_aload_n dX8_faults_47 rfl ?_
          refine zr_getR dX8_faults_48 lkX8_15 (by decide) (by decide) rfl (hL.Kt hj) (hL.td hj) ?_
          refine zr_getR dX8_faults_51 lkX8_53 (by decide) (by decide) rfl (hL.K 1 2) (hL.R 32 1 2) ?_
          refine zr_iload_n dX8_faults_54 rfl ?_
          refine zr_bipush (v := nI 8) dX8_faults_55 (by decide) ?_
          refine zr_iaddN dX8_faults_57 ?_
          refine zr_aload_n dX8_faults_58 rfl ?_
          refine zr_getR dX8_faults_59 lkX8_15 (by decide) (by decide) rfl (hL.Kt hj) (hL.td hj) ?_
          refine zr_iload_n dX8_faults_62 rfl ?_
          refine zr_iconst (v := nI 1) dX8_faults_63 (by decide) ?_
          refine zr_iaddN dX8_faults_64 ?_
          refine zr_iconst (v := nI 1) dX8_faults_65 (by decide) ?_
          refine zr_callV (md' := mX1_number) (As := [.int (nI (p + 1)), .int (nI 1)]) dX8_faults_66 mlX8_57 okX1_number rfl inX1_number slX1_number (by decide) (hL.K 1 2) rfl (by omega) (Nat.le_of_ble_eq_true rfl) hcb (c_Disk_number (d := d - 1) hcb hL.dk (by omega) (by decide) (by show 0 * 256 + zb (zA M (ad 2) (p + 1 + 0)) < 2 ^ 31; have := zb_lt (zA M (ad 2) (p + 1 + 0)); omega)) (fun k M1 h => by cases h.1) (fun v M1 hq => ?_)
          obtain ⟨e0, e1⟩ := hq
          cases e0
          rw [e1]
          rw [show nuN (zA M (ad 2)) (p + 1) 1 = ekl (zA M (ad 2)) p from by show 0 * 256 + zb (zA M (ad 2) (p + 1 + 0)) = zb (zA M (ad 2) (p + 1)); rw [Nat.add_zero]; omega]
          refine zr_callV (md' := mX8_allows) (As := [.ref ((ad 2)), .int (nI (p + 8)), .int (nI (ekl (zA M (ad 2)) p))]) dX8_faults_69 mlX8_61 okX8_allows rfl inX8_allows slX8_allows (by decide) (hL.Kt hj) rfl (by omega) (Nat.le_of_ble_eq_true rfl) hcb (c_Table_allows (d := d - 1) (f := f) (by omega) hcb hL hj hT hC.2.2.2.1 (hL.K 2 14) (hL.N 2 304128) (by decide) (by omega) (by omega) (by rw [hC.1, Nat.add_sub_cancel]; exact hf)) (fun k M1 h => by obtain ⟨-, t, -, h, -⟩ := h; cases h) (fun v M1 hq => ?_)
          obtain ⟨e1, t2, ht2b, e0, htk2⟩ := hq
          cases e0
          rw [e1]
          have ht2c : t2 = 1 := htk2.mpr (hC.2.2.2.2.2.2.2.2 f hf p (List.mem_of_getElem? hp))
          refine zr_if_neN 78 dX8_faults_72 (by decide) (by omega) (fun h72 => ?_) (fun h72 => ?_)
          · refine zr_iload_n dX8_faults_78 rfl ?_
            refine zr_istore_n (lv' := [some (.ref ((ad (tA j)))), some (.int (nI 0)), some (.int (nI p)), some (.int (nI p)), some (.int (nI n))]) dX8_faults_79 (Nat.le_of_ble_eq_true rfl) (Nat.le_of_ble_eq_true rfl) rfl rfl ?_
            refine zr_aload_n dX8_faults_80 rfl ?_
            refine zr_iload_n dX8_faults_81 rfl ?_
            refine zr_callV (md' := mX8_following) (As := [.int (nI p)]) dX8_faults_82 mlX8_65 okX8_following rfl inX8_following slX8_following (by decide) (hL.Kt hj) rfl (by omega) (Nat.le_of_ble_eq_true rfl) hcb (c_Table_following (d := d - 1) (by omega) hcb hL hj hT hC.2.2.2.1 (by omega) hk1 hk2) (fun k M1 h => by cases h.1) (fun v M1 hq => ?_)
            obtain ⟨e0, e1⟩ := hq
            cases e0
            rw [e1, hk3]
            refine zr_istore_n (lv' := [some (.ref ((ad (tA j)))), some (.int (nI 0)), some (.int (nI p)), some (.int (zvi (css.flatten[n + 1]?))), some (.int (nI n))]) dX8_faults_85 (Nat.le_of_ble_eq_true rfl) (Nat.le_of_ble_eq_true rfl) rfl rfl ?_
            refine zr_iincN (n := 1) (lv' := [some (.ref ((ad (tA j)))), some (.int (nI 0)), some (.int (nI p)), some (.int (zvi (css.flatten[n + 1]?))), some (.int (nI (n + 1)))]) dX8_faults_86 (Nat.le_of_ble_eq_true rfl) (Nat.le_of_ble_eq_true rfl) rfl rfl rfl ?_
            refine zr_goto 13 dX8_faults_89 (by decide) ?_
            exact ih _ (by omega) (n + 1) (some p) rfl (by omega) (Or.inr ⟨p, by rw [Nat.add_sub_cancel]; exact hp, rfl, by omega⟩)
          · refine zr_iincN (n := 1) (lv' := [some (.ref ((ad (tA j)))), some (.int (nI (0 + 1))), some (.int ((-1))), some (.int (nI p)), some (.int (nI n))]) dX8_faults_75 (Nat.le_of_ble_eq_true rfl) (Nat.le_of_ble_eq_true rfl) rfl rfl rfl ?_
            refine zr_iload_n dX8_faults_78 rfl ?_
            refine zr_istore_n (lv' := [some (.ref ((ad (tA j)))), some (.int (nI (0 + 1))), some (.int (nI p)), some (.int (nI p)), some (.int (nI n))]) dX8_faults_79 (Nat.le_of_ble_eq_true rfl) (Nat.le_of_ble_eq_true rfl) rfl rfl ?_
            refine zr_aload_n dX8_faults_80 rfl ?_
            refine zr_iload_n dX8_faults_81 rfl ?_
            refine zr_callV (md' := mX8_following) (As := [.int (nI p)]) dX8_faults_82 mlX8_65 okX8_following rfl inX8_following slX8_following (by decide) (hL.Kt hj) rfl (by omega) (Nat.le_of_ble_eq_true rfl) hcb (c_Table_following (d := d - 1) (by omega) hcb hL hj hT hC.2.2.2.1 (by omega) hk1 hk2) (fun k M1 h => by cases h.1) (fun v M1 hq => ?_)
            obtain ⟨e0, e1⟩ := hq
            cases e0
            rw [e1, hk3]
            refine zr_istore_n (lv' := [some (.ref ((ad (tA j)))), some (.int (nI (0 + 1))), some (.int (nI p)), some (.int (zvi (css.flatten[n + 1]?))), some (.int (nI n))]) dX8_faults_85 (Nat.le_of_ble_eq_true rfl) (Nat.le_of_ble_eq_true rfl) rfl rfl ?_
            refine zr_iincN (n := 1) (lv' := [some (.ref ((ad (tA j)))), some (.int (nI (0 + 1))), some (.int (nI p)), some (.int (zvi (css.flatten[n + 1]?))), some (.int (nI (n + 1)))]) dX8_faults_86 (Nat.le_of_ble_eq_true rfl) (Nat.le_of_ble_eq_true rfl) rfl rfl rfl ?_
            refine zr_goto 13 dX8_faults_89 (by decide) ?_
            exfalso; omega
      · have hp0b := (hC.2.2.2.2.2.1 p0 (List.mem_of_getElem? hp0)).1
        refine zr_iload dX8_faults_13 rfl ?_
        refine zr_sipush (v := nI 4608) dX8_faults_15 (by decide) ?_
        refine zr_icmp_geN 92 dX8_faults_18 (by decide) (by omega) (by omega) (fun h18 => ?_) (fun h18 => ?_)
        · refine zr_iload_n dX8_faults_92 rfl ?_
          refine zr_iret dX8_faults_93 rfl ?_
          first | (exfalso; omega) | exact hq0
        · refine zr_iload_n dX8_faults_21 rfl ?_
          refine zr_iconst (v := -1) dX8_faults_22 (by decide) ?_
          refine zr_icmp_eqM 92 dX8_faults_23 (by decide) (by omega) ?_
          obtain ⟨kk, hk1, hk2, hk3⟩ := hC.nx hp
          have hkl := zb_lt (zA M (ad 2) (p + 1))
          have hkl2 : ekl (zA M (ad 2)) p = zb (zA M (ad 2) (p + 1)) := rfl
          refine zr_iload_n dX8_faults_26 rfl ?_
          refine zr_iconst (v := -1) dX8_faults_27 (by decide) ?_
          refine zr_icmp_eqM 46 dX8_faults_28 (by decide) (by omega) ?_
          refine zr_aload_n dX8_faults_31 rfl ?_
          refine zr_getR dX8_faults_32 lkX8_15 (by decide) (by decide) rfl (hL.Kt hj) (hL.td hj) ?_
          refine zr_iload_n dX8_faults_35 rfl ?_
          refine zr_iload_n dX8_faults_36 rfl ?_
          refine zr_callV (md' := mX1_precedes) (As := [.int (nI p0), .int (nI p)]) dX8_faults_37 mlX8_49 okX1_precedes rfl inX1_precedes slX1_precedes (by decide) (hL.K 1 2) rfl (by omega) (Nat.le_of_ble_eq_true rfl) hcb (c_Disk_precedesT (d := d - 1) (by omega) hcb hL.dk (hC.2.2.2.2.2.1 _ (List.mem_of_getElem? hp0)).1 (hC.2.2.2.2.2.1 _ (List.mem_of_getElem? hp)).1 (hC.2.2.2.2.2.1 _ (List.mem_of_getElem? hp0)).2 (hC.2.2.2.2.2.1 _ (List.mem_of_getElem? hp)).2) (fun k M1 h => by obtain ⟨-, t, -, h, -⟩ := h; cases h) (fun v M1 hq => ?_)
          obtain ⟨e1, t, ht, e0, htk⟩ := hq
          cases e0
          rw [e1]
          have ht1 : t = 1 := htk.mpr (pw_get hC.2.2.2.2.2.2.2.1 (by omega) hp0 hp)
          refine zr_if_neN 46 dX8_faults_40 (by decide) (by omega) (fun h40 => ?_) (fun h40 => ?_)
          · refine zr_aload_n dX8_faults_46 rfl ?_
            refine zr_aload_n dX8_faults_47 rfl ?_
            refine zr_getR dX8_faults_48 lkX8_15 (by decide) (by decide) rfl (hL.Kt hj) (hL.td hj) ?_
            refine zr_getR dX8_faults_51 lkX8_53 (by decide) (by decide) rfl (hL.K 1 2) (hL.R 32 1 2) ?_
            refine zr_iload_n dX8_faults_54 rfl ?_
            refine zr_bipush (v := nI 8) dX8_faults_55 (by decide) ?_
            refine zr_iaddN dX8_faults_57 ?_
            refine zr_aload_n dX8_faults_58 rfl ?_
            refine zr_getR dX8_faults_59 lkX8_15 (by decide) (by decide) rfl (hL.Kt hj) (hL.td hj) ?_
            refine zr_iload_n dX8_faults_62 rfl ?_
            refine zr_iconst (v := nI 1) dX8_faults_63 (by decide) ?_
            refine zr_iaddN dX8_faults_64 ?_
            refine zr_iconst (v := nI 1) dX8_faults_65 (by decide) ?_
            refine zr_callV (md' := mX1_number) (As := [.int (nI (p + 1)), .int (nI 1)]) dX8_faults_66 mlX8_57 okX1_number rfl inX1_number slX1_number (by decide) (hL.K 1 2) rfl (by omega) (Nat.le_of_ble_eq_true rfl) hcb (c_Disk_number (d := d - 1) hcb hL.dk (by omega) (by decide) (by show 0 * 256 + zb (zA M (ad 2) (p + 1 + 0)) < 2 ^ 31; have := zb_lt (zA M (ad 2) (p + 1 + 0)); omega)) (fun k M1 h => by cases h.1) (fun v M1 hq => ?_)
            obtain ⟨e0, e1⟩ := hq
            cases e0
            rw [e1]
            rw [show nuN (zA M (ad 2)) (p + 1) 1 = ekl (zA M (ad 2)) p from by show 0 * 256 + zb (zA M (ad 2) (p + 1 + 0)) = zb (zA M (ad 2) (p + 1)); rw [Nat.add_zero]; omega]
            refine zr_callV (md' := mX8_allows) (As := [.ref ((ad 2)), .int (nI (p + 8)), .int (nI (ekl (zA M (ad 2)) p))]) dX8_faults_69 mlX8_61 okX8_allows rfl inX8_allows slX8_allows (by decide) (hL.Kt hj) rfl (by omega) (Nat.le_of_ble_eq_true rfl) hcb (c_Table_allows (d := d - 1) (f := f) (by omega) hcb hL hj hT hC.2.2.2.1 (hL.K 2 14) (hL.N 2 304128) (by decide) (by omega) (by omega) (by rw [hC.1, Nat.add_sub_cancel]; exact hf)) (fun k M1 h => by obtain ⟨-, t, -, h, -⟩ := h; cases h) (fun v M1 hq => ?_)
            obtain ⟨e1, t2, ht2b, e0, htk2⟩ := hq
            cases e0
            rw [e1]
            have ht2c : t2 = 1 := htk2.mpr (hC.2.2.2.2.2.2.2.2 f hf p (List.mem_of_getElem? hp))
            refine zr_if_neN 78 dX8_faults_72 (by decide) (by omega) (fun h72 => ?_) (fun h72 => ?_)
            · refine zr_iload_n dX8_faults_78 rfl ?_
              refine zr_istore_n (lv' := [some (.ref ((ad (tA j)))), some (.int (nI 0)), some (.int (nI p)), some (.int (nI p)), some (.int (nI n))]) dX8_faults_79 (Nat.le_of_ble_eq_true rfl) (Nat.le_of_ble_eq_true rfl) rfl rfl ?_
              refine zr_aload_n dX8_faults_80 rfl ?_
              refine zr_iload_n dX8_faults_81 rfl ?_
              refine zr_callV (md' := mX8_following) (As := [.int (nI p)]) dX8_faults_82 mlX8_65 okX8_following rfl inX8_following slX8_following (by decide) (hL.Kt hj) rfl (by omega) (Nat.le_of_ble_eq_true rfl) hcb (c_Table_following (d := d - 1) (by omega) hcb hL hj hT hC.2.2.2.1 (by omega) hk1 hk2) (fun k M1 h => by cases h.1) (fun v M1 hq => ?_)
              obtain ⟨e0, e1⟩ := hq
              cases e0
              rw [e1, hk3]
              refine zr_istore_n (lv' := [some (.ref ((ad (tA j)))), some (.int (nI 0)), some (.int (nI p)), some (.int (zvi (css.flatten[n + 1]?))), some (.int (nI n))]) dX8_faults_85 (Nat.le_of_ble_eq_true rfl) (Nat.le_of_ble_eq_true rfl) rfl rfl ?_
              refine zr_iincN (n := 1) (lv' := [some (.ref ((ad (tA j)))), some (.int (nI 0)), some (.int (nI p)), some (.int (zvi (css.flatten[n + 1]?))), some (.int (nI (n + 1)))]) dX8_faults_86 (Nat.le_of_ble_eq_true rfl) (Nat.le_of_ble_eq_true rfl) rfl rfl rfl ?_
              refine zr_goto 13 dX8_faults_89 (by decide) ?_
              exact ih _ (by omega) (n + 1) (some p) rfl (by omega) (Or.inr ⟨p, by rw [Nat.add_sub_cancel]; exact hp, rfl, by omega⟩)
            · refine zr_iincN (n := 1) (lv' := [some (.ref ((ad (tA j)))), some (.int (nI (0 + 1))), some (.int (nI p0)), some (.int (nI p)), some (.int (nI n))]) dX8_faults_75 (Nat.le_of_ble_eq_true rfl) (Nat.le_of_ble_eq_true rfl) rfl rfl rfl ?_
              refine zr_iload_n dX8_faults_78 rfl ?_
              refine zr_istore_n (lv' := [some (.ref ((ad (tA j)))), some (.int (nI (0 + 1))), some (.int (nI p)), some (.int (nI p)), some (.int (nI n))]) dX8_faults_79 (Nat.le_of_ble_eq_true rfl) (Nat.le_of_ble_eq_true rfl) rfl rfl ?_
              refine zr_aload_n dX8_faults_80 rfl ?_
              refine zr_iload_n dX8_faults_81 rfl ?_
              refine zr_callV (md' := mX8_following) (As := [.int (nI p)]) dX8_faults_82 mlX8_65 okX8_following rfl inX8_following slX8_following (by decide) (hL.Kt hj) rfl (by omega) (Nat.le_of_ble_eq_true rfl) hcb (c_Table_following (d := d - 1) (by omega) hcb hL hj hT hC.2.2.2.1 (by omega) hk1 hk2) (fun k M1 h => by cases h.1) (fun v M1 hq => ?_)
              obtain ⟨e0, e1⟩ := hq
              cases e0
              rw [e1, hk3]
              refine zr_istore_n (lv' := [some (.ref ((ad (tA j)))), some (.int (nI (0 + 1))), some (.int (nI p)), some (.int (zvi (css.flatten[n + 1]?))), some (.int (nI n))]) dX8_faults_85 (Nat.le_of_ble_eq_true rfl) (Nat.le_of_ble_eq_true rfl) rfl rfl ?_
              refine zr_iincN (n := 1) (lv' := [some (.ref ((ad (tA j)))), some (.int (nI (0 + 1))), some (.int (nI p)), some (.int (zvi (css.flatten[n + 1]?))), some (.int (nI (n + 1)))]) dX8_faults_86 (Nat.le_of_ble_eq_true rfl) (Nat.le_of_ble_eq_true rfl) rfl rfl rfl ?_
              refine zr_goto 13 dX8_faults_89 (by decide) ?_
              exfalso; omega
          · refine zr_iincN (n := 1) (lv' := [some (.ref ((ad (tA j)))), some (.int (nI (0 + 1))), some (.int (nI p0)), some (.int (nI p)), some (.int (nI n))]) dX8_faults_43 (Nat.le_of_ble_eq_true rfl) (Nat.le_of_ble_eq_true rfl) rfl rfl rfl ?_
            refine zr_aload_n dX8_faults_46 rfl ?_
            refine zr_aload_n dX8_faults_47 rfl ?_
            refine zr_getR dX8_faults_48 lkX8_15 (by decide) (by decide) rfl (hL.Kt hj) (hL.td hj) ?_
            refine zr_getR dX8_faults_51 lkX8_53 (by decide) (by decide) rfl (hL.K 1 2) (hL.R 32 1 2) ?_
            refine zr_iload_n dX8_faults_54 rfl ?_
            refine zr_bipush (v := nI 8) dX8_faults_55 (by decide) ?_
            refine zr_iaddN dX8_faults_57 ?_
            refine zr_aload_n dX8_faults_58 rfl ?_
            refine zr_getR dX8_faults_59 lkX8_15 (by decide) (by decide) rfl (hL.Kt hj) (hL.td hj) ?_
            refine zr_iload_n dX8_faults_62 rfl ?_
            refine zr_iconst (v := nI 1) dX8_faults_63 (by decide) ?_
            refine zr_iaddN dX8_faults_64 ?_
            refine zr_iconst (v := nI 1) dX8_faults_65 (by decide) ?_
            refine zr_callV (md' := mX1_number) (As := [.int (nI (p + 1)), .int (nI 1)]) dX8_faults_66 mlX8_57 okX1_number rfl inX1_number slX1_number (by decide) (hL.K 1 2) rfl (by omega) (Nat.le_of_ble_eq_true rfl) hcb (c_Disk_number (d := d - 1) hcb hL.dk (by omega) (by decide) (by show 0 * 256 + zb (zA M (ad 2) (p + 1 + 0)) < 2 ^ 31; have := zb_lt (zA M (ad 2) (p + 1 + 0)); omega)) (fun k M1 h => by cases h.1) (fun v M1 hq => ?_)
            obtain ⟨e0, e1⟩ := hq
            cases e0
            rw [e1]
            rw [show nuN (zA M (ad 2)) (p + 1) 1 = ekl (zA M (ad 2)) p from by show 0 * 256 + zb (zA M (ad 2) (p + 1 + 0)) = zb (zA M (ad 2) (p + 1)); rw [Nat.add_zero]; omega]
            refine zr_callV (md' := mX8_allows) (As := [.ref ((ad 2)), .int (nI (p + 8)), .int (nI (ekl (zA M (ad 2)) p))]) dX8_faults_69 mlX8_61 okX8_allows rfl inX8_allows slX8_allows (by decide) (hL.Kt hj) rfl (by omega) (Nat.le_of_ble_eq_true rfl) hcb (c_Table_allows (d := d - 1) (f := f) (by omega) hcb hL hj hT hC.2.2.2.1 (hL.K 2 14) (hL.N 2 304128) (by decide) (by omega) (by omega) (by rw [hC.1, Nat.add_sub_cancel]; exact hf)) (fun k M1 h => by obtain ⟨-, t, -, h, -⟩ := h; cases h) (fun v M1 hq => ?_)
            obtain ⟨e1, t2, ht2b, e0, htk2⟩ := hq
            cases e0
            rw [e1]
            have ht2c : t2 = 1 := htk2.mpr (hC.2.2.2.2.2.2.2.2 f hf p (List.mem_of_getElem? hp))
            refine zr_if_neN 78 dX8_faults_72 (by decide) (by omega) (fun h72 => ?_) (fun h72 => ?_)
            · refine zr_iload_n dX8_faults_78 rfl ?_
              refine zr_istore_n (lv' := [some (.ref ((ad (tA j)))), some (.int (nI (0 + 1))), some (.int (nI p)), some (.int (nI p)), some (.int (nI n))]) dX8_faults_79 (Nat.le_of_ble_eq_true rfl) (Nat.le_of_ble_eq_true rfl) rfl rfl ?_
              refine zr_aload_n dX8_faults_80 rfl ?_
              refine zr_iload_n dX8_faults_81 rfl ?_
              refine zr_callV (md' := mX8_following) (As := [.int (nI p)]) dX8_faults_82 mlX8_65 okX8_following rfl inX8_following slX8_following (by decide) (hL.Kt hj) rfl (by omega) (Nat.le_of_ble_eq_true rfl) hcb (c_Table_following (d := d - 1) (by omega) hcb hL hj hT hC.2.2.2.1 (by omega) hk1 hk2) (fun k M1 h => by cases h.1) (fun v M1 hq => ?_)
              obtain ⟨e0, e1⟩ := hq
              cases e0
              rw [e1, hk3]
              refine zr_istore_n (lv' := [some (.ref ((ad (tA j)))), some (.int (nI (0 + 1))), some (.int (nI p)), some (.int (zvi (css.flatten[n + 1]?))), some (.int (nI n))]) dX8_faults_85 (Nat.le_of_ble_eq_true rfl) (Nat.le_of_ble_eq_true rfl) rfl rfl ?_
              refine zr_iincN (n := 1) (lv' := [some (.ref ((ad (tA j)))), some (.int (nI (0 + 1))), some (.int (nI p)), some (.int (zvi (css.flatten[n + 1]?))), some (.int (nI (n + 1)))]) dX8_faults_86 (Nat.le_of_ble_eq_true rfl) (Nat.le_of_ble_eq_true rfl) rfl rfl rfl ?_
              refine zr_goto 13 dX8_faults_89 (by decide) ?_
              exfalso; omega
            · refine zr_iincN (n := 1) (lv' := [some (.ref ((ad (tA j)))), some (.int (nI ((0 + 1) + 1))), some (.int (nI p0)), some (.int (nI p)), some (.int (nI n))]) dX8_faults_75 (Nat.le_of_ble_eq_true rfl) (Nat.le_of_ble_eq_true rfl) rfl rfl rfl ?_
              refine zr_iload_n dX8_faults_78 rfl ?_
              refine zr_istore_n (lv' := [some (.ref ((ad (tA j)))), some (.int (nI ((0 + 1) + 1))), some (.int (nI p)), some (.int (nI p)), some (.int (nI n))]) dX8_faults_79 (Nat.le_of_ble_eq_true rfl) (Nat.le_of_ble_eq_true rfl) rfl rfl ?_
              refine zr_aload_n dX8_faults_80 rfl ?_
              refine zr_iload_n dX8_faults_81 rfl ?_
              refine zr_callV (md' := mX8_following) (As := [.int (nI p)]) dX8_faults_82 mlX8_65 okX8_following rfl inX8_following slX8_following (by decide) (hL.Kt hj) rfl (by omega) (Nat.le_of_ble_eq_true rfl) hcb (c_Table_following (d := d - 1) (by omega) hcb hL hj hT hC.2.2.2.1 (by omega) hk1 hk2) (fun k M1 h => by cases h.1) (fun v M1 hq => ?_)
              obtain ⟨e0, e1⟩ := hq
              cases e0
              rw [e1, hk3]
              refine zr_istore_n (lv' := [some (.ref ((ad (tA j)))), some (.int (nI ((0 + 1) + 1))), some (.int (nI p)), some (.int (zvi (css.flatten[n + 1]?))), some (.int (nI n))]) dX8_faults_85 (Nat.le_of_ble_eq_true rfl) (Nat.le_of_ble_eq_true rfl) rfl rfl ?_
              refine zr_iincN (n := 1) (lv' := [some (.ref ((ad (tA j)))), some (.int (nI ((0 + 1) + 1))), some (.int (nI p)), some (.int (zvi (css.flatten[n + 1]?))), some (.int (nI (n + 1)))]) dX8_faults_86 (Nat.le_of_ble_eq_true rfl) (Nat.le_of_ble_eq_true rfl) rfl rfl rfl ?_
              refine zr_goto 13 dX8_faults_89 (by decide) ?_
              exfalso; omega
    · rw [List.getElem?_eq_none_iff.mpr h9]
      refine zr_iload dX8_faults_13 rfl ?_
      refine zr_sipush (v := nI 4608) dX8_faults_15 (by decide) ?_
      refine zr_icmp_geN 92 dX8_faults_18 (by decide) (by omega) (by omega) (fun h18 => ?_) (fun h18 => ?_)
      · refine zr_iload_n dX8_faults_92 rfl ?_
        refine zr_iret dX8_faults_93 rfl ?_
        first | (exfalso; omega) | exact hq0
      · refine zr_iload_n dX8_faults_21 rfl ?_
        refine zr_iconst (v := -1) dX8_faults_22 (by decide) ?_
        refine zr_icmp_eqMM 92 dX8_faults_23 (by decide) ?_
        refine zr_iload_n dX8_faults_92 rfl ?_
        refine zr_iret dX8_faults_93 rfl ?_
        first | (exfalso; omega) | exact hq0
set_option maxRecDepth 100000 in
set_option maxHeartbeats 4000000 in
theorem c_Table_faults {G : zG} {ad : Nat → Nat} {d j f : Nat} {bl : List Nat} {css : List (List Nat)} {la : Option Nat} {M : zM} (hd : 3 ≤ d) (hcb : zC M ≤ 600128 ∧ zS M ≤ 7301098) (hL : Lay ad M) (hj : j < 259) (hT : Tb ad M j bl la) (hC : TC (zA M (ad 2)) bl css) (hf : bl[css.length]? = some f) (hlen : css.flatten.length ≤ 4000)  : zMet G mX8_faults d [.ref ((ad (tA j)))] M (fun o M' => o = .inl (some (.int (nI 0))) ∧ M' = M) := by
  refine zMet_of (by decide +kernel) (Nat.le_of_ble_eq_true rfl) rfl hcb ?_
  show zw G mX8_faults d _ _ _ 0 [some (.ref ((ad (tA j)))), none, none, none, none] [] M
  obtain ⟨ht1, ht2, ht3, ht4⟩ := id hT
  have hbl := hC.1
  have hcl := hC.2.1
  refine zr_iconst (v := nI 0) dX8_faults_0 (by decide) ?_
  refine zr_istore_n (lv' := [some (.ref ((ad (tA j)))), some (.int (nI 0)), none, none, none]) dX8_faults_1 (Nat.le_of_ble_eq_true rfl) (Nat.le_of_ble_eq_true rfl) rfl rfl ?_
  refine zr_iconst (v := -1) dX8_faults_2 (by decide) ?_
  refine zr_istore_n (lv' := [some (.ref ((ad (tA j)))), some (.int (nI 0)), some (.int ((-1))), none, none]) dX8_faults_3 (Nat.le_of_ble_eq_true rfl) (Nat.le_of_ble_eq_true rfl) rfl rfl ?_
  refine zr_aload_n dX8_faults_4 rfl ?_
  refine zr_iconst (v := nI 0) dX8_faults_5 (by decide) ?_
  refine zr_callV (md' := mX8_startOf) (As := [.int (nI 0)]) dX8_faults_6 mlX8_26 okX8_startOf rfl inX8_startOf slX8_startOf (by decide) (hL.Kt hj) rfl (by omega) (Nat.le_of_ble_eq_true rfl) hcb (c_Table_startOf (d := d - 1) hcb hL hj hT hC.2.2.2.1 (by omega) (by omega)) (fun k M1 h => by cases h.1) (fun v M1 hq => ?_)
  obtain ⟨e0, e1⟩ := hq
  cases e0
  rw [e1, hC.first]
  refine zr_istore_n (lv' := [some (.ref ((ad (tA j)))), some (.int (nI 0)), some (.int ((-1))), some (.int (zvi (css.flatten[0]?))), none]) dX8_faults_9 (Nat.le_of_ble_eq_true rfl) (Nat.le_of_ble_eq_true rfl) rfl rfl ?_
  refine zr_iconst (v := nI 0) dX8_faults_10 (by decide) ?_
  refine zr_istore (lv' := [some (.ref ((ad (tA j)))), some (.int (nI 0)), some (.int ((-1))), some (.int (zvi (css.flatten[0]?))), some (.int (nI 0))]) dX8_faults_11 (Nat.le_of_ble_eq_true rfl) (Nat.le_of_ble_eq_true rfl) rfl rfl ?_
  exact l_Table_faults hd hcb hL hj hT hC hf hlen ⟨rfl, rfl⟩ _ 0 none rfl (by omega) (Or.inl ⟨rfl, rfl⟩)
