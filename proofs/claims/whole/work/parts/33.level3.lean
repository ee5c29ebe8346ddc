/-! ===== LsmStore$Level: pickOver, collect, cut, insert, overlaps, faults ===== -/
theorem pre_kltT {D : Nat → Int32} {q la : Nat} {k : List Nat} (h : q = la ∨ pre D q la) (hk : klt (eky D la) k) : klt (eky D q) k := by
  rcases h with rfl | h | ⟨h, -⟩
  · exact hk
  · exact klt_trans _ _ _ h hk
  · rw [h]; exact hk
theorem pre_kltF {D : Nat → Int32} {q fi : Nat} {k : List Nat} (h : q = fi ∨ pre D fi q) (hk : klt k (eky D fi)) : klt k (eky D q) := by
  rcases h with rfl | h | ⟨h, -⟩
  · exact hk
  · exact klt_trans _ _ _ hk h
  · rw [← h]; exact hk
/-- the files below lo lie before p, those from hi on behind q -/
def Ov (D : Nat → Int32) (fs : List zF) (lo hi p q : Nat) : Prop := (∀ j f, j < lo → fs[j]? = some f → ∀ e ∈ fE f, klt (eky D e) (eky D p)) ∧ ∀ j f, hi ≤ j → fs[j]? = some f → ∀ e ∈ fE f, klt (eky D q) (eky D e)
theorem pk_lo (ad : Nat → Nat) (M : zM) (l lo hi z : Nat) : zput (pkM ad M l lo hi) 132 (ad (32 + l)) (nI z) = pkM ad M l z hi := by
  unfold pkM
  rw [zput_comm _ _ _ _ _ (by decide), zput_put]
theorem pk_hi (ad : Nat → Nat) (M : zM) (l lo hi z : Nat) : zput (pkM ad M l lo hi) 133 (ad (32 + l)) (nI z) = pkM ad M l lo z := by
  unfold pkM
  rw [zput_put]
set_option maxRecDepth 100000 in
set_option maxHeartbeats 4000000 in
theorem l_Level_over1 {G : zG} {ad : Nat → Nat} {d k0 n0 l p q : Nat} {fs : List zF} {M : zM} {Q : zOut → zM → Prop} (hd : 1 ≤ d) (hcb : zC M ≤ 600128 ∧ zS M ≤ 7301098) (hL : Lay ad M) (hl : l < 3) (hV : Lv ad M l fs) (hC : LC (zA M (ad 2)) fs) (hp : p < 303096) (hk : ∀ lo : Nat, lo ≤ fs.length → (∀ j f, j < lo → fs[j]? = some f → ∀ e ∈ fE f, klt (eky (zA M (ad 2)) e) (eky (zA M (ad 2)) p)) → zw G mX4_pickOver d k0 n0 Q 66 [some (.ref ((ad (32 + l)))), some (.int (nI p)), some (.int (nI q))] [] (zput M 132 (ad (32 + l)) (nI lo))) : ∀ (m lo : Nat), fs.length - lo = m → lo ≤ fs.length → (∀ j f, j < lo → fs[j]? = some f → ∀ e ∈ fE f, klt (eky (zA M (ad 2)) e) (eky (zA M (ad 2)) p)) → zw G mX4_pickOver d k0 n0 Q 20 [some (.ref ((ad (32 + l)))), some (.int (nI p)), some (.int (nI q))] [] (zput M 132 (ad (32 + l)) (nI lo)) := by
  intro m
  induction m using Nat.strongRecOn with
  | _ m ih =>
    intro lo hm hlo hA
    obtain ⟨hv1, hv2, hv3, hv4⟩ := id hV
    refine zr_aload_n dX4_pickOver_20 rfl ?_
    refine zr_getI dX4_pickOver_21 lkX4_35 (by decide) (by decide) rfl (hL.Kl hl) ?_
    refine zr_as (y := (nI lo)) (zput_hit _ _ _ _) ?_
    refine zr_aload_n dX4_pickOver_24 rfl ?_
    refine zr_getI dX4_pickOver_25 lkX4_31 (by decide) (by decide) rfl (hL.Kl hl) ?_
    refine zr_as (y := (nI fs.length)) (zput_ms (by decide) hv1) ?_
    refine zr_icmp_geN 66 dX4_pickOver_28 (by decide) (by omega) (by omega) (fun h28 => ?_) (fun h28 => ?_)
    · exact hk lo (by omega) hA
    · obtain ⟨f, hf⟩ : ∃ f, fs[lo]? = some f := ⟨_, List.getElem?_eq_getElem (by omega)⟩
      have hfm := List.mem_of_getElem? hf
      obtain ⟨hf1, -, hTb⟩ := hv3 _ f hf
      have hTC := hC.1 f hfm
      have hbr := hTC.2.2.2.1
      have hne : 1 ≤ f.2.1.length := by have := hTC.1; omega
      have hj : f.1 < 259 := by omega
      obtain ⟨la, hla, hla2, hla3, hla4, hla5, -⟩ := hTC.lst
      refine zr_aload_n dX4_pickOver_31 rfl ?_
      refine zr_getR dX4_pickOver_32 lkX4_17 (by decide) (by decide) rfl (hL.Kl hl) (hL.ld hl) ?_
      refine zr_aload_n dX4_pickOver_35 rfl ?_
      refine zr_aload_n dX4_pickOver_36 rfl ?_
      refine zr_getI dX4_pickOver_37 lkX4_35 (by decide) (by decide) rfl (hL.Kl hl) ?_
      refine zr_as (y := (nI lo)) (zput_hit _ _ _ _) ?_
      refine zr_callV (md' := mX4_table) (As := [.int (nI lo)]) dX4_pickOver_40 mlX4_41 okX4_table rfl inX4_table slX4_table (by decide) (hL.Kl hl) rfl (by omega) (Nat.le_of_ble_eq_true rfl) hcb (c_Level_table (d := d - 1) hcb (hL.put _ _ _) hl (hV.put (by decide)) hf) (fun k M1 h => by cases h.1) (fun v M1 hq => ?_)
      obtain ⟨e0, e1⟩ := hq
      cases e0
      rw [e1]
      refine zr_getI dX4_pickOver_43 lkX4_50 (by decide) (by decide) rfl (hL.Kt (by omega)) ?_
      refine zr_as (y := (nI la)) ((zput_ms (by decide) hTb.2.2.2).trans (congrArg zvi hla)) ?_
      refine zr_iload_n dX4_pickOver_46 rfl ?_
      refine zr_callV (md' := mX1_order) (As := [.int (nI la), .int (nI p)]) dX4_pickOver_47 mlX4_65 okX1_order rfl inX1_order slX1_order (by decide) (hL.K 1 2) rfl (by omega) (Nat.le_of_ble_eq_true rfl) hcb (c_Disk_order (d := d - 1) hcb (Lay.dk hL) (Nat.lt_trans hla3 (by decide)) (Nat.lt_trans hp (by decide))) (fun k M1 h => by obtain ⟨r, h, -⟩ := h; cases h) (fun v M1 hq => ?_)
      obtain ⟨r, e0, e1, hr1, hr2⟩ := hq
      cases e0
      rw [e1]
      refine zr_if_ge 66 dX4_pickOver_50 (by decide) (fun h50 => ?_) (fun h50 => ?_)
      · exact hk lo (by omega) hA
      · refine zr_aload_n dX4_pickOver_53 rfl ?_
        refine zr_dup dX4_pickOver_54 rfl ?_
        refine zr_getI dX4_pickOver_55 lkX4_35 (by decide) (by decide) rfl (hL.Kl hl) ?_
        refine zr_as (y := (nI lo)) (zput_hit _ _ _ _) ?_
        refine zr_iconst (v := nI 1) dX4_pickOver_58 (by decide) ?_
        refine zr_iaddN dX4_pickOver_59 ?_
        refine zr_putI dX4_pickOver_60 lkX4_35 (by decide) (by decide) rfl rfl (hL.Kl hl) ?_
        refine zr_goto 20 dX4_pickOver_63 (by decide) ?_
        rw [zput_put]
        exact ih _ (by omega) (lo + 1) rfl (by omega) (fun j g hj hg e he => (Nat.lt_or_ge j lo).elim (fun z => hA j g z hg e he) (fun z => by rw [show j = lo by omega, hf] at hg; cases hg; exact pre_kltT (hla5 e he) (hr1.mp (int32_not_neg h50))))
set_option maxRecDepth 100000 in
set_option maxHeartbeats 4000000 in
theorem l_Level_over2 {G : zG} {ad : Nat → Nat} {d k0 n0 l p q : Nat} {fs : List zF} {M : zM} {Q : zOut → zM → Prop} (hd : 1 ≤ d) (hcb : zC M ≤ 600128 ∧ zS M ≤ 7301098) (hL : Lay ad M) (hl : l < 3) (hV : Lv ad M l fs) (hC : LC (zA M (ad 2)) fs) {lo : Nat} (hq9 : q < 303096) (hk : ∀ hi : Nat, lo ≤ hi → hi ≤ fs.length → (∀ j f, hi ≤ j → fs[j]? = some f → ∀ e ∈ fE f, klt (eky (zA M (ad 2)) q) (eky (zA M (ad 2)) e)) → zw G mX4_pickOver d k0 n0 Q 121 [some (.ref ((ad (32 + l)))), some (.int (nI p)), some (.int (nI q))] [] (pkM ad M l lo hi)) : ∀ (m hi : Nat), fs.length - hi = m → lo ≤ hi → hi ≤ fs.length → zw G mX4_pickOver d k0 n0 Q 74 [some (.ref ((ad (32 + l)))), some (.int (nI p)), some (.int (nI q))] [] (pkM ad M l lo hi) := by
  intro m
  induction m using Nat.strongRecOn with
  | _ m ih =>
    intro hi hm hlo hhi
    obtain ⟨hv1, hv2, hv3, hv4⟩ := id hV
    refine zr_aload_n dX4_pickOver_74 rfl ?_
    refine zr_getI dX4_pickOver_75 lkX4_38 (by decide) (by decide) rfl (hL.Kl hl) ?_
    refine zr_as (y := (nI hi)) (pkM_pk _ _ _ _ _).2 ?_
    refine zr_aload_n dX4_pickOver_78 rfl ?_
    refine zr_getI dX4_pickOver_79 lkX4_31 (by decide) (by decide) rfl (hL.Kl hl) ?_
    refine zr_as (y := (nI fs.length)) (pkM_lv hV).1 ?_
    refine zr_icmp_geN 121 dX4_pickOver_82 (by decide) (by omega) (by omega) (fun h82 => ?_) (fun h82 => ?_)
    · refine hk hi (by omega) (by omega) ?_
      intro j g hj hg e he
      first
        | (have := (List.getElem?_eq_some_iff.mp hg).1; omega)
        | (have hkk : klt (eky (zA M (ad 2)) q) (eky (zA M (ad 2)) fi) := by
            rcases klt_tri (eky (zA M (ad 2)) fi) (eky (zA M (ad 2)) q) with z | z | z
            · exact absurd (hr1.mpr z) (int32_pos h105).1
            · exact absurd (hr2.mpr z) (int32_pos h105).2
            · exact z
           rcases Nat.lt_or_ge hi j with z | z
           · exact klt_trans _ _ _ hkk (pw_get hC.2 z hf hg fi hfi2 e he)
           · rw [show j = hi by omega, hf] at hg; cases hg; exact pre_kltF (hfi5 e he) hkk)
    · obtain ⟨f, hf⟩ : ∃ f, fs[hi]? = some f := ⟨_, List.getElem?_eq_getElem (by omega)⟩
      have hfm := List.mem_of_getElem? hf
      obtain ⟨hf1, -, hTb⟩ := hv3 _ f hf
      have hTC := hC.1 f hfm
      have hbr := hTC.2.2.2.1
      have hne : 1 ≤ f.2.1.length := by have := hTC.1; omega
      have hj : f.1 < 259 := by omega
      obtain ⟨fi, hfi, hfi1, hfi2, hfi3, hfi4, hfi5⟩ := hTC.fst
      refine zr_aload_n dX4_pickOver_85 rfl ?_
      refine zr_getR dX4_pickOver_86 lkX4_17 (by decide) (by decide) rfl (hL.Kl hl) (hL.ld hl) ?_
      refine zr_aload_n dX4_pickOver_89 rfl ?_
      refine zr_aload_n dX4_pickOver_90 rfl ?_
      refine zr_getI dX4_pickOver_91 lkX4_38 (by decide) (by decide) rfl (hL.Kl hl) ?_
      refine zr_as (y := (nI hi)) (pkM_pk _ _ _ _ _).2 ?_
      refine zr_callV (md' := mX4_table) (As := [.int (nI hi)]) dX4_pickOver_94 mlX4_41 okX4_table rfl inX4_table slX4_table (by decide) (hL.Kl hl) rfl (by omega) (Nat.le_of_ble_eq_true rfl) hcb (c_Level_table (d := d - 1) (M := pkM ad M l lo hi) hcb hL hl (pkM_lv hV) hf) (fun k M1 h => by cases h.1) (fun v M1 hq => ?_)
      obtain ⟨e0, e1⟩ := hq
      cases e0
      rw [e1]
      refine zr_iconst (v := nI 0) dX4_pickOver_97 (by decide) ?_
      refine zr_callV (md' := mX8_startOf) (As := [.int (nI 0)]) dX4_pickOver_98 mlX4_46 okX8_startOf rfl inX8_startOf slX8_startOf (by decide) (hL.Kt (by omega)) rfl (by omega) (Nat.le_of_ble_eq_true rfl) hcb (c_Table_startOf (d := d - 1) (M := pkM ad M l lo hi) hcb hL hj ((pkM_lv hV).2.2.1 _ f hf).2.2 hbr hne (by decide)) (fun k M1 h => by cases h.1) (fun v M1 hq => ?_)
      obtain ⟨e0, e1⟩ := hq
      cases e0
      rw [e1]
      rw [hfi]
      refine zr_as (y := nI fi) rfl ?_
      refine zr_iload_n dX4_pickOver_101 rfl ?_
      refine zr_callV (md' := mX1_order) (As := [.int (nI fi), .int (nI q)]) dX4_pickOver_102 mlX4_65 okX1_order rfl inX1_order slX1_order (by decide) (hL.K 1 2) rfl (by omega) (Nat.le_of_ble_eq_true rfl) hcb (c_Disk_order (d := d - 1) hcb (Lay.dk hL) (Nat.lt_trans hfi3 (by decide)) (Nat.lt_trans hq9 (by decide))) (fun k M1 h => by obtain ⟨r, h, -⟩ := h; cases h) (fun v M1 hq => ?_)
      obtain ⟨r, e0, e1, hr1, hr2⟩ := hq
      cases e0
      rw [e1]
      refine zr_if_gt 121 dX4_pickOver_105 (by decide) (fun h105 => ?_) (fun h105 => ?_)
      · refine hk hi (by omega) (by omega) ?_
        intro j g hj hg e he
        first
          | (have := (List.getElem?_eq_some_iff.mp hg).1; omega)
          | (have hkk : klt (eky (zA M (ad 2)) q) (eky (zA M (ad 2)) fi) := by
              rcases klt_tri (eky (zA M (ad 2)) fi) (eky (zA M (ad 2)) q) with z | z | z
              · exact absurd (hr1.mpr z) (int32_pos h105).1
              · exact absurd (hr2.mpr z) (int32_pos h105).2
              · exact z
             rcases Nat.lt_or_ge hi j with z | z
             · exact klt_trans _ _ _ hkk (pw_get hC.2 z hf hg fi hfi2 e he)
             · rw [show j = hi by omega, hf] at hg; cases hg; exact pre_kltF (hfi5 e he) hkk)
      · refine zr_aload_n dX4_pickOver_108 rfl ?_
        refine zr_dup dX4_pickOver_109 rfl ?_
        refine zr_getI dX4_pickOver_110 lkX4_38 (by decide) (by decide) rfl (hL.Kl hl) ?_
        refine zr_as (y := (nI hi)) (pkM_pk _ _ _ _ _).2 ?_
        refine zr_iconst (v := nI 1) dX4_pickOver_113 (by decide) ?_
        refine zr_iaddN dX4_pickOver_114 ?_
        refine zr_putI dX4_pickOver_115 lkX4_38 (by decide) (by decide) rfl rfl (hL.Kl hl) ?_
        refine zr_goto 74 dX4_pickOver_118 (by decide) ?_
        rw [pk_hi]
        exact ih _ (by omega) (hi + 1) rfl (by omega) (by omega)
set_option maxRecDepth 100000 in
set_option maxHeartbeats 4000000 in
theorem t_Level_over4 {G : zG} {ad : Nat → Nat} {d k0 n0 l p q : Nat} {fs : List zF} {M : zM} {Q : zOut → zM → Prop} (hd : 1 ≤ d) (hcb : zC M ≤ 600128 ∧ zS M ≤ 7301098) (hL : Lay ad M) (hl : l < 3) (hV : Lv ad M l fs) (hC : LC (zA M (ad 2)) fs) {lo hi : Nat} (hq0 : ∀ lo hi : Nat, lo ≤ hi → hi ≤ fs.length → Ov (zA M (ad 2)) fs lo hi p q → Q (.inl none) (pkM ad M l lo hi)) (h1 : lo ≤ hi) (h2 : hi ≤ fs.length) (hA : (∀ j f, j < lo → fs[j]? = some f → ∀ e ∈ fE f, klt (eky (zA M (ad 2)) e) (eky (zA M (ad 2)) p))) (hB : (∀ j f, hi ≤ j → fs[j]? = some f → ∀ e ∈ fE f, klt (eky (zA M (ad 2)) q) (eky (zA M (ad 2)) e))) : zw G mX4_pickOver d k0 n0 Q 154 [some (.ref ((ad (32 + l)))), some (.int (nI p)), some (.int (nI q))] [] (pkM ad M l lo hi) := by
  obtain ⟨hv1, hv2, hv3, hv4⟩ := id hV
  refine zr_aload_n dX4_pickOver_154 rfl ?_
  refine zr_getI dX4_pickOver_155 lkX4_38 (by decide) (by decide) rfl (hL.Kl hl) ?_
  refine zr_as (y := (nI hi)) (pkM_pk _ _ _ _ _).2 ?_
  refine zr_aload_n dX4_pickOver_158 rfl ?_
  refine zr_getI dX4_pickOver_159 lkX4_31 (by decide) (by decide) rfl (hL.Kl hl) ?_
  refine zr_as (y := (nI fs.length)) (pkM_lv hV).1 ?_
  refine zr_icmp_geN 189 dX4_pickOver_162 (by decide) (by omega) (by omega) (fun h162 => ?_) (fun h162 => ?_)
  · refine zr_vret dX4_pickOver_189 rfl ?_
    exact hq0 lo hi (by omega) (by omega) ⟨hA, fun j g hj hg => hB j g (by omega) hg⟩
  · obtain ⟨f, hf⟩ : ∃ f, fs[hi]? = some f := ⟨_, List.getElem?_eq_getElem (by omega)⟩
    have hfm := List.mem_of_getElem? hf
    obtain ⟨hf1, -, hTb⟩ := hv3 _ f hf
    have hTC := hC.1 f hfm
    have hbr := hTC.2.2.2.1
    have hne : 1 ≤ f.2.1.length := by have := hTC.1; omega
    have hj : f.1 < 259 := by omega
    refine zr_aload_n dX4_pickOver_165 rfl ?_
    refine zr_aload_n dX4_pickOver_166 rfl ?_
    refine zr_getI dX4_pickOver_167 lkX4_38 (by decide) (by decide) rfl (hL.Kl hl) ?_
    refine zr_as (y := (nI hi)) (pkM_pk _ _ _ _ _).2 ?_
    refine zr_callV (md' := mX4_table) (As := [.int (nI hi)]) dX4_pickOver_170 mlX4_41 okX4_table rfl inX4_table slX4_table (by decide) (hL.Kl hl) rfl (by omega) (Nat.le_of_ble_eq_true rfl) hcb (c_Level_table (d := d - 1) (M := pkM ad M l lo hi) hcb hL hl (pkM_lv hV) hf) (fun k M1 h => by cases h.1) (fun v M1 hq => ?_)
    obtain ⟨e0, e1⟩ := hq
    cases e0
    rw [e1]
    refine zr_callV (md' := mX8_isSmall) (As := []) dX4_pickOver_173 mlX4_70 okX8_isSmall rfl inX8_isSmall slX8_isSmall (by decide) (hL.Kt (by omega)) rfl (by omega) (Nat.le_of_ble_eq_true rfl) hcb (c_Table_isSmall (d := d - 1) (M := pkM ad M l lo hi) hcb hL (by omega) ((pkM_lv hV).2.2.1 _ f hf).2.2) (fun k M1 h => by obtain ⟨-, t, -, h, -⟩ := h; cases h) (fun v M1 hq => ?_)
    obtain ⟨e1, t, ht, e0, htk⟩ := hq
    cases e0
    rw [e1]
    refine zr_if_eqN 189 dX4_pickOver_176 (by decide) (by omega) (fun h176 => ?_) (fun h176 => ?_)
    · refine zr_vret dX4_pickOver_189 rfl ?_
      exact hq0 lo hi (by omega) (by omega) ⟨hA, fun j g hj hg => hB j g (by omega) hg⟩
    · refine zr_aload_n dX4_pickOver_179 rfl ?_
      refine zr_dup dX4_pickOver_180 rfl ?_
      refine zr_getI dX4_pickOver_181 lkX4_38 (by decide) (by decide) rfl (hL.Kl hl) ?_
      refine zr_as (y := (nI hi)) (pkM_pk _ _ _ _ _).2 ?_
      refine zr_iconst (v := nI 1) dX4_pickOver_184 (by decide) ?_
      refine zr_iaddN dX4_pickOver_185 ?_
      refine zr_putI dX4_pickOver_186 lkX4_38 (by decide) (by decide) rfl rfl (hL.Kl hl) ?_
      refine zr_vret dX4_pickOver_189 rfl ?_
      rw [pk_hi]
      exact hq0 lo (hi + 1) (by omega) (by omega) ⟨hA, fun j g hj hg => hB j g (by omega) hg⟩
set_option maxRecDepth 100000 in
set_option maxHeartbeats 4000000 in
theorem t_Level_over3 {G : zG} {ad : Nat → Nat} {d k0 n0 l p q : Nat} {fs : List zF} {M : zM} {Q : zOut → zM → Prop} (hd : 1 ≤ d) (hcb : zC M ≤ 600128 ∧ zS M ≤ 7301098) (hL : Lay ad M) (hl : l < 3) (hV : Lv ad M l fs) (hC : LC (zA M (ad 2)) fs) {lo hi : Nat} (hq0 : ∀ lo hi : Nat, lo ≤ hi → hi ≤ fs.length → Ov (zA M (ad 2)) fs lo hi p q → Q (.inl none) (pkM ad M l lo hi)) (h1 : lo ≤ hi) (h2 : hi ≤ fs.length) (hA : (∀ j f, j < lo → fs[j]? = some f → ∀ e ∈ fE f, klt (eky (zA M (ad 2)) e) (eky (zA M (ad 2)) p))) (hB : (∀ j f, hi ≤ j → fs[j]? = some f → ∀ e ∈ fE f, klt (eky (zA M (ad 2)) q) (eky (zA M (ad 2)) e))) : zw G mX4_pickOver d k0 n0 Q 121 [some (.ref ((ad (32 + l)))), some (.int (nI p)), some (.int (nI q))] [] (pkM ad M l lo hi) := by
  obtain ⟨hv1, hv2, hv3, hv4⟩ := id hV
  refine zr_aload_n dX4_pickOver_121 rfl ?_
  refine zr_getI dX4_pickOver_122 lkX4_35 (by decide) (by decide) rfl (hL.Kl hl) ?_
  refine zr_as (y := (nI lo)) (pkM_pk _ _ _ _ _).1 ?_
  refine zr_if_leN 154 dX4_pickOver_125 (by decide) (by omega) (fun h125 => ?_) (fun h125 => ?_)
  · exact t_Level_over4 hd hcb hL hl hV hC hq0 (by omega) (by omega) hA hB
  · obtain ⟨f, hf⟩ : ∃ f, fs[lo - 1]? = some f := ⟨_, List.getElem?_eq_getElem (by omega)⟩
    have hfm := List.mem_of_getElem? hf
    obtain ⟨hf1, -, hTb⟩ := hv3 _ f hf
    have hTC := hC.1 f hfm
    have hbr := hTC.2.2.2.1
    have hne : 1 ≤ f.2.1.length := by have := hTC.1; omega
    have hj : f.1 < 259 := by omega
    refine zr_aload_n dX4_pickOver_128 rfl ?_
    refine zr_aload_n dX4_pickOver_129 rfl ?_
    refine zr_getI dX4_pickOver_130 lkX4_35 (by decide) (by decide) rfl (hL.Kl hl) ?_
    refine zr_as (y := (nI lo)) (pkM_pk _ _ _ _ _).1 ?_
    refine zr_iconst (v := nI 1) dX4_pickOver_133 (by decide) ?_
    refine zr_isubN dX4_pickOver_134 (by omega) ?_
    refine zr_callV (md' := mX4_table) (As := [.int (nI (lo - 1))]) dX4_pickOver_135 mlX4_41 okX4_table rfl inX4_table slX4_table (by decide) (hL.Kl hl) rfl (by omega) (Nat.le_of_ble_eq_true rfl) hcb (c_Level_table (d := d - 1) (M := pkM ad M l lo hi) hcb hL hl (pkM_lv hV) hf) (fun k M1 h => by cases h.1) (fun v M1 hq => ?_)
    obtain ⟨e0, e1⟩ := hq
    cases e0
    rw [e1]
    refine zr_callV (md' := mX8_isSmall) (As := []) dX4_pickOver_138 mlX4_70 okX8_isSmall rfl inX8_isSmall slX8_isSmall (by decide) (hL.Kt (by omega)) rfl (by omega) (Nat.le_of_ble_eq_true rfl) hcb (c_Table_isSmall (d := d - 1) (M := pkM ad M l lo hi) hcb hL (by omega) ((pkM_lv hV).2.2.1 _ f hf).2.2) (fun k M1 h => by obtain ⟨-, t, -, h, -⟩ := h; cases h) (fun v M1 hq => ?_)
    obtain ⟨e1, t, ht, e0, htk⟩ := hq
    cases e0
    rw [e1]
    refine zr_if_eqN 154 dX4_pickOver_141 (by decide) (by omega) (fun h141 => ?_) (fun h141 => ?_)
    · exact t_Level_over4 hd hcb hL hl hV hC hq0 (by omega) (by omega) hA hB
    · refine zr_aload_n dX4_pickOver_144 rfl ?_
      refine zr_dup dX4_pickOver_145 rfl ?_
      refine zr_getI dX4_pickOver_146 lkX4_35 (by decide) (by decide) rfl (hL.Kl hl) ?_
      refine zr_as (y := (nI lo)) (pkM_pk _ _ _ _ _).1 ?_
      refine zr_iconst (v := nI 1) dX4_pickOver_149 (by decide) ?_
      refine zr_isubN dX4_pickOver_150 (by omega) ?_
      refine zr_putI dX4_pickOver_151 lkX4_35 (by decide) (by decide) rfl rfl (hL.Kl hl) ?_
      rw [pk_lo]
      exact t_Level_over4 hd hcb hL hl hV hC hq0 (by omega) (by omega) (fun j g hj hg => hA j g (by omega) hg) hB
set_option maxRecDepth 100000 in
set_option maxHeartbeats 4000000 in
theorem c_Level_pickOver {G : zG} {ad : Nat → Nat} {d l p q : Nat} {fs : List zF} {M : zM} (hd : 1 ≤ d) (hcb : zC M ≤ 600128 ∧ zS M ≤ 7301098) (hL : Lay ad M) (hl : l < 3) (hV : Lv ad M l fs) (hC : LC (zA M (ad 2)) fs) (hp : p < 303096) (hq : q < 303096)  : zMet G mX4_pickOver d [.ref ((ad (32 + l))), .int (nI p), .int (nI q)] M (fun o M' => o = .inl none ∧ ∃ lo hi : Nat, M' = pkM ad M l lo hi ∧ lo ≤ hi ∧ hi ≤ fs.length ∧ Ov (zA M (ad 2)) fs lo hi p q) := by
  refine zMet_of (by decide +kernel) (Nat.le_of_ble_eq_true rfl) rfl hcb ?_
  show zw G mX4_pickOver d _ _ _ 0 [some (.ref ((ad (32 + l)))), some (.int (nI p)), some (.int (nI q))] [] M
  obtain ⟨hv1, hv2, hv3, hv4⟩ := id hV
  refine zr_iload_n dX4_pickOver_0 rfl ?_
  refine zr_iconst (v := -1) dX4_pickOver_1 (by decide) ?_
  refine zr_icmp_eqM 10 dX4_pickOver_2 (by decide) (by omega) ?_
  refine zr_iload_n dX4_pickOver_5 rfl ?_
  refine zr_iconst (v := -1) dX4_pickOver_6 (by decide) ?_
  refine zr_icmp_neM 15 dX4_pickOver_7 (by decide) (by omega) ?_
  refine zr_aload_n dX4_pickOver_15 rfl ?_
  refine zr_iconst (v := nI 0) dX4_pickOver_16 (by decide) ?_
  refine zr_putI dX4_pickOver_17 lkX4_35 (by decide) (by decide) rfl rfl (hL.Kl hl) ?_
  refine l_Level_over1 hd hcb hL hl hV hC hp (fun lo hlo hA => ?_) _ 0 rfl (by omega) (fun j g hj => by omega)
  refine zr_aload_n dX4_pickOver_66 rfl ?_
  refine zr_aload_n dX4_pickOver_67 rfl ?_
  refine zr_getI dX4_pickOver_68 lkX4_35 (by decide) (by decide) rfl (hL.Kl hl) ?_
  refine zr_as (y := (nI lo)) (zput_hit _ _ _ _) ?_
  refine zr_putI dX4_pickOver_71 lkX4_38 (by decide) (by decide) rfl rfl (hL.Kl hl) ?_
  refine zr_asM (M' := pkM ad M l lo lo) rfl ?_
  exact l_Level_over2 hd hcb hL hl hV hC hq (fun hi h1 h2 hB => t_Level_over3 hd hcb hL hl hV hC (fun lo hi a b c => ⟨rfl, lo, hi, rfl, a, b, c⟩) h1 h2 hA hB) _ lo rfl (by omega) (by omega)
set_option maxRecDepth 100000 in
set_option maxHeartbeats 4000000 in
theorem c_Level_pickOverM {G : zG} {ad : Nat → Nat} {d l : Nat} {v : Int32} {M : zM} (hd : 1 ≤ d) (hcb : zC M ≤ 600128 ∧ zS M ≤ 7301098) (hL : Lay ad M) (hl : l < 3)  : zMet G mX4_pickOver d [.ref ((ad (32 + l))), .int ((-1)), .int v] M (fun o M' => o = .inl none ∧ M' = pkM ad M l 0 0) := by
  refine zMet_of (by decide +kernel) (Nat.le_of_ble_eq_true rfl) rfl hcb ?_
  show zw G mX4_pickOver d _ _ _ 0 [some (.ref ((ad (32 + l)))), some (.int ((-1))), some (.int v)] [] M
  refine zr_iload_n dX4_pickOver_0 rfl ?_
  refine zr_iconst (v := -1) dX4_pickOver_1 (by decide) ?_
  refine zr_icmp_eqMM 10 dX4_pickOver_2 (by decide) ?_
  refine zr_aload_n dX4_pickOver_10 rfl ?_
  refine zr_callV (md' := mX4_pickNone) (As := []) dX4_pickOver_11 mlX4_62 okX4_pickNone rfl inX4_pickNone slX4_pickNone (by decide) (hL.Kl hl) rfl (by omega) (Nat.le_of_ble_eq_true rfl) hcb (c_Level_pickNone (d := d - 1) hcb hL hl) (fun k M1 h => by cases h.1) (fun v M1 hq => ?_)
  obtain ⟨e0, e1⟩ := hq
  cases e0
  rw [e1]
  refine zr_vret dX4_pickOver_14 rfl ?_
  exact ⟨rfl, rfl⟩
theorem flat_len : ∀ {css : List (List Nat)}, (∀ c ∈ css, c.length ≤ 64) → css.flatten.length ≤ 64 * css.length
  | [], _ => Nat.le_refl _
  | c :: css, h => by
    rw [List.flatten_cons, List.length_append, List.length_cons]
    have := flat_len (css := css) (fun c hc => h c (List.mem_cons_of_mem _ hc))
    have := h c List.mem_cons_self
    omega
theorem TC.len {D : Nat → Int32} {bl : List Nat} {css : List (List Nat)} (h : TC D bl css) : css.flatten.length ≤ 512 := by
  obtain ⟨h1, h2, h3, h4, h5, -⟩ := h
  have := flat_len (css := css) (fun c hc => by
    obtain ⟨i, hi⟩ := List.getElem?_of_mem hc
    have := (List.getElem?_eq_some_iff.mp hi).1
    obtain ⟨b, hb⟩ : ∃ b, bl[i]? = some b := ⟨_, List.getElem?_eq_getElem (by omega)⟩
    obtain ⟨ps, -, -, h⟩ := h5 i b c hb hi
    exact h)
  omega
theorem Tb.rs {ad : Nat → Nat} {M : zM} {j c : Nat} {bl : List Nat} {la : Option Nat} {g : Nat → Int32} (hL : Lay ad M) (h : Tb ad M j bl la) (hj : j < 259) : Tb ad (rsM ad M g c) j bl la :=
  ⟨(rsM_I _ _ (by decide)).trans h.1, h.2.1, fun i q hi => (congrFun (rsM_A hL _ _ (by unfold tB; omega) (by unfold tB; omega)) i).trans (h.2.2.1 i q hi), (rsM_I _ _ (by decide)).trans h.2.2.2⟩
theorem Lv.rs {ad : Nat → Nat} {M : zM} {l c : Nat} {fs : List zF} {g : Nat → Int32} (hL : Lay ad M) (h : Lv ad M l fs) (hl : l < 3) : Lv ad (rsM ad M g c) l fs :=
  ⟨(rsM_I _ _ (by decide)).trans h.1, h.2.1, fun i f hf => ⟨(h.2.2.1 i f hf).1, (h.2.2.1 i f hf).2.1, (h.2.2.1 i f hf).2.2.rs hL (by have := (h.2.2.1 i f hf).1; omega)⟩, h.2.2.2.rs hL (by omega)⟩
/-- the entries of the picked files -/
def seg (fs : List zF) (lo i : Nat) : List Nat := lvE ((fs.take i).drop lo)
theorem seg_self (fs : List zF) (lo : Nat) : seg fs lo lo = [] := by
  unfold seg
  rw [List.drop_eq_nil_of_le (by rw [List.length_take]; omega)]
  rfl
theorem seg_succ {fs : List zF} {lo i : Nat} {f : zF} (h : fs[i]? = some f) (hi : lo ≤ i) : seg fs lo (i + 1) = seg fs lo i ++ fE f := by
  unfold seg
  have hl := (List.getElem?_eq_some_iff.mp h).1
  rw [List.take_succ, h, List.drop_append_of_le_length (by rw [List.length_take]; omega)]
  unfold lvE
  rw [List.map_append, List.flatten_append]
  simp
theorem seg_len {fs : List zF} {lo i hi : Nat} (h : i ≤ hi) : (seg fs lo i).length ≤ (seg fs lo hi).length := by
  unfold seg
  have e : fs.take i = (fs.take hi).take i := by rw [List.take_take, Nat.min_eq_left h]
  rw [e, List.drop_take]
  unfold lvE
  obtain ⟨X, hX⟩ : ∃ X, X = (fs.take hi).drop lo := ⟨_, rfl⟩
  rw [← hX]
  conv => rhs; rw [← List.take_append_drop (i - lo) X]
  rw [List.map_append, List.flatten_append, List.length_append]
  omega
set_option maxRecDepth 100000 in
set_option maxHeartbeats 4000000 in
theorem l_Level_col1 {G : zG} {ad : Nat → Nat} {d k0 n0 l i : Nat} {R : List Nat} {f : zF} {M : zM} {Q : zOut → zM → Prop} (hd : 2 ≤ d) (hcb : zC M ≤ 600128 ∧ zS M ≤ 7301098) (hL : Lay ad M) (hl : l < 3) (hj : f.1 < 259) (hTb : Tb ad M f.1 f.2.1 (fE f).getLast?) (hTC : TC (zA M (ad 2)) f.2.1 f.2.2) (hR : R.length + (fE f).length ≤ 2048) (hk : ∀ g : Nat → Int32, Ld g (R ++ fE f) → zw G mX4_collect d k0 n0 Q 63 [some (.ref ((ad (32 + l)))), some (.ref ((ad 23))), some (.int (nI i)), some (.ref ((ad (tA f.1)))), none, none] [] (rsM ad M g (R ++ fE f).length)) : ∀ (m n : Nat) (x : Option Nat) (g : Nat → Int32), (fE f).length - n = m → x = (fE f)[n]? → n ≤ (fE f).length → Ld g (R ++ (fE f).take n) → zw G mX4_collect d k0 n0 Q 29 [some (.ref ((ad (32 + l)))), some (.ref ((ad 23))), some (.int (nI i)), some (.ref ((ad (tA f.1)))), some (.int (zvi x)), some (.int (nI n))] [] (rsM ad M g (R ++ (fE f).take n).length) := by
  have hfl : (fE f).length ≤ 512 := hTC.len
  have hbr := hTC.2.2.2.1
  intro m
  induction m using Nat.strongRecOn with
  | _ m ih =>
    intro n x g hm hx hn hLd
    refine zr_iload dX4_collect_29 rfl ?_
    refine zr_sipush (v := nI 4608) dX4_collect_31 (by decide) ?_
    refine zr_icmp_geN 63 dX4_collect_34 (by decide) (by omega) (by omega) (fun h34 => ?_) (fun h34 => ?_)
    · exfalso; omega
    · have hbx : ∀ c, x = some c → c < 2 ^ 31 := fun c hc => by have := (hTC.2.2.2.2.2.1 c (List.mem_of_getElem? (hx.symm.trans hc))).1; omega
      refine zr_iload dX4_collect_37 rfl ?_
      refine zr_iconst (v := -1) dX4_collect_39 (by decide) ?_
      refine zr_icmp_eqO 63 dX4_collect_40 (by decide) hbx (fun h40 => ?_) (fun xv h40 => ?_)
      · subst h40
        have e9 : (fE f).take n = fE f := List.take_of_length_le (List.getElem?_eq_none_iff.mp hx.symm)
        rw [e9] at hLd ⊢
        refine zr_drop 4 rfl ?_
        refine zr_drop 5 rfl ?_
        exact hk g hLd
      · subst h40
        obtain ⟨k9, hk9, hk8, hk7⟩ := TC.nx hTC hx.symm
        have hxl := (List.getElem?_eq_some_iff.mp hx.symm).1
        refine zr_aload_n dX4_collect_43 rfl ?_
        refine zr_iload dX4_collect_44 rfl ?_
        refine zr_callV (md' := mX7_add) (As := [.int (nI xv)]) dX4_collect_46 mlX4_74 okX7_add rfl inX7_add slX7_add (by decide) (hL.K 23 8) rfl (by omega) (Nat.le_of_ble_eq_true rfl) hcb (c_Rows_add (d := d - 1) (R := R ++ (fE f).take n) hcb hL (rsM_rs hLd (by rw [List.length_append, List.length_take]; omega)) (by rw [List.length_append, List.length_take]; omega)) (fun k M1 h => by cases h.1) (fun v M1 hq => ?_)
        obtain ⟨e0, e1⟩ := hq
        cases e0
        rw [e1, rsM_rsM, show zA (rsM ad M g (R ++ (fE f).take n).length) (ad 24) = g from zsetA_hit _ _ _]
        refine zr_aload_n dX4_collect_49 rfl ?_
        refine zr_iload dX4_collect_50 rfl ?_
        refine zr_callV (md' := mX8_following) (As := [.int (nI xv)]) dX4_collect_52 mlX4_80 okX8_following rfl inX8_following slX8_following (by decide) (hL.Kt (by omega)) rfl (by omega) (Nat.le_of_ble_eq_true rfl) hcb (c_Table_following (d := d - 1) (M := rsM ad M (upd g (R ++ (fE f).take n).length (nI xv)) ((R ++ (fE f).take n).length + 1)) (by omega) hcb hL hj (hTb.rs hL hj) hbr (Nat.lt_trans (hTC.2.2.2.2.2.1 xv (List.mem_of_getElem? hx.symm)).1 (by decide)) hk9 hk8) (fun k M1 h => by cases h.1) (fun v M1 hq => ?_)
        obtain ⟨e0, e1⟩ := hq
        cases e0
        rw [e1]
        rw [rsM_A hL _ _ (by decide) (by decide), hk7]
        refine zr_istore (lv' := [some (.ref ((ad (32 + l)))), some (.ref ((ad 23))), some (.int (nI i)), some (.ref ((ad (tA f.1)))), some (.int (zvi ((fE f)[n + 1]?))), some (.int (nI n))]) dX4_collect_55 (Nat.le_of_ble_eq_true rfl) (Nat.le_of_ble_eq_true rfl) rfl rfl ?_
        refine zr_iincN (n := 1) (lv' := [some (.ref ((ad (32 + l)))), some (.ref ((ad 23))), some (.int (nI i)), some (.ref ((ad (tA f.1)))), some (.int (zvi ((fE f)[n + 1]?))), some (.int (nI (n + 1)))]) dX4_collect_57 (Nat.le_of_ble_eq_true rfl) (Nat.le_of_ble_eq_true rfl) rfl rfl rfl ?_
        refine zr_goto 29 dX4_collect_60 (by decide) ?_
        have e9 : R ++ (fE f).take (n + 1) = R ++ (fE f).take n ++ [xv] := by rw [List.take_succ, ← hx, ← List.append_assoc]; rfl
        refine zr_asM (M' := rsM ad M (upd g (R ++ (fE f).take n).length (nI xv)) (R ++ (fE f).take (n + 1)).length) (by rw [show (R ++ (fE f).take (n + 1)).length = (R ++ (fE f).take n).length + 1 from by rw [e9]; exact List.length_append (as := R ++ (fE f).take n)]) ?_
        exact ih _ (by omega) (n + 1) _ _ rfl rfl (by have := (List.getElem?_eq_some_iff.mp hx.symm).1; omega) (by rw [e9]; exact hLd.snoc)
set_option maxRecDepth 100000 in
set_option maxHeartbeats 4000000 in
theorem l_Level_collect {G : zG} {ad : Nat → Nat} {d k0 n0 l lo hi : Nat} {R : List Nat} {fs : List zF} {M : zM} {Q : zOut → zM → Prop} (hd : 2 ≤ d) (hcb : zC M ≤ 600128 ∧ zS M ≤ 7301098) (hL : Lay ad M) (hl : l < 3) (hV : Lv ad M l fs) (hC : LC (zA M (ad 2)) fs) (hR : Rs ad M R) (hpk : Pk ad M l lo hi) (hlo : lo ≤ hi) (hhi : hi ≤ fs.length) (hsz : R.length + (seg fs lo hi).length ≤ 2048) (hq0 : ∀ g : Nat → Int32, Ld g (R ++ seg fs lo hi) → Q (.inl none) (rsM ad M g (R ++ seg fs lo hi).length)) : ∀ (m i : Nat) (g : Nat → Int32), hi - i = m → lo ≤ i → i ≤ hi → Ld g (R ++ seg fs lo i) → zw G mX4_collect d k0 n0 Q 5 [some (.ref ((ad (32 + l)))), some (.ref ((ad 23))), some (.int (nI i)), none, none, none] [] (rsM ad M g (R ++ seg fs lo i).length) := by
  intro m
  induction m using Nat.strongRecOn with
  | _ m ih =>
    intro i g hm h1 h2 hLd
    obtain ⟨hv1, hv2, hv3, hv4⟩ := id hV
    refine zr_iload_n dX4_collect_5 rfl ?_
    refine zr_aload_n dX4_collect_6 rfl ?_
    refine zr_getI dX4_collect_7 lkX4_38 (by decide) (by decide) rfl (hL.Kl hl) ?_
    refine zr_as (y := (nI hi)) ((rsM_I _ _ (by decide)).trans hpk.2) ?_
    refine zr_icmp_geN 69 dX4_collect_10 (by decide) (by omega) (by omega) (fun h10 => ?_) (fun h10 => ?_)
    · refine zr_vret dX4_collect_69 rfl ?_
      have e9 : i = hi := by omega
      subst e9
      exact hq0 g hLd
    · obtain ⟨f, hf⟩ : ∃ f, fs[i]? = some f := ⟨_, List.getElem?_eq_getElem (by omega)⟩
      have hfm := List.mem_of_getElem? hf
      obtain ⟨hf1, -, hTb⟩ := hv3 _ f hf
      have hTC := hC.1 f hfm
      have hbr := hTC.2.2.2.1
      have hne : 1 ≤ f.2.1.length := by have := hTC.1; omega
      have hj : f.1 < 259 := by omega
      refine zr_aload_n dX4_collect_13 rfl ?_
      refine zr_iload_n dX4_collect_14 rfl ?_
      refine zr_callV (md' := mX4_table) (As := [.int (nI i)]) dX4_collect_15 mlX4_41 okX4_table rfl inX4_table slX4_table (by decide) (hL.Kl hl) rfl (by omega) (Nat.le_of_ble_eq_true rfl) hcb (c_Level_table (d := d - 1) (M := rsM ad M g (R ++ seg fs lo i).length) hcb hL hl (hV.rs hL hl) hf) (fun k M1 h => by cases h.1) (fun v M1 hq => ?_)
      obtain ⟨e0, e1⟩ := hq
      cases e0
      rw [e1]
      refine zr_astore_n (lv' := [some (.ref ((ad (32 + l)))), some (.ref ((ad 23))), some (.int (nI i)), some (.ref ((ad (tA f.1)))), none, none]) dX4_collect_18 (Nat.le_of_ble_eq_true rfl) (Nat.le_of_ble_eq_true rfl) rfl rfl ?_
      refine zr_aload_n dX4_collect_19 rfl ?_
      refine zr_iconst (v := nI 0) dX4_collect_20 (by decide) ?_
      refine zr_callV (md' := mX8_startOf) (As := [.int (nI 0)]) dX4_collect_21 mlX4_46 okX8_startOf rfl inX8_startOf slX8_startOf (by decide) (hL.Kt (by omega)) rfl (by omega) (Nat.le_of_ble_eq_true rfl) hcb (c_Table_startOf (d := d - 1) (M := rsM ad M g (R ++ seg fs lo i).length) hcb hL hj (hTb.rs hL hj) hbr hne (by decide)) (fun k M1 h => by cases h.1) (fun v M1 hq => ?_)
      obtain ⟨e0, e1⟩ := hq
      cases e0
      rw [e1]
      rw [hTC.first]
      refine zr_istore (lv' := [some (.ref ((ad (32 + l)))), some (.ref ((ad 23))), some (.int (nI i)), some (.ref ((ad (tA f.1)))), some (.int (zvi (f.2.2.flatten[0]?))), none]) dX4_collect_24 (Nat.le_of_ble_eq_true rfl) (Nat.le_of_ble_eq_true rfl) rfl rfl ?_
      refine zr_iconst (v := nI 0) dX4_collect_26 (by decide) ?_
      refine zr_istore (lv' := [some (.ref ((ad (32 + l)))), some (.ref ((ad 23))), some (.int (nI i)), some (.ref ((ad (tA f.1)))), some (.int (zvi (f.2.2.flatten[0]?))), some (.int (nI 0))]) dX4_collect_27 (Nat.le_of_ble_eq_true rfl) (Nat.le_of_ble_eq_true rfl) rfl rfl ?_
      have e9 : R ++ seg fs lo i ++ fE f = R ++ seg fs lo (i + 1) := by rw [seg_succ hf (by omega), List.append_assoc]
      have hsl := seg_len (fs := fs) (lo := lo) (show i + 1 ≤ hi by omega)
      have hs9 : (seg fs lo (i + 1)).length = (seg fs lo i).length + (fE f).length := by rw [seg_succ hf (by omega), List.length_append]
      refine zr_asM (M' := rsM ad M g (R ++ seg fs lo i ++ (fE f).take 0).length) (by rw [List.take_zero, List.append_nil]) ?_
      refine l_Level_col1 hd hcb hL hl hj hTb hTC (by rw [List.length_append]; omega) (fun g1 hg1 => ?_) _ 0 _ g rfl rfl (by omega) (by rw [List.take_zero, List.append_nil]; exact hLd)
      rw [e9] at hg1 ⊢
      refine zr_iincN (n := 1) (lv' := [some (.ref ((ad (32 + l)))), some (.ref ((ad 23))), some (.int (nI (i + 1))), some (.ref ((ad (tA f.1)))), none, none]) dX4_collect_63 (Nat.le_of_ble_eq_true rfl) (Nat.le_of_ble_eq_true rfl) rfl rfl rfl ?_
      refine zr_goto 5 dX4_collect_66 (by decide) ?_
      refine zr_drop 3 rfl ?_
      exact ih _ (by omega) (i + 1) g1 rfl (by omega) (by omega) hg1
set_option maxRecDepth 100000 in
set_option maxHeartbeats 4000000 in
theorem c_Level_collect {G : zG} {ad : Nat → Nat} {d l lo hi : Nat} {R : List Nat} {fs : List zF} {M : zM} (hd : 2 ≤ d) (hcb : zC M ≤ 600128 ∧ zS M ≤ 7301098) (hL : Lay ad M) (hl : l < 3) (hV : Lv ad M l fs) (hC : LC (zA M (ad 2)) fs) (hR : Rs ad M R) (hpk : Pk ad M l lo hi) (hlo : lo ≤ hi) (hhi : hi ≤ fs.length) (hsz : R.length + (seg fs lo hi).length ≤ 2048)  : zMet G mX4_collect d [.ref ((ad (32 + l))), .ref ((ad 23))] M (fun o M' => o = .inl none ∧ ∃ g : Nat → Int32, M' = rsM ad M g (R ++ seg fs lo hi).length ∧ Ld g (R ++ seg fs lo hi)) := by
  refine zMet_of (by decide +kernel) (Nat.le_of_ble_eq_true rfl) rfl hcb ?_
  show zw G mX4_collect d _ _ _ 0 [some (.ref ((ad (32 + l)))), some (.ref ((ad 23))), none, none, none, none] [] M
  obtain ⟨hv1, hv2, hv3, hv4⟩ := id hV
  refine zr_aload_n dX4_collect_0 rfl ?_
  refine zr_getI dX4_collect_1 lkX4_35 (by decide) (by decide) rfl (hL.Kl hl) ?_
  refine zr_as (y := (nI lo)) hpk.1 ?_
  refine zr_istore_n (lv' := [some (.ref ((ad (32 + l)))), some (.ref ((ad 23))), some (.int (nI lo)), none, none, none]) dX4_collect_4 (Nat.le_of_ble_eq_true rfl) (Nat.le_of_ble_eq_true rfl) rfl rfl ?_
  refine zr_asM (M' := rsM ad M (zA M (ad 24)) (R ++ seg fs lo lo).length) (by rw [seg_self, List.append_nil, rsM_self hR]) ?_
  exact l_Level_collect hd hcb hL hl hV hC hR hpk hlo hhi hsz (fun g h => ⟨rfl, g, rfl, h⟩) _ lo _ rfl (by omega) (by omega) (by rw [seg_self, List.append_nil]; exact hR.2.2)
set_option maxRecDepth 100000 in
set_option maxHeartbeats 4000000 in
theorem l_Level_overlaps {G : zG} {ad : Nat → Nat} {d k0 n0 l : Nat} {fs : List zF} {M : zM} {Q : zOut → zM → Prop} (hd : 1 ≤ d) (hcb : zC M ≤ 600128 ∧ zS M ≤ 7301098) (hL : Lay ad M) (hl : l < 3) (hV : Lv ad M l fs) (hC : LC (zA M (ad 2)) fs) (hq0 : Q (.inl (some (.int (nI 0)))) M) : ∀ (m i : Nat) , fs.length - i = m → 1 ≤ i → i ≤ fs.length + 1 → zw G mX4_overlaps d k0 n0 Q 4 [some (.ref ((ad (32 + l)))), some (.int (nI 0)), some (.int (nI i))] [] M := by
  intro m
  induction m using Nat.strongRecOn with
  | _ m ih =>
    intro i hm hi1 hi
    obtain ⟨hv1, hv2, hv3, hv4⟩ := id hV
    refine zr_iload_n dX4_overlaps_4 rfl ?_
    refine zr_aload_n dX4_overlaps_5 rfl ?_
    refine zr_getI dX4_overlaps_6 lkX4_31 (by decide) (by decide) rfl (hL.Kl hl) ?_
    refine zr_as (y := (nI fs.length)) hv1 ?_
    refine zr_icmp_geN 50 dX4_overlaps_9 (by decide) (by omega) (by omega) (fun h9 => ?_) (fun h9 => ?_)
    · refine zr_iload_n dX4_overlaps_50 rfl ?_
      refine zr_iret dX4_overlaps_51 rfl ?_
      exact hq0
    · obtain ⟨f, hf⟩ : ∃ f, fs[i]? = some f := ⟨_, List.getElem?_eq_getElem (by omega)⟩
      have hfm := List.mem_of_getElem? hf
      obtain ⟨hf1, -, hTb⟩ := hv3 _ f hf
      have hTC := hC.1 f hfm
      have hbr := hTC.2.2.2.1
      have hne : 1 ≤ f.2.1.length := by have := hTC.1; omega
      have hj : f.1 < 259 := by omega
      obtain ⟨fi, hfi, hfi1, hfi2, hfi3, hfi4, hfi5⟩ := hTC.fst
      obtain ⟨f8, hf8⟩ : ∃ f, fs[i - 1]? = some f := ⟨_, List.getElem?_eq_getElem (by omega)⟩
      obtain ⟨hf81, -, hTb8⟩ := hv3 _ f8 hf8
      obtain ⟨la, hla, hla2, hla3, hla4, hla5, -⟩ := (hC.1 f8 (List.mem_of_getElem? hf8)).lst
      refine zr_aload_n dX4_overlaps_12 rfl ?_
      refine zr_getR dX4_overlaps_13 lkX4_17 (by decide) (by decide) rfl (hL.Kl hl) (hL.ld hl) ?_
      refine zr_aload_n dX4_overlaps_16 rfl ?_
      refine zr_iload_n dX4_overlaps_17 rfl ?_
      refine zr_iconst (v := nI 1) dX4_overlaps_18 (by decide) ?_
      refine zr_isubN dX4_overlaps_19 (by omega) ?_
      refine zr_callV (md' := mX4_table) (As := [.int (nI (i - 1))]) dX4_overlaps_20 mlX4_41 okX4_table rfl inX4_table slX4_table (by decide) (hL.Kl hl) rfl (by omega) (Nat.le_of_ble_eq_true rfl) hcb (c_Level_table (d := d - 1) hcb hL hl hV hf8) (fun k M1 h => by cases h.1) (fun v M1 hq => ?_)
      obtain ⟨e0, e1⟩ := hq
      cases e0
      rw [e1]
      refine zr_getI dX4_overlaps_23 lkX4_50 (by decide) (by decide) rfl (hL.Kt (by omega)) ?_
      refine zr_as (y := (nI la)) (hTb8.2.2.2.trans (congrArg zvi hla)) ?_
      refine zr_aload_n dX4_overlaps_26 rfl ?_
      refine zr_iload_n dX4_overlaps_27 rfl ?_
      refine zr_callV (md' := mX4_table) (As := [.int (nI i)]) dX4_overlaps_28 mlX4_41 okX4_table rfl inX4_table slX4_table (by decide) (hL.Kl hl) rfl (by omega) (Nat.le_of_ble_eq_true rfl) hcb (c_Level_table (d := d - 1) hcb hL hl hV hf) (fun k M1 h => by cases h.1) (fun v M1 hq => ?_)
      obtain ⟨e0, e1⟩ := hq
      cases e0
      rw [e1]
      refine zr_iconst (v := nI 0) dX4_overlaps_31 (by decide) ?_
      refine zr_callV (md' := mX8_startOf) (As := [.int (nI 0)]) dX4_overlaps_32 mlX4_46 okX8_startOf rfl inX8_startOf slX8_startOf (by decide) (hL.Kt (by omega)) rfl (by omega) (Nat.le_of_ble_eq_true rfl) hcb (c_Table_startOf (d := d - 1) hcb hL hj hTb hbr hne (by decide)) (fun k M1 h => by cases h.1) (fun v M1 hq => ?_)
      obtain ⟨e0, e1⟩ := hq
      cases e0
      rw [e1]
      rw [hfi]
      refine zr_as (y := nI fi) rfl ?_
      refine zr_callV (md' := mX1_order) (As := [.int (nI la), .int (nI fi)]) dX4_overlaps_35 mlX4_65 okX1_order rfl inX1_order slX1_order (by decide) (hL.K 1 2) rfl (by omega) (Nat.le_of_ble_eq_true rfl) hcb (c_Disk_order (d := d - 1) hcb (Lay.dk hL) (Nat.lt_trans hla3 (by decide)) (Nat.lt_trans hfi3 (by decide))) (fun k M1 h => by obtain ⟨r, h, -⟩ := h; cases h) (fun v M1 hq => ?_)
      obtain ⟨r, e0, e1, hr1, hr2⟩ := hq
      cases e0
      rw [e1]
      refine zr_if_lt 44 dX4_overlaps_38 (by decide) (fun h38 => ?_) (fun h38 => ?_)
      · refine zr_iincN (n := 1) (lv' := [some (.ref ((ad (32 + l)))), some (.int (nI 0)), some (.int (nI (i + 1)))]) dX4_overlaps_44 (Nat.le_of_ble_eq_true rfl) (Nat.le_of_ble_eq_true rfl) rfl rfl rfl ?_
        refine zr_goto 4 dX4_overlaps_47 (by decide) ?_
        exact ih _ (by omega) (i + 1) rfl (by omega) (by omega)
      · exact absurd (hr1.mpr (pw_get hC.2 (show i - 1 < i by omega) hf8 hf la hla2 fi hfi2)) h38
set_option maxRecDepth 100000 in
set_option maxHeartbeats 4000000 in
theorem c_Level_overlaps {G : zG} {ad : Nat → Nat} {d l : Nat} {fs : List zF} {M : zM} (hd : 1 ≤ d) (hcb : zC M ≤ 600128 ∧ zS M ≤ 7301098) (hL : Lay ad M) (hl : l < 3) (hV : Lv ad M l fs) (hC : LC (zA M (ad 2)) fs)  : zMet G mX4_overlaps d [.ref ((ad (32 + l)))] M (fun o M' => o = .inl (some (.int (nI 0))) ∧ M' = M) := by
  refine zMet_of (by decide +kernel) (Nat.le_of_ble_eq_true rfl) rfl hcb ?_
  show zw G mX4_overlaps d _ _ _ 0 [some (.ref ((ad (32 + l)))), none, none] [] M
  obtain ⟨hv1, hv2, hv3, hv4⟩ := id hV
  refine zr_iconst (v := nI 0) dX4_overlaps_0 (by decide) ?_
  refine zr_istore_n (lv' := [some (.ref ((ad (32 + l)))), some (.int (nI 0)), none]) dX4_overlaps_1 (Nat.le_of_ble_eq_true rfl) (Nat.le_of_ble_eq_true rfl) rfl rfl ?_
  refine zr_iconst (v := nI 1) dX4_overlaps_2 (by decide) ?_
  refine zr_istore_n (lv' := [some (.ref ((ad (32 + l)))), some (.int (nI 0)), some (.int (nI 1))]) dX4_overlaps_3 (Nat.le_of_ble_eq_true rfl) (Nat.le_of_ble_eq_true rfl) rfl rfl ?_
  exact l_Level_overlaps hd hcb hL hl hV hC ⟨rfl, rfl⟩ _ 1 rfl (by omega) (by omega)
set_option maxRecDepth 100000 in
set_option maxHeartbeats 4000000 in
theorem l_Level_faults {G : zG} {ad : Nat → Nat} {d k0 n0 l : Nat} {fs : List zF} {M : zM} {Q : zOut → zM → Prop} (hd : 4 ≤ d) (hcb : zC M ≤ 600128 ∧ zS M ≤ 7301098) (hL : Lay ad M) (hl : l < 3) (hV : Lv ad M l fs) (hC : LC (zA M (ad 2)) fs) (hq0 : Q (.inl (some (.int (nI 0)))) M) : ∀ (m i : Nat) , fs.length - i = m → i ≤ fs.length → zw G mX4_faults d k0 n0 Q 4 [some (.ref ((ad (32 + l)))), some (.int (nI 0)), some (.int (nI i))] [] M := by
  intro m
  induction m using Nat.strongRecOn with
  | _ m ih =>
    intro i hm hi
    obtain ⟨hv1, hv2, hv3, hv4⟩ := id hV
    refine zr_iload_n dX4_faults_4 rfl ?_
    refine zr_aload_n dX4_faults_5 rfl ?_
    refine zr_getI dX4_faults_6 lkX4_31 (by decide) (by decide) rfl (hL.Kl hl) ?_
    refine zr_as (y := (nI fs.length)) hv1 ?_
    refine zr_icmp_geN 29 dX4_faults_9 (by decide) (by omega) (by omega) (fun h9 => ?_) (fun h9 => ?_)
    · refine zr_iload_n dX4_faults_29 rfl ?_
      refine zr_iret dX4_faults_30 rfl ?_
      exact hq0
    · obtain ⟨f, hf⟩ : ∃ f, fs[i]? = some f := ⟨_, List.getElem?_eq_getElem (by omega)⟩
      have hfm := List.mem_of_getElem? hf
      obtain ⟨hf1, -, hTb⟩ := hv3 _ f hf
      have hTC := hC.1 f hfm
      have hbr := hTC.2.2.2.1
      have hne : 1 ≤ f.2.1.length := by have := hTC.1; omega
      have hj : f.1 < 259 := by omega
      obtain ⟨fb, hfb⟩ : ∃ fb, f.2.1[f.2.2.length]? = some fb := ⟨_, List.getElem?_eq_getElem (by have := hTC.1; omega)⟩
      refine zr_iload_n dX4_faults_12 rfl ?_
      refine zr_aload_n dX4_faults_13 rfl ?_
      refine zr_iload_n dX4_faults_14 rfl ?_
      refine zr_callV (md' := mX4_table) (As := [.int (nI i)]) dX4_faults_15 mlX4_41 okX4_table rfl inX4_table slX4_table (by decide) (hL.Kl hl) rfl (by omega) (Nat.le_of_ble_eq_true rfl) hcb (c_Level_table (d := d - 1) hcb hL hl hV hf) (fun k M1 h => by cases h.1) (fun v M1 hq => ?_)
      obtain ⟨e0, e1⟩ := hq
      cases e0
      rw [e1]
      refine zr_callV (md' := mX8_faults) (As := []) dX4_faults_18 mlX4_118 okX8_faults rfl inX8_faults slX8_faults (by decide) (hL.Kt (by omega)) rfl (by omega) (Nat.le_of_ble_eq_true rfl) hcb (c_Table_faults (d := d - 1) (by omega) hcb hL hj hTb hTC hfb (by have := hTC.len; omega)) (fun k M1 h => by cases h.1) (fun v M1 hq => ?_)
      obtain ⟨e0, e1⟩ := hq
      cases e0
      rw [e1]
      refine zr_iaddN dX4_faults_21 ?_
      refine zr_istore_n (lv' := [some (.ref ((ad (32 + l)))), some (.int (nI (0 + 0))), some (.int (nI i))]) dX4_faults_22 (Nat.le_of_ble_eq_true rfl) (Nat.le_of_ble_eq_true rfl) rfl rfl ?_
      refine zr_iincN (n := 1) (lv' := [some (.ref ((ad (32 + l)))), some (.int (nI (0 + 0))), some (.int (nI (i + 1)))]) dX4_faults_23 (Nat.le_of_ble_eq_true rfl) (Nat.le_of_ble_eq_true rfl) rfl rfl rfl ?_
      refine zr_goto 4 dX4_faults_26 (by decide) ?_
      exact ih _ (by omega) (i + 1) rfl (by omega)
set_option maxRecDepth 100000 in
set_option maxHeartbeats 4000000 in
theorem c_Level_faults {G : zG} {ad : Nat → Nat} {d l : Nat} {fs : List zF} {M : zM} (hd : 4 ≤ d) (hcb : zC M ≤ 600128 ∧ zS M ≤ 7301098) (hL : Lay ad M) (hl : l < 3) (hV : Lv ad M l fs) (hC : LC (zA M (ad 2)) fs)  : zMet G mX4_faults d [.ref ((ad (32 + l)))] M (fun o M' => o = .inl (some (.int (nI 0))) ∧ M' = M) := by
  refine zMet_of (by decide +kernel) (Nat.le_of_ble_eq_true rfl) rfl hcb ?_
  show zw G mX4_faults d _ _ _ 0 [some (.ref ((ad (32 + l)))), none, none] [] M
  obtain ⟨hv1, hv2, hv3, hv4⟩ := id hV
  refine zr_iconst (v := nI 0) dX4_faults_0 (by decide) ?_
  refine zr_istore_n (lv' := [some (.ref ((ad (32 + l)))), some (.int (nI 0)), none]) dX4_faults_1 (Nat.le_of_ble_eq_true rfl) (Nat.le_of_ble_eq_true rfl) rfl rfl ?_
  refine zr_iconst (v := nI 0) dX4_faults_2 (by decide) ?_
  refine zr_istore_n (lv' := [some (.ref ((ad (32 + l)))), some (.int (nI 0)), some (.int (nI 0))]) dX4_faults_3 (Nat.le_of_ble_eq_true rfl) (Nat.le_of_ble_eq_true rfl) rfl rfl ?_
  exact l_Level_faults hd hcb hL hl hV hC ⟨rfl, rfl⟩ _ 0 rfl (by omega)
