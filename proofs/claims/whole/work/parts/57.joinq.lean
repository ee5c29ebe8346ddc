/-! ===== files put together: the state behind it ===== -/
theorem Pok.up {D : Nat → Int32} {wl t : Nat} {E P : List Nat} {Ls : Nat → List zF} {lo hi : Nat → Nat} (h : Pok D Ls lo hi t P) (hP : ∀ p ∈ P, p ∈ pks wl E Ls lo hi 3) {y : Nat} (hy : y ∈ P) : y ∈ up E Ls (t + 1) := by
  rcases pks_mem (hP y hy) with ⟨-, z⟩ | ⟨l, hl, z⟩
  · exact up_le (Nat.zero_le _) z
  · rcases Nat.lt_or_ge t l with e | e
    · rw [h.2.2.1 l e hl, seg_self] at z; cases z
    · exact up_le (show l + 1 ≤ t + 1 by omega) (List.mem_append_right _ ((seg_sub _ _ _).subset z))
theorem newL_mem {Ls : Nat → List zF} {lo hi : Nat → Nat} {t l : Nat} {ns : List zF} {f : zF} (h : f ∈ newL Ls lo hi t ns l) : f ∈ cutL Ls lo hi l ∨ (l = t ∧ f ∈ ns) := by
  by_cases hl : l = t
  · subst hl
    rw [newL_t] at h
    rcases List.mem_append.mp h with z | z
    · exact Or.inl (List.mem_append_left _ z)
    · rcases List.mem_append.mp z with y | y
      · exact Or.inr ⟨rfl, y⟩
      · exact Or.inl (List.mem_append_right _ y)
  · rw [newL_ne _ _ _ _ hl] at h
    exact Or.inl h
theorem newL_lv {Ls : Nat → List zF} {lo hi : Nat → Nat} {t l : Nat} {ns : List zF} {q : Nat} (h : q ∈ lvE (newL Ls lo hi t ns l)) : q ∈ lvE (cutL Ls lo hi l) ∨ (l = t ∧ q ∈ lvE ns) := by
  obtain ⟨f, hf, hq⟩ := lvE_cases h
  rcases newL_mem hf with z | ⟨z1, z2⟩
  · exact Or.inl (lvE_get z hq)
  · exact Or.inr ⟨z1, lvE_get z2 hq⟩
set_option maxHeartbeats 4000000 in
theorem join_pure {D0 D4 D' : Nat → Int32} {wl t low c n us ar : Nat} {E P T tk nbs : List Nat} {Ls : Nat → List zF} {lo hi : Nat → Nat} {ns : List zF} {rs : List (List Nat)} {m : Mp} {v : Nat → Option Nat}
    (hF : Fok D0 Ls) (hLg : LgS D0 ar us n rs E) (hS : Sem D0 E Ls c n m) (hn : n ≤ 64) (ht : t < 3) (hwl : wl ≤ 1) (hlh : ∀ l, l < 3 → lo l ≤ hi l)
    (hPs : P.Pairwise (pre D0)) (hPp : P.Perm (pks wl E Ls lo hi 3)) (hT : Thn D0 P v low T) (hlow : low = 1 → t = 2) (hok : Pok D0 Ls lo hi t P)
    (htk : tk.Perm (bks Ls 3)) (hX : WX D0 tk D4 ns [] [] nbs) (hent : (lvE ns).map (ent D4) = T.map (ent D0))
    (hD1 : ∀ p, p / 512 ∈ nbs ++ tk → D' p = D4 p) (hD2 : wl = 0 → ∀ p, 4096 + ar * 18432 ≤ p → p < 4096 + ar * 18432 + 18432 → D' p = D0 p) :
    Fok D' (newL Ls lo hi t ns) ∧ Sem D' (if wl = 1 then [] else E) (newL Ls lo hi t ns) c n m ∧ ∀ w, (w = 2147483647 ∨ ∃ i, i < 8 ∧ v i = some w) → ∀ k x, vw ((up (if wl = 1 then [] else E) (newL Ls lo hi t ns) 3).map (ent D')) w k x ↔ vw ((up E Ls 3).map (ent D0)) w k x := by
  have hbr : Br (nbs ++ tk) := hX.2.2.2.2.2.2.2.2
  have hdis : ∀ b ∈ nbs, b ∉ tk := fun b hb hb' => (List.nodup_append.mp hbr.2).2.2 b hb b hb' rfl
  have hnb : nbs.Perm (bk ns) := by
    have := hX.2.1
    rwa [List.append_nil] at this
  have hold : ∀ p, p / 512 ∈ bks Ls 3 → D' p = D0 p := fun p hp => by
    have hp' := htk.mem_iff.mpr hp
    exact (hD1 p (List.mem_append_right _ hp')).trans (hX.1 p (fun z => hdis _ z hp'))
  obtain ⟨hF', hFe⟩ := hF.keep hold
  have heE : wl ≠ 1 → ∀ p ∈ E, ent D' p = ent D0 p := fun hw => (hLg.keep hn (hD2 (by omega))).2
  have hcl : ∀ l, l < 3 → ∀ q ∈ lvE (cutL Ls lo hi l), q ∈ lvE (Ls l) ∧ ent D' q = ent D0 q := fun l hl q hq => by
    have hq' := (lvE_sub (cut_sub (Ls := Ls) (hlh l hl))).subset hq
    exact ⟨hq', hFe l hl q hq'⟩
  have heK : ∀ p ∈ kps wl E Ls lo hi 3, p ∈ up E Ls 3 ∧ ent D' p = ent D0 p := fun p hp => by
    rcases kps_mem hp with ⟨hw, z⟩ | ⟨l, hl, z⟩
    · exact ⟨up_mem.mpr (Or.inl z), heE hw p z⟩
    · exact ⟨up_mem.mpr (Or.inr ⟨l, hl, (hcl l hl p z).1⟩), (hcl l hl p z).2⟩
  have hnB : ∀ f ∈ ns, ∀ p, p / 512 ∈ f.2.1 → D' p = D4 p := fun f hf p hp => hD1 p (List.mem_append_left _ (hnb.mem_iff.mpr (bk_mem hf hp)))
  have hnT : ∀ f ∈ ns, TF D' f := fun f hf => (hX.2.2.1 f hf).1.loc (hnB f hf)
  have hnE : ∀ q ∈ lvE ns, ent D' q = ent D4 q := fun q hq => by
    obtain ⟨f, hf, hqf⟩ := lvE_cases hq
    exact (hX.2.2.1 f hf).1.ents (hnB f hf) q hqf
  have hnm : (lvE ns).map (ent D') = T.map (ent D0) := (List.map_congr_left hnE).trans hent
  have hTP : ∀ y ∈ T, y ∈ P := fun y hy => hT.1.subset hy
  have hPk : ∀ p ∈ P, p ∈ pks wl E Ls lo hi 3 := fun p hp => hPp.mem_iff.mp hp
  have hPu : ∀ p ∈ P, p ∈ up E Ls 3 := fun p hp => (pks_sub 3).subset (hPk p hp)
  have hny : ∀ q ∈ lvE ns, ∃ y ∈ P, ent D' q = ent D0 y := fun q hq => by
    obtain ⟨y, hy, e⟩ := map_mem hnm hq
    exact ⟨y, hTP y hy, e⟩
  have hmem : ∀ p ∈ up (if wl = 1 then [] else E) (newL Ls lo hi t ns) 3, p ∈ kps wl E Ls lo hi 3 ∨ p ∈ lvE ns := fun p hp => List.mem_append.mp ((up_perm' ht).mem_iff.mp hp)
  have hKx : (kps wl E Ls lo hi 3).map (ent D') = (kps wl E Ls lo hi 3).map (ent D0) := List.map_congr_left (fun p hp => (heK p hp).2)
  have hview : ∀ w, (w = 2147483647 ∨ ∃ i, i < 8 ∧ v i = some w) → ∀ k x, vw ((up (if wl = 1 then [] else E) (newL Ls lo hi t ns) 3).map (ent D')) w k x ↔ vw ((up E Ls 3).map (ent D0)) w k x := by
    intro w hw k x
    have m1 : ∀ e, e ∈ (up (if wl = 1 then [] else E) (newL Ls lo hi t ns) 3).map (ent D') ↔ e ∈ (kps wl E Ls lo hi 3).map (ent D0) ++ T.map (ent D0) := fun e => by
      rw [((up_perm' ht).map (ent D')).mem_iff, List.map_append, hKx, hnm]
    have m2 : ∀ e, e ∈ (kps wl E Ls lo hi 3).map (ent D0) ++ P.map (ent D0) ↔ e ∈ (up E Ls 3).map (ent D0) := fun e => by
      rw [((up_perm (wl := wl) hlh).map (ent D0)).mem_iff, List.map_append, List.mem_append, List.mem_append, (hPp.map (ent D0)).mem_iff]
    rw [vw_mem m1, ← vw_mem m2]
    refine join_sem (low := low = 1) (fun e he => ?_) (hT.nd hPs (fun p hp => (hS.2.1.1 p (hPu p hp)).2) hw) (fun hl e he f hf hk => ?_) k x
    · obtain ⟨y, hy, rfl⟩ := List.mem_map.mp he
      exact List.mem_map_of_mem (hTP y hy)
    · obtain ⟨y, hy, rfl⟩ := List.mem_map.mp he
      obtain ⟨p, hp, rfl⟩ := List.mem_map.mp hf
      rcases hok.kp hS.1 hlh hPk hp hy hk with z | ⟨l, z1, z2, -⟩
      · exact z
      · have := hlow hl
        omega
  refine ⟨⟨fun l hl => ?_, ?_⟩, ⟨?_, ⟨?_, ?_⟩, ?_, ?_, fun k x => (hview _ (Or.inl rfl) k x).trans (hS.2.2.2.2 k x)⟩, hview⟩
  · have hTF : ∀ f ∈ newL Ls lo hi t ns l, TF D' f := fun f hf => by
      rcases newL_mem hf with z | ⟨-, z⟩
      · exact (hF'.1 l hl).2 f ((cut_sub (hlh l hl)).subset z)
      · exact hnT f z
    refine ⟨⟨fun f hf => (hTF f hf).1, ?_⟩, hTF⟩
    have hpw := (hF'.1 l hl).1.2
    by_cases hlt : l = t
    · subst hlt
      have hcut := hpw.sublist (cut_sub (Ls := Ls) (hlh l hl))
      unfold cutL at hcut
      obtain ⟨c1, c2, c3⟩ := List.pairwise_append.mp hcut
      have hoe : ∀ f ∈ Ls l, ∀ q ∈ fE f, ent D' q = ent D0 q := fun f hf q hq => hFe l hl q (lvE_get hf hq)
      rw [newL_t]
      refine List.pairwise_append.mpr ⟨c1, List.pairwise_append.mpr ⟨?_, c2, ?_⟩, ?_⟩
      · refine List.Pairwise.imp_of_mem ?_ hX.2.2.2.1
        intro f g hf hg hfg p hp q hq
        rw [eky_of (hnE p (lvE_get hf hp)), eky_of (hnE q (lvE_get hg hq))]
        exact hfg p hp q hq
      · intro f hf g hg p hp q hq
        obtain ⟨y, hy, e⟩ := hny p (lvE_get hf hp)
        rw [eky_of e, eky_of (hoe g (List.mem_of_mem_drop hg) q hq)]
        exact hok.2.1 g hg q hq y hy
      · intro f hf g hg p hp q hq
        rcases List.mem_append.mp hg with z | z
        · obtain ⟨y, hy, e⟩ := hny q (lvE_get z hq)
          rw [eky_of e, eky_of (hoe f (List.mem_of_mem_take hf) p hp)]
          exact hok.1 f hf p hp y hy
        · exact c3 f hf g z p hp q hq
    · rw [newL_ne _ _ _ _ hlt]
      exact hpw.sublist (cut_sub (hlh l hl))
  · exact (hbr.perm (blk_perm hlh ht htk hnb)).sub (List.sublist_append_right _ _)
  · intro k hk p hp q hq e
    rcases newL_lv hq with zq | ⟨ekt, zq⟩
    · obtain ⟨hq1, hq2⟩ := hcl k hk q zq
      rw [eky_of hq2] at e
      rw [ecm_of hq2]
      rcases up_new hp with ⟨hw, z⟩ | ⟨l, hl, z⟩ | ⟨hl, z⟩
      · rw [eky_of (heE hw p z)] at e
        rw [ecm_of (heE hw p z)]
        exact hS.1 k hk p (up_le (Nat.zero_le _) z) q hq1 e
      · obtain ⟨a1, a2⟩ := hcl l (by omega) p z
        rw [eky_of a2] at e
        rw [ecm_of a2]
        exact hS.1 k hk p (up_le (show l + 1 ≤ k by omega) (List.mem_append_right _ a1)) q hq1 e
      · obtain ⟨y, hy, a2⟩ := hny p z
        rw [eky_of a2] at e
        rw [ecm_of a2]
        exact hS.1 k hk y (up_le (show t + 1 ≤ k by omega) (hok.up hPk hy)) q hq1 e
    · subst ekt
      obtain ⟨y, hy, b2⟩ := hny q zq
      rw [eky_of b2] at e
      rw [ecm_of b2]
      rcases up_new hp with ⟨hw, z⟩ | ⟨l, hl, z⟩ | ⟨hl, z⟩
      · rw [eky_of (heE hw p z)] at e
        rw [ecm_of (heE hw p z)]
        rcases pks_mem (hPk y hy) with ⟨hw', -⟩ | ⟨l, hl, z'⟩
        · exact absurd hw' hw
        · exact hS.1 l hl p (up_le (Nat.zero_le _) z) y ((seg_sub _ _ _).subset z') e
      · obtain ⟨a1, a2⟩ := hcl l (by omega) p z
        rw [eky_of a2] at e
        rw [ecm_of a2]
        exact hok.2.2.2 l hl y hy p z e.symm
      · omega
  · intro p hp
    rcases hmem p hp with z | z
    · rw [ecm_of (heK p z).2]; exact hS.2.1.1 p (heK p z).1
    · obtain ⟨y, hy, e⟩ := hny p z
      rw [ecm_of e]; exact hS.2.1.1 y (hPu y hy)
  · have hTs : T.Pairwise (pre D0) := hPs.sublist hT.1
    have hns : (lvE ns).Pairwise (pre D') := map_pw hnm hTs
    have hko : ∀ p ∈ kps wl E Ls lo hi 3, ∀ q ∈ lvE ns, eky D' p = eky D' q → ecm D' p = ecm D' q → False := fun p hp q hq e1 e2 => by
      obtain ⟨y, hy, e⟩ := hny q hq
      rw [eky_of (heK p hp).2, eky_of e] at e1
      rw [ecm_of (heK p hp).2, ecm_of e] at e2
      rcases hok.kp hS.1 hlh hPk hp hy e1 with z | ⟨l, -, -, -, z⟩ <;> omega
    intro p hp q hq e1 e2
    rcases hmem p hp with zp | zp <;> rcases hmem q hq with zq | zq
    · rw [eky_of (heK p zp).2, eky_of (heK q zq).2] at e1
      rw [ecm_of (heK p zp).2, ecm_of (heK q zq).2] at e2
      exact hS.2.1.2 p (heK p zp).1 q (heK q zq).1 e1 e2
    · exact (hko p zp q zq e1 e2).elim
    · exact (hko q zq p zp e1.symm e2.symm).elim
    · rcases pw_tri hns zp zq with z | z | z
      · exact z
      · exact absurd ⟨e1, e2⟩ (pre_same z)
      · exact absurd ⟨e1.symm, e2.symm⟩ (pre_same z)
  · intro p hp
    rcases hmem p hp with z | z
    · obtain ⟨a, b⟩ := heK p z
      exact ⟨ent_wf b (hS.2.2.1 p a).1, by rw [ecm_of b]; exact (hS.2.2.1 p a).2⟩
    · obtain ⟨y, hy, e⟩ := hny p z
      exact ⟨ent_wf e (hS.2.2.1 y (hPu y hy)).1, by rw [ecm_of e]; exact (hS.2.2.1 y (hPu y hy)).2⟩
  · have l1 := (up_perm' (wl := wl) (E := E) (Ls := Ls) (lo := lo) (hi := hi) (ns := ns) ht).length_eq
    have l2 := (up_perm (wl := wl) (E := E) (Ls := Ls) hlh).length_eq
    have l3 := congrArg List.length hnm
    have l4 := hT.1.length_le
    have l5 := hPp.length_eq
    have l6 := hS.2.2.2.1
    rw [List.length_append] at l1 l2
    rw [List.length_map, List.length_map] at l3
    omega
