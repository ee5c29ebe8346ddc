/-! ===== a commit ===== -/
theorem MSet.ex : ∀ {m : Mp}, Srt m → ∀ (k : List Nat) (o : Option (List Nat)), ∃ m', MSet m k o m'
  | [], _, k, o => ⟨_, [], [], (fun _ h => by cases h), (fun _ h => by cases h), Or.inl rfl, rfl⟩
  | a :: m, h, k, o => by
    have h1 := List.pairwise_cons.mp h
    rcases klt_tri a.1 k with z | z | z
    · obtain ⟨m', A, B, hA, hB, hm, rfl⟩ := MSet.ex h1.2 k o
      refine ⟨_, a :: A, B, fun x hx => ?_, hB, ?_, rfl⟩
      · rcases List.mem_cons.mp hx with e | e
        · rw [e]; exact z
        · exact hA x e
      · rcases hm with rfl | ⟨v, rfl⟩
        · exact Or.inl rfl
        · exact Or.inr ⟨v, rfl⟩
    · refine ⟨_, [], m, (fun _ h => by cases h), fun x hx => ?_, Or.inr ⟨a.2, ?_⟩, rfl⟩
      · rw [← z]; exact h1.1 x hx
      · rw [← z]; rfl
    · refine ⟨_, [], a :: m, (fun _ h => by cases h), fun x hx => ?_, Or.inl rfl, rfl⟩
      rcases List.mem_cons.mp hx with e | e
      · rw [e]; exact z
      · exact klt_trans _ _ _ z (h1.1 x e)
theorem MSets.ex : ∀ (ss : List Sp) {m : Mp}, Srt m → ∃ m', MSets m ss m'
  | [], m, _ => ⟨m, rfl⟩
  | s :: ss, m, h => by
    obtain ⟨m1, h1⟩ := MSet.ex h s.2.1 (spo s)
    obtain ⟨m2, h2⟩ := MSets.ex ss (h1.srt h)
    exact ⟨m2, m1, h1, h2⟩
theorem MSet.uniq {m a b : Mp} {k : List Nat} {o : Option (List Nat)} (hs : Srt m) (h : MSet m k o a) (g : MSet m k o b) : a = b := by
  refine Srt.ext (h.srt hs) (g.srt hs) (fun x => ?_)
  obtain ⟨x, y⟩ := x
  rw [h.mem, g.mem]
theorem MSets.uniq : ∀ {ss : List Sp} {m a b : Mp}, Srt m → MSets m ss a → MSets m ss b → a = b
  | [], m, a, b, _, h, g => by cases h; cases g; rfl
  | s :: ss, m, a, b, hs, h, g => by
    obtain ⟨m1, h1, h2⟩ := h
    obtain ⟨m2, g1, g2⟩ := g
    cases h1.uniq hs g1
    exact MSets.uniq (h1.srt hs) h2 g2
/-- what an insertion of a row of entries leaves -/
theorem InsL.in {D : Nat → Int32} : ∀ {ps E E' : List Nat}, InsL D E ps E' → ∀ q, q ∈ E' ↔ (q ∈ E ∧ ∀ p ∈ ps, ¬ (eky D q = eky D p ∧ ecm D q = ecm D p)) ∨ ∃ i : Nat, ps[i]? = some q ∧ ∀ (j p : Nat), i < j → ps[j]? = some p → ¬ (eky D q = eky D p ∧ ecm D q = ecm D p)
  | [], E, E', h, q => by
    cases h
    constructor
    · intro z; exact Or.inl ⟨z, fun p hp => by cases hp⟩
    · rintro (z | ⟨i, hi, -⟩)
      · exact z.1
      · simp at hi
  | a :: as, E, E', h, q => by
    obtain ⟨E1, h1, h2⟩ := h
    rw [InsL.in h2 q, h1.2.1 q]
    constructor
    · rintro (⟨z | ⟨z1, z2⟩, z3⟩ | ⟨i, z1, z2⟩)
      · subst z
        refine Or.inr ⟨0, rfl, fun j p hj hp => ?_⟩
        cases j with
        | zero => omega
        | succ j => exact z3 p (List.mem_of_getElem? hp)
      · refine Or.inl ⟨z1, fun p hp => ?_⟩
        rcases List.mem_cons.mp hp with e | e
        · rw [e]; exact z2
        · exact z3 p e
      · refine Or.inr ⟨i + 1, z1, fun j p hj hp => ?_⟩
        cases j with
        | zero => omega
        | succ j => exact z2 j p (by omega) hp
    · rintro (⟨z1, z2⟩ | ⟨i, z1, z2⟩)
      · exact Or.inl ⟨Or.inr ⟨z1, z2 a List.mem_cons_self⟩, fun p hp => z2 p (List.mem_cons_of_mem _ hp)⟩
      · cases i with
        | zero =>
          cases z1
          refine Or.inl ⟨Or.inl rfl, fun p hp => ?_⟩
          obtain ⟨j, hj⟩ := List.getElem?_of_mem hp
          exact z2 (j + 1) p (by omega) hj
        | succ i => exact Or.inr ⟨i, z1, fun j p hj hp => z2 (j + 1) p (by omega) hp⟩
/-- a record that was cut counts for nothing -/
theorem cut_pure {D R : Nat → Int32} {g ar us cm c n gm L r : Nat} {Ls : Nat → List zF} {rs : List (List Nat)} {E : List Nat} {m : Mp} (hU : Dur D g ar us cm c n gm Ls rs E m) (hn : n ≤ 64) (hbl : ∀ p, us ≤ p → p < 18432 → D (4096 + ar * 18432 + p) = 0) (hL : 2 ≤ L) (hLu : us + (L + 1) < 18432) (hnu : nuN R 0 2 = L - 2) (hr : r < L + 1) : Dur (va_cpy R D 0 (4096 + ar * 18432 + us) r) g ar us cm c n gm Ls rs E m := by
  obtain ⟨D', hD'⟩ : ∃ D', D' = va_cpy R D 0 (4096 + ar * 18432 + us) r := ⟨_, rfl⟩
  rw [← hD']
  have har := hU.1.1
  have hout : ∀ p, (p < 4096 + ar * 18432 + us ∨ 4096 + ar * 18432 + us + r ≤ p) → D' p = D p := fun p hp => by rw [hD', pk_cpy_out hp]
  have hsz := (hU.sz hn).1
  obtain ⟨a1, a2, a3, a4, a5, a6, a7⟩ := hU
  obtain ⟨b1, b2⟩ := a2.keep (D' := D') (fun p hp => hout p (by have := (a2.2.1 _ hp).1; omega))
  have hE := a3.ea (D' := D') (fun p h1 h2 => hout p (by omega))
  obtain ⟨l1, l2, l3, l4, l5, l6, l7⟩ := id a3
  have hEe : ∀ p ∈ E, ent D' p = ent D p := fun p hp => by
    rcases l4.mem p hp with z | z
    · cases z
    · exact (hE p z).en
  have hst : Stop D' (4096 + ar * 18432) us := by
    refine Classical.byContradiction (fun hc => ?_)
    unfold Stop at hc
    have h1 : us + nuN D' (4096 + ar * 18432 + us) 2 + 3 ≤ 18432 := Nat.le_of_not_lt (fun z => hc (Or.inl z))
    have h2 : zb (D' (4096 + ar * 18432 + us + 2 + nuN D' (4096 + ar * 18432 + us) 2)) = 165 := Classical.byContradiction (fun z => hc (Or.inr z))
    have h3 : 2 + nuN D' (4096 + ar * 18432 + us) 2 < r := by
      refine Nat.lt_of_not_le (fun z => ?_)
      rw [hout _ (Or.inr (by omega)), show 4096 + ar * 18432 + us + 2 + nuN D' (4096 + ar * 18432 + us) 2 = 4096 + ar * 18432 + (us + 2 + nuN D' (4096 + ar * 18432 + us) 2) by omega, hbl _ (by omega) (by omega), zb_0] at h2
      cases h2
    have h4 : nuN D' (4096 + ar * 18432 + us) 2 = nuN R 0 2 := by
      show (0 * 256 + zb (D' (4096 + ar * 18432 + us + 0))) * 256 + zb (D' (4096 + ar * 18432 + us + 1)) = (0 * 256 + zb (R (0 + 0))) * 256 + zb (R (0 + 1))
      rw [hD', pk_cpy_in (by omega) (by omega), pk_cpy_in (by omega) (by omega), Nat.add_sub_cancel_left, Nat.add_sub_cancel_left]
    omega
  exact ⟨a1.keep hsz (fun p hp => hout p (by omega)), b1, ⟨l1.keep (fun p h1 h2 => hout p (by omega)), hst, fun ps hps => Eall.eb (fun p hp => hE p ⟨ps, hps, hp⟩) (l3 ps hps), l4.keep (fun p hp => hE p (hp.elim (fun z => by cases z) id)), l5, l6, l7⟩, a4.keep (fun p hp => (up_mem.mp hp).elim (hEe p) (fun ⟨l, hl, z⟩ => b2 l hl p z)), a5, a6, a7⟩
set_option maxHeartbeats 4000000 in
theorem commit_pure {D R : Nat → Int32} {g ar us cm c n n' gm L : Nat} {Ls : Nat → List zF} {rs : List (List Nat)} {E E' offs : List Nat} {m m' : Mp} (hU : Dur D g ar us cm c n gm Ls rs E m) (hn : n ≤ n') (hn' : n' ≤ 64) (hbl : ∀ p, us ≤ p → p < 18432 → D (4096 + ar * 18432 + p) = 0) (hL : 2 ≤ L) (hc1 : offs.length + n ≤ n') (hc2 : n + 1 ≤ n') (hc3 : us + (L + 1) ≤ 243 * n')
    (hch : Chn R 2 offs L) (hw : ∀ p ∈ offs, Ewf R p ∧ ecm R p = c + 1) (hnu : nuN R 0 2 = L - 2) (hmk : zb (R L) = 165) (hm : MSets m (offs.map (esp R)) m') (hI : InsL (va_cpy R D 0 (4096 + ar * 18432 + us) (L + 1)) E (offs.map (4096 + ar * 18432 + us + ·)) E') :
    Dur (va_cpy R D 0 (4096 + ar * 18432 + us) (L + 1)) g ar (us + (L + 1)) cm (c + 1) n' gm Ls (rs ++ [offs.map (4096 + ar * 18432 + us + ·)]) E' m' ∧ ∀ w, w ≤ c → ∀ k x, vw ((up E' Ls 3).map (ent (va_cpy R D 0 (4096 + ar * 18432 + us) (L + 1)))) w k x ↔ vw ((up E Ls 3).map (ent D)) w k x := by
  obtain ⟨D', hD'⟩ : ∃ D', D' = va_cpy R D 0 (4096 + ar * 18432 + us) (L + 1) := ⟨_, rfl⟩
  obtain ⟨s, hs⟩ : ∃ s, s = 4096 + ar * 18432 + us := ⟨_, rfl⟩
  rw [← hD'] at hI ⊢
  rw [← hs] at hI ⊢
  have har := hU.1.1
  have hout : ∀ p, (p < s ∨ s + (L + 1) ≤ p) → D' p = D p := fun p hp => by rw [hD', ← hs, pk_cpy_out hp]
  have hin : ∀ j, j < L + 1 → D' (s + j) = R j := fun j hj => by rw [hD', ← hs, pk_cpy_in (by omega) (by omega), Nat.add_sub_cancel_left, Nat.zero_add]
  have hsz := (hU.sz (by omega)).1
  obtain ⟨a1, a2, a3, a4, a5, a6, a7⟩ := id hU
  obtain ⟨b1, b2⟩ := a2.keep (D' := D') (fun p hp => hout p (by have := (a2.2.1 _ hp).1; omega))
  have hE := a3.ea (D' := D') (fun p h1 h2 => hout p (by omega))
  obtain ⟨l1, l2, l3, l4, l5, l6, l7⟩ := id a3
  have hEe : ∀ p ∈ E, ent D' p = ent D p := fun p hp => by
    rcases l4.mem p hp with z | z
    · cases z
    · exact (hE p z).en
  have hnu' : nuN D' s 2 = L - 2 := by
    rw [← hnu]
    show (0 * 256 + zb (D' (s + 0))) * 256 + zb (D' (s + 1)) = (0 * 256 + zb (R (0 + 0))) * 256 + zb (R (0 + 1))
    rw [hin 0 (by omega), hin 1 (by omega)]
  have hle := hch.le
  -- the new entries
  have hsh : ∀ p ∈ offs, zb (D' (s + p)) = zb (R p) ∧ ekl D' (s + p) = ekl R p ∧ evl D' (s + p) = evl R p ∧ eky D' (s + p) = eky R p ∧ eva D' (s + p) = eva R p ∧ ecm D' (s + p) = ecm R p := fun p hp => Esame.shift (fun j h1 h2 => hin j (by have := hle.2 p hp; omega))
  have hnm : ∀ q ∈ offs.map (s + ·), ∃ p ∈ offs, q = s + p := fun q hq => by
    obtain ⟨p, hp, e⟩ := List.mem_map.mp hq
    exact ⟨p, hp, e.symm⟩
  have hnc : ∀ q ∈ offs.map (s + ·), ecm D' q = c + 1 := fun q hq => by
    obtain ⟨p, hp, e⟩ := hnm q hq
    rw [e, (hsh p hp).2.2.2.2.2]; exact (hw p hp).2
  have hnb : Eb D' (offs.map (s + ·)) := fun q hq => by
    obtain ⟨p, hp, e⟩ := hnm q hq
    have h1 := hle.2 p hp
    exact ⟨by omega, by rw [hnc q hq]; omega⟩
  have hold : ∀ p ∈ up E Ls 3, ent D' p = ent D p := fun p hp => (up_mem.mp hp).elim (hEe p) (fun ⟨l, hl, z⟩ => b2 l hl p z)
  have hoc : ∀ p ∈ up E Ls 3, ecm D' p ≤ c := fun p hp => by rw [ecm_of (hold p hp)]; exact (a4.2.2.1 p hp).2
  obtain ⟨N, hN⟩ : ∃ N : Nat → Prop, ∀ q, N q ↔ ∃ i : Nat, (offs.map (s + ·))[i]? = some q ∧ ∀ (j p : Nat), i < j → (offs.map (s + ·))[j]? = some p → eky D' q ≠ eky D' p := ⟨fun q => ∃ i : Nat, (offs.map (s + ·))[i]? = some q ∧ ∀ (j p : Nat), i < j → (offs.map (s + ·))[j]? = some p → eky D' q ≠ eky D' p, fun _ => Iff.rfl⟩
  have hNo : ∀ q, N q → q ∈ offs.map (s + ·) := fun q hq => by
    obtain ⟨i, hi, -⟩ := (hN q).mp hq
    exact List.mem_of_getElem? hi
  have hEm : ∀ q, q ∈ E' ↔ q ∈ E ∨ N q := fun q => by
    rw [hI.in q, hN q]
    constructor
    · rintro (z | ⟨i, z1, z2⟩)
      · exact Or.inl z.1
      · exact Or.inr ⟨i, z1, fun j p hj hp he => z2 j p hj hp ⟨he, by rw [hnc q (List.mem_of_getElem? z1), hnc p (List.mem_of_getElem? hp)]⟩⟩
    · rintro (z | ⟨i, z1, z2⟩)
      · refine Or.inl ⟨z, fun p hp he => ?_⟩
        have h1 := hoc q (up_mem.mpr (Or.inl z))
        have h2 := hnc p hp
        omega
      · exact Or.inr ⟨i, z1, fun j p hj hp he => z2 j p hj hp he.1⟩
  have hum : ∀ k, k ≤ 3 → ∀ q, q ∈ up E' Ls k ↔ N q ∨ q ∈ up E Ls k := fun k => by
    induction k with
    | zero => intro _ q; show q ∈ E' ↔ N q ∨ q ∈ E; rw [hEm q]; exact or_comm
    | succ k ih =>
      intro hk q
      show q ∈ up E' Ls k ++ lvE (Ls k) ↔ N q ∨ q ∈ up E Ls k ++ lvE (Ls k)
      rw [List.mem_append, List.mem_append, ih (by omega) q, or_assoc]
  have hNu : ∀ p q, N p → N q → eky D' p = eky D' q → p = q := fun p q hp hq he => by
    obtain ⟨i, i1, i2⟩ := (hN p).mp hp
    obtain ⟨j, j1, j2⟩ := (hN q).mp hq
    rcases Nat.lt_trichotomy i j with z | z | z
    · exact absurd he (i2 j q z j1)
    · rw [z, j1] at i1; exact (Option.some.inj i1).symm
    · exact absurd he.symm (j2 i p z i1)
  have hNs : ∀ q, N q → lastS (offs.map (esp R)) (eky D' q) (esp D' q) := fun q hq => by
    obtain ⟨i, i1, i2⟩ := (hN q).mp hq
    rw [List.getElem?_map] at i1
    obtain ⟨p, hp, e⟩ := Option.map_eq_some_iff.mp i1
    have hpo := List.mem_of_getElem? hp
    have he : esp D' q = esp R p := by
      unfold esp
      rw [← e, (hsh p hpo).1, (hsh p hpo).2.2.2.1, (hsh p hpo).2.2.2.2.1]
    refine ⟨i, by rw [List.getElem?_map, hp, he]; rfl, rfl, fun j t hj ht => ?_⟩
    rw [List.getElem?_map] at ht
    obtain ⟨p', hp', e'⟩ := Option.map_eq_some_iff.mp ht
    have h9 := i2 j (s + p') hj (by rw [List.getElem?_map, hp']; rfl)
    rw [(hsh p' (List.mem_of_getElem? hp')).2.2.2.1] at h9
    rw [← e']
    exact fun z => h9 z.symm
  have hsN : ∀ x t, lastS (offs.map (esp R)) x t → ∃ q, N q ∧ eky D' q = x ∧ esp D' q = t := fun x t ht => by
    obtain ⟨i, i1, i2, i3⟩ := ht
    rw [List.getElem?_map] at i1
    obtain ⟨p, hp, e⟩ := Option.map_eq_some_iff.mp i1
    have hpo := List.mem_of_getElem? hp
    have he : esp D' (s + p) = t := by
      rw [← e]
      unfold esp
      rw [(hsh p hpo).1, (hsh p hpo).2.2.2.1, (hsh p hpo).2.2.2.2.1]
    have hk : eky D' (s + p) = x := by rw [← i2, ← he]; rfl
    refine ⟨s + p, (hN _).mpr ⟨i, by rw [List.getElem?_map, hp]; rfl, fun j q hj hq => ?_⟩, hk, he⟩
    rw [List.getElem?_map] at hq
    obtain ⟨p', hp', e'⟩ := Option.map_eq_some_iff.mp hq
    have h9 := i3 j (esp R p') hj (by rw [List.getElem?_map, hp']; rfl)
    rw [hk, ← e', (hsh p' (List.mem_of_getElem? hp')).2.2.2.1]
    exact fun z => h9 z.symm
  obtain ⟨f1, f2, f3⟩ := hI.facts (Eall.eb (fun p hp => by rcases l4.mem p hp with z | z; cases z; exact hE p z) ((l4.facts (fun q hq => by cases hq) List.Pairwise.nil l3).1)) (Eall.srt (fun p hp => by rcases l4.mem p hp with z | z; cases z; exact hE p z) ((l4.facts (fun q hq => by cases hq) List.Pairwise.nil l3).2.1)) hnb
  have hview : ∀ w, w ≤ c → ∀ k x, vw ((up E' Ls 3).map (ent D')) w k x ↔ vw ((up E Ls 3).map (ent D)) w k x := fun w hwc k x => by
    constructor
    · rintro ⟨e, h1, h2, h3, h4, h5, h6⟩
      obtain ⟨q, hq, rfl⟩ := List.mem_map.mp h1
      rcases (hum 3 (by decide) q).mp hq with z | z
      · have h7 : ecm D' q ≤ w := h3
        rw [hnc q (hNo q z)] at h7
        omega
      · rw [hold q z] at *
        exact ⟨ent D q, List.mem_map_of_mem z, h2, h3, h4, h5, fun f hf => by
          obtain ⟨y, hy, rfl⟩ := List.mem_map.mp hf
          have := h6 (ent D' y) (List.mem_map_of_mem ((hum 3 (by decide) y).mpr (Or.inr hy)))
          rw [hold y hy] at this
          exact this⟩
    · rintro ⟨e, h1, h2, h3, h4, h5, h6⟩
      obtain ⟨q, hq, rfl⟩ := List.mem_map.mp h1
      refine ⟨ent D q, by rw [← hold q hq]; exact List.mem_map_of_mem ((hum 3 (by decide) q).mpr (Or.inr hq)), h2, h3, h4, h5, fun f hf hfk hfw => ?_⟩
      obtain ⟨y, hy, rfl⟩ := List.mem_map.mp hf
      rcases (hum 3 (by decide) y).mp hy with z | z
      · have h7 : ecm D' y ≤ w := hfw
        rw [hnc y (hNo y z)] at h7
        omega
      · rw [hold y z] at hfk hfw ⊢
        exact h6 _ (List.mem_map_of_mem z) hfk hfw
  refine ⟨⟨a1.keep hsz (fun p hp => hout p (by omega)), b1, ⟨?_, ?_, ?_, ?_, by omega, ?_, ?_⟩, ⟨?_, ⟨?_, ?_⟩, ?_, ?_, ?_⟩, ?_, by omega, a7⟩, hview⟩
  · refine (l1.keep (D' := D') (fun p h1 h2 => hout p (by omega))).snoc ?_
    rw [hs] at hnu'
    refine ⟨?_, ?_, ?_, ?_⟩
    · rw [hnu', ← hs, show s + 2 + (L - 2) = s + L by omega]
      exact hch.shift (fun j h1 h2 => hin j (by omega))
    · rw [hnu', ← hs, show s + 2 + (L - 2) = s + L by omega, hin L (by omega)]; exact hmk
    · rw [hnu']; omega
    · rw [hnu']; show us + (L - 2) + 3 = us + (L + 1); omega
  · refine Stop.blank (by omega) (fun p h1 h2 => ?_)
    rw [hout p (Or.inr (by omega))]
    have := hbl (p - (4096 + ar * 18432)) (by omega) (by omega)
    rw [show 4096 + ar * 18432 + (p - (4096 + ar * 18432)) = p by omega] at this
    exact this
  · intro ps hps
    rcases List.mem_append.mp hps with z | z
    · exact Eall.eb (fun p hp => hE p ⟨ps, z, hp⟩) (l3 ps z)
    · rw [List.mem_singleton.mp z]; exact hnb
  · exact (l4.keep (fun p hp => hE p (hp.elim (fun z => by cases z) id))).snoc hI
  · rw [List.map_append, List.sum_append]
    simp
    omega
  · rw [List.length_append, List.length_singleton]; omega
  · intro k hk p hp q hq he
    have hqu : q ∈ up E Ls 3 := up_mem.mpr (Or.inr ⟨k, hk, hq⟩)
    rcases (hum k (by omega) p).mp hp with z | z
    · rw [hnc p (hNo p z)]
      have := hoc q hqu
      omega
    · have hpu : p ∈ up E Ls 3 := up_le (by omega) z
      rw [eky_of (hold p hpu), eky_of (hold q hqu)] at he
      rw [ecm_of (hold p hpu), ecm_of (hold q hqu)]
      exact a4.1 k hk p z q hq he
  · intro p hp
    rcases (hum 3 (by decide) p).mp hp with z | z
    · rw [hnc p (hNo p z)]; omega
    · rw [ecm_of (hold p z)]; exact a4.2.1.1 p z
  · intro p hp q hq e1 e2
    rcases (hum 3 (by decide) p).mp hp with zp | zp <;> rcases (hum 3 (by decide) q).mp hq with zq | zq
    · exact hNu p q zp zq e1
    · have h1 := hnc p (hNo p zp)
      have h2 := hoc q zq
      omega
    · have h1 := hnc q (hNo q zq)
      have h2 := hoc p zp
      omega
    · rw [eky_of (hold p zp), eky_of (hold q zq)] at e1
      rw [ecm_of (hold p zp), ecm_of (hold q zq)] at e2
      exact a4.2.1.2 p zp q zq e1 e2
  · intro p hp
    rcases (hum 3 (by decide) p).mp hp with z | z
    · refine ⟨?_, by rw [hnc p (hNo p z)]; exact Nat.le_refl _⟩
      obtain ⟨y, hy, e⟩ := hnm p (hNo p z)
      obtain ⟨h1, h2, h3, -⟩ := hsh y hy
      have hwf := (hw y hy).1
      unfold Ewf at hwf ⊢
      rw [e, h1, h2, h3]; exact hwf
    · exact ⟨ent_wf (hold p z) (a4.2.2.1 p z).1, Nat.le_succ_of_le (hoc p z)⟩
  · have e1 : (up E' Ls 3).length = E'.length + (lvE (Ls 0)).length + (lvE (Ls 1)).length + (lvE (Ls 2)).length := by
      show (((E' ++ lvE (Ls 0)) ++ lvE (Ls 1)) ++ lvE (Ls 2)).length = _
      simp only [List.length_append]
    have e2 : (up E Ls 3).length = E.length + (lvE (Ls 0)).length + (lvE (Ls 1)).length + (lvE (Ls 2)).length := by
      show (((E ++ lvE (Ls 0)) ++ lvE (Ls 1)) ++ lvE (Ls 2)).length = _
      simp only [List.length_append]
    have e3 := a4.2.2.2.1
    rw [List.length_map] at f3
    omega
  · intro k x
    rw [hm.mem k x]
    constructor
    · rintro ⟨e, h1, h2, h3, h4, h5, h6⟩
      obtain ⟨q, hq, rfl⟩ := List.mem_map.mp h1
      have h2' : eky D' q = k := h2
      rcases (hum 3 (by decide) q).mp hq with z | z
      · refine Or.inl ⟨esp D' q, h2' ▸ hNs q z, ?_⟩
        have h4' : zb (D' q) = 1 := h4
        unfold spo esp
        rw [if_pos h4']
        exact congrArg some h5
      · refine Or.inr ⟨fun t ht hx => ?_, ?_⟩
        · obtain ⟨i, hi⟩ := List.getElem?_of_mem ht
          obtain ⟨u, hu⟩ : ∃ u, lastS (offs.map (esp R)) k u := by
            have key : ∀ (l : List Sp) (t : Sp), t ∈ l → t.2.1 = k → ∃ u, lastS l k u := by
              intro l
              induction l with
              | nil => intro t ht; cases ht
              | cons a l ih =>
                intro t ht hx
                by_cases h0 : ∃ u ∈ l, u.2.1 = k
                · obtain ⟨u, hu, hux⟩ := h0
                  obtain ⟨y, i, b1, b2, b3⟩ := ih u hu hux
                  refine ⟨y, i + 1, b1, b2, fun j v hj hv => ?_⟩
                  cases j with
                  | zero => omega
                  | succ j => exact b3 j v (by omega) hv
                · rcases List.mem_cons.mp ht with rfl | ht
                  · refine ⟨t, 0, rfl, hx, fun j v hj hv he => ?_⟩
                    cases j with
                    | zero => omega
                    | succ j => exact h0 ⟨v, List.mem_of_getElem? hv, he⟩
                  · exact absurd ⟨t, ht, hx⟩ h0
            exact key _ t ht hx
          obtain ⟨y, hy1, hy2, -⟩ := hsN k u hu
          have h7 := h6 (ent D' y) (List.mem_map_of_mem ((hum 3 (by decide) y).mpr (Or.inl hy1))) hy2 (by show ecm D' y ≤ _; rw [hnc y (hNo y hy1)]; omega)
          have h8 : ecm D' y ≤ ecm D' q := h7
          rw [hnc y (hNo y hy1)] at h8
          have := hoc q z
          omega
        · refine (a4.2.2.2.2 k x).mp ⟨ent D q, List.mem_map_of_mem z, ?_, ?_, ?_, ?_, fun f hf hfk hfw => ?_⟩
          · rw [← hold q z]; exact h2
          · rw [← hold q z]; exact h3
          · rw [← hold q z]; exact h4
          · rw [← hold q z]; exact h5
          · obtain ⟨y, hy, rfl⟩ := List.mem_map.mp hf
            rw [← hold y hy] at hfk hfw ⊢
            rw [← hold q z]
            exact h6 _ (List.mem_map_of_mem ((hum 3 (by decide) y).mpr (Or.inr hy))) hfk hfw
    · rintro (⟨t, ht, ho⟩ | ⟨hno, hx⟩)
      · obtain ⟨q, hq1, hq2, hq3⟩ := hsN k t ht
        rw [← hq3] at ho
        have h4 : zb (D' q) = 1 := by
          refine Classical.byContradiction (fun z => ?_)
          unfold spo esp at ho
          rw [if_neg z] at ho
          cases ho
        have h5 : eva D' q = x := by
          unfold spo esp at ho
          rw [if_pos h4] at ho
          exact Option.some.inj ho
        refine ⟨ent D' q, List.mem_map_of_mem ((hum 3 (by decide) q).mpr (Or.inl hq1)), hq2, by show ecm D' q ≤ _; rw [hnc q (hNo q hq1)]; omega, h4, h5, fun f hf hfk hfw => ?_⟩
        obtain ⟨y, hy, rfl⟩ := List.mem_map.mp hf
        show ecm D' y ≤ ecm D' q
        rw [hnc q (hNo q hq1)]
        rcases (hum 3 (by decide) y).mp hy with z | z
        · rw [hnc y (hNo y z)]; exact Nat.le_refl _
        · exact Nat.le_succ_of_le (hoc y z)
      · obtain ⟨e, h1, h2, h3, h4, h5, h6⟩ := (a4.2.2.2.2 k x).mpr hx
        obtain ⟨q, hq, rfl⟩ := List.mem_map.mp h1
        refine ⟨ent D q, by rw [← hold q hq]; exact List.mem_map_of_mem ((hum 3 (by decide) q).mpr (Or.inr hq)), h2, h3, h4, h5, fun f hf hfk hfw => ?_⟩
        obtain ⟨y, hy, rfl⟩ := List.mem_map.mp hf
        rcases (hum 3 (by decide) y).mp hy with z | z
        · exfalso
          obtain ⟨i, i1, i2, -⟩ := hNs y z
          refine hno _ (List.mem_of_getElem? i1) ?_
          have h8 : eky D' y = k := hfk
          exact i2.trans h8
        · rw [hold y z] at hfk hfw ⊢
          exact h6 _ (List.mem_map_of_mem z) hfk hfw
  · rw [List.length_append, List.length_singleton]; omega
