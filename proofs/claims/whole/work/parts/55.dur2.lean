/-! ===== the head on the disk; what lasts, all together ===== -/
theorem hdB_gn {D : Nat → Int32} {st g ar cm : Nat} {Ls : Nat → List zF} (h : Rc (fun i => D (st + i)) (hdB g ar cm Ls)) (hg : g < 2 ^ 31) (hsz : (eLs Ls 3).length ≤ 1900) : gnA D st = g ∧ nuN D st 4 = g ∧ zb (D st) < 128 := by
  have h4 : nuN D st 4 = g := nuN_nb (k := 4) (Rc.left h) (Nat.lt_of_lt_of_le hg (by decide))
  have h2 : nuN D (st + 4) 2 = 11 + (eLs Ls 3).length := by
    refine nuN_nb (k := 2) ?_ (Nat.lt_of_le_of_lt (show 11 + (eLs Ls 3).length ≤ 1911 by omega) (by decide))
    have h9 := Rc.mid (A := nb g 4) (B := nb (11 + (eLs Ls 3).length) 2) (C := nb ar 1 ++ (nb cm 4 ++ (eLs Ls 3 ++ [165]))) h rfl
    rw [nb_len] at h9
    intro i b hi
    show zb (D (st + 4 + i)) = b
    rw [Nat.add_assoc]
    exact h9 i b hi
  have hm : zb (D (st + (11 + (eLs Ls 3).length))) = 165 := by
    refine h _ _ ?_
    have e : hdB g ar cm Ls = (nb g 4 ++ (nb (11 + (eLs Ls 3).length) 2 ++ (nb ar 1 ++ (nb cm 4 ++ eLs Ls 3)))) ++ [165] := by
      unfold hdB
      simp only [List.append_assoc]
    have el : (nb g 4 ++ (nb (11 + (eLs Ls 3).length) 2 ++ (nb ar 1 ++ (nb cm 4 ++ eLs Ls 3)))).length = 11 + (eLs Ls 3).length := by
      simp only [List.length_append, nb_len]
      omega
    rw [e, List.getElem?_append_right (by omega), el, Nat.sub_self]
    rfl
  refine ⟨?_, h4, ?_⟩
  · unfold gnA
    rw [h2, if_neg, h4]
    rintro (z | z | z)
    · omega
    · omega
    · exact z hm
  · have h0 : zb (D (st + 0)) = g / 256 ^ 3 % 256 := h 0 (g / 256 ^ 3 % 256) rfl
    rw [Nat.add_zero, show (256 : Nat) ^ 3 = 16777216 from by decide] at h0
    omega
theorem gnA_cut1 {D D' : Nat → Int32} {st r : Nat} (h : ∀ i, i < 2048 → D' (st + i) = if i < r then 0 else D (st + i)) : gnA D' st ≤ gnA D st := by
  by_cases hr : 4 ≤ r
  · have h0 : nuN D' st 4 = 0 := nuN_zero (fun i hi => by rw [h i (by omega), if_pos (by omega)]; exact zb_0)
    have h1 : gnA D' st = 0 := by
      unfold gnA
      rw [h0]
      split <;> rfl
    omega
  · have h2 : nuN D' (st + 4) 2 = nuN D (st + 4) 2 := nuN_congr (fun i hi => by rw [Nat.add_assoc, h (4 + i) (by omega), if_neg (by omega)])
    have h4 : nuN D' st 4 ≤ nuN D st 4 := nuN_le (fun i hi => by
      rw [h i (by omega)]
      by_cases hi2 : i < r
      · rw [if_pos hi2, zb_0]; exact Nat.zero_le _
      · rw [if_neg hi2]; exact Nat.le_refl _)
    unfold gnA
    rw [h2]
    by_cases hc : nuN D (st + 4) 2 ≤ 4 ∨ 2048 ≤ nuN D (st + 4) 2
    · rw [if_pos (hc.imp id Or.inl)]; exact Nat.zero_le _
    · have hlt : 4 < nuN D (st + 4) 2 ∧ nuN D (st + 4) 2 < 2048 := by omega
      rw [h _ hlt.2, if_neg (show ¬ nuN D (st + 4) 2 < r by omega)]
      rcases Classical.em (nuN D (st + 4) 2 ≤ 4 ∨ 2048 ≤ nuN D (st + 4) 2 ∨ zb (D (st + nuN D (st + 4) 2)) ≠ 165) with z | z
      · rw [if_pos z]; exact Nat.zero_le _
      · rw [if_neg z, if_neg z]; exact h4
theorem gnA_cut2 {D : Nat → Int32} {st r g ar cm : Nat} {Ls : Nat → List zF} (hsz : (eLs Ls 3).length ≤ 1900) (hr : r < (hdB g ar cm Ls).length) (h1 : Rc (fun i => D (st + i)) ((hdB g ar cm Ls).take r)) (h2 : ∀ i, r ≤ i → i < 2048 → D (st + i) = 0) : gnA D st = 0 := by
  rw [hdB_len] at hr
  unfold gnA
  refine Classical.byContradiction (fun hc => ?_)
  have hn : ¬ (nuN D (st + 4) 2 ≤ 4 ∨ 2048 ≤ nuN D (st + 4) 2 ∨ zb (D (st + nuN D (st + 4) 2)) ≠ 165) := fun z => hc (if_pos z)
  have hw : 4 < nuN D (st + 4) 2 ∧ nuN D (st + 4) 2 < 2048 := by
    refine ⟨Nat.lt_of_not_le (fun z => hn (Or.inl z)), Nat.lt_of_not_le (fun z => hn (Or.inr (Or.inl z)))⟩
  have hwr : nuN D (st + 4) 2 < r := by
    refine Nat.lt_of_not_le (fun z => hn (Or.inr (Or.inr ?_)))
    rw [h2 _ z hw.2, zb_0]
    decide
  by_cases h6 : 6 ≤ r
  · have h9 : nuN D (st + 4) 2 = 11 + (eLs Ls 3).length := by
      refine nuN_nb (k := 2) ?_ (Nat.lt_of_le_of_lt (show 11 + (eLs Ls 3).length ≤ 1911 by omega) (by decide))
      intro i b hi
      have hi2 := (List.getElem?_eq_some_iff.mp hi).1
      rw [nb_len] at hi2
      show zb (D (st + 4 + i)) = b
      rw [Nat.add_assoc]
      refine h1 (4 + i) b ?_
      rw [List.getElem?_take_of_lt (by omega)]
      unfold hdB
      rw [List.getElem?_append_right (by rw [nb_len]; omega), nb_len, Nat.add_sub_cancel_left, List.getElem?_append_left (by rw [nb_len]; omega)]
      exact hi
    omega
  · omega
/-- the head that counts, and the other place -/
def HdS (D : Nat → Int32) (g ar cm : Nat) (Ls : Nat → List zF) : Prop :=
  ar ≤ 1 ∧ zb (D 0) < 128 ∧ zb (D 2048) < 128 ∧ ((g = 0 ∧ ar = 0 ∧ cm = 0 ∧ (∀ l, l < 3 → Ls l = []) ∧ gnA D 0 = 0 ∧ gnA D 2048 = 0) ∨ (1 ≤ g ∧ Rc (fun i => D (g % 2 * 2048 + i)) (hdB g ar cm Ls) ∧ gnA D ((g + 1) % 2 * 2048) < g))
theorem HdS.keep {D D' : Nat → Int32} {g ar cm : Nat} {Ls : Nat → List zF} (h : HdS D g ar cm Ls) (hsz : (eLs Ls 3).length ≤ 1900) (hD : ∀ p, p < 4096 → D' p = D p) : HdS D' g ar cm Ls := by
  obtain ⟨h1, h2, h3, h4⟩ := h
  refine ⟨h1, by rw [hD 0 (by decide)]; exact h2, by rw [hD 2048 (by decide)]; exact h3, ?_⟩
  rcases h4 with ⟨a, b, c, d, e, f⟩ | ⟨a, b, c⟩
  · exact Or.inl ⟨a, b, c, d, by rw [gnA_congr (fun i hi => hD _ (by omega))]; exact e, by rw [gnA_congr (fun i hi => hD _ (by omega))]; exact f⟩
  · have hm := Nat.mod_lt g (show 2 > 0 by decide)
    have hm2 := Nat.mod_lt (g + 1) (show 2 > 0 by decide)
    refine Or.inr ⟨a, b.congr (fun i hi => hD _ ?_), by rw [gnA_congr (fun i hi => hD _ (by omega))]; exact c⟩
    rw [hdB_len] at hi
    omega
theorem HdS.oth {D D' : Nat → Int32} {g ar cm : Nat} {Ls : Nat → List zF} (h : HdS D g ar cm Ls) (hsz : (eLs Ls 3).length ≤ 1900) (hD : ∀ p, (p < (g + 1) % 2 * 2048 ∨ (g + 1) % 2 * 2048 + 2048 ≤ p) → D' p = D p) (h1 : gnA D' ((g + 1) % 2 * 2048) ≤ gnA D ((g + 1) % 2 * 2048)) (h2 : zb (D' ((g + 1) % 2 * 2048)) < 128) : HdS D' g ar cm Ls := by
  obtain ⟨a1, a2, a3, a4⟩ := h
  have hm := Nat.mod_lt g (show 2 > 0 by decide)
  have hm2 := Nat.mod_lt (g + 1) (show 2 > 0 by decide)
  have hmm : (g + 1) % 2 = 1 - g % 2 := by omega
  refine ⟨a1, ?_, ?_, ?_⟩
  · rcases (show (g + 1) % 2 = 0 ∨ (g + 1) % 2 = 1 by omega) with e | e
    · rw [e, Nat.zero_mul] at h2; exact h2
    · rw [hD 0 (Or.inl (by omega))]; exact a2
  · rcases (show (g + 1) % 2 = 0 ∨ (g + 1) % 2 = 1 by omega) with e | e
    · rw [hD 2048 (Or.inr (by omega))]; exact a3
    · rw [e, Nat.one_mul] at h2; exact h2
  · rcases a4 with ⟨a, b, c, d, e, f⟩ | ⟨a, b, c⟩
    · subst a
      have h3 : gnA D' 2048 ≤ gnA D 2048 := h1
      refine Or.inl ⟨rfl, b, c, d, ?_, by omega⟩
      rw [gnA_congr (D := D) (fun i hi => hD _ (Or.inl (by omega)))]
      exact e
    · refine Or.inr ⟨a, b.congr (fun i hi => hD _ ?_), by omega⟩
      rw [hdB_len] at hi
      omega
theorem HdS.next {D D' : Nat → Int32} {g ar cm ar' cm' : Nat} {Ls Ls' : Nat → List zF} (h : HdS D g ar cm Ls) (hsz : (eLs Ls 3).length ≤ 1900) (hsz' : (eLs Ls' 3).length ≤ 1900) (hg : g + 1 < 2 ^ 31) (har : ar' ≤ 1) (hD : ∀ p, (p < (g + 1) % 2 * 2048 ∨ (g + 1) % 2 * 2048 + 2048 ≤ p) → D' p = D p) (hR : Rc (fun i => D' ((g + 1) % 2 * 2048 + i)) (hdB (g + 1) ar' cm' Ls')) : HdS D' (g + 1) ar' cm' Ls' := by
  obtain ⟨a1, a2, a3, a4⟩ := h
  obtain ⟨b1, b2, b3⟩ := hdB_gn hR hg hsz'
  have hm := Nat.mod_lt g (show 2 > 0 by decide)
  have hm2 := Nat.mod_lt (g + 1) (show 2 > 0 by decide)
  have hmm : (g + 1) % 2 = 1 - g % 2 := by omega
  have hmo : (g + 1 + 1) % 2 = g % 2 := by omega
  refine ⟨har, ?_, ?_, Or.inr ⟨by omega, hR, ?_⟩⟩
  · rcases (show (g + 1) % 2 = 0 ∨ (g + 1) % 2 = 1 by omega) with e | e
    · rw [e, Nat.zero_mul] at b3; exact b3
    · rw [hD 0 (Or.inl (by omega))]; exact a2
  · rcases (show (g + 1) % 2 = 0 ∨ (g + 1) % 2 = 1 by omega) with e | e
    · rw [hD 2048 (Or.inr (by omega))]; exact a3
    · rw [e, Nat.one_mul] at b3; exact b3
  · rw [hmo, gnA_congr (D := D) (fun i hi => hD _ (by omega))]
    rcases a4 with ⟨a, b, c, d, e, f⟩ | ⟨a, b, c⟩
    · subst a
      have e2 : gnA D (0 % 2 * 2048) = 0 := e
      omega
    · rw [(hdB_gn b (by omega) hsz).1]
      omega
/-- a head that was cut: the old one counts, or the new one is whole -/
theorem HdS.cut {D D' : Nat → Int32} {g ar cm ar' cm' : Nat} {Ls Ls' : Nat → List zF} (h : HdS D g ar cm Ls) (hsz : (eLs Ls 3).length ≤ 1900) (hsz' : (eLs Ls' 3).length ≤ 1900) (hg : g + 1 < 2 ^ 31) (hD : ∀ p, (p < (g + 1) % 2 * 2048 ∨ (g + 1) % 2 * 2048 + 2048 ≤ p) → D' p = D p)
    (hc : (∃ r, r ≤ 2048 ∧ ∀ i, i < 2048 → D' ((g + 1) % 2 * 2048 + i) = if i < r then 0 else D ((g + 1) % 2 * 2048 + i)) ∨ (∃ r, r ≤ (hdB (g + 1) ar' cm' Ls').length ∧ Rc (fun i => D' ((g + 1) % 2 * 2048 + i)) ((hdB (g + 1) ar' cm' Ls').take r) ∧ ∀ i, r ≤ i → i < 2048 → D' ((g + 1) % 2 * 2048 + i) = 0)) :
    HdS D' g ar cm Ls ∨ Rc (fun i => D' ((g + 1) % 2 * 2048 + i)) (hdB (g + 1) ar' cm' Ls') := by
  have hz : zb (D ((g + 1) % 2 * 2048)) < 128 := by
    have hm2 := Nat.mod_lt (g + 1) (show 2 > 0 by decide)
    rcases (show (g + 1) % 2 = 0 ∨ (g + 1) % 2 = 1 by omega) with e | e
    · rw [e, Nat.zero_mul]; exact h.2.1
    · rw [e, Nat.one_mul]; exact h.2.2.1
  rcases hc with ⟨r, hr, h1⟩ | ⟨r, hr, h1, h2⟩
  · refine Or.inl (h.oth hsz hD (gnA_cut1 h1) ?_)
    have h0 := h1 0 (by decide)
    rw [Nat.add_zero] at h0
    rw [h0]
    by_cases hr0 : 0 < r
    · rw [if_pos hr0, zb_0]; decide
    · rw [if_neg hr0]; exact hz
  · rcases Nat.lt_or_ge r (hdB (g + 1) ar' cm' Ls').length with hl | hl
    · refine Or.inl (h.oth hsz hD (by rw [gnA_cut2 hsz' hl h1 h2]; exact Nat.zero_le _) ?_)
      rcases Nat.eq_zero_or_pos r with e | e
      · have h0 := h2 0 (by omega) (by decide)
        rw [Nat.add_zero] at h0
        rw [h0, zb_0]; decide
      · have h0 : zb (D' ((g + 1) % 2 * 2048 + 0)) = (g + 1) / 256 ^ 3 % 256 := h1 0 ((g + 1) / 256 ^ 3 % 256) (by rw [List.getElem?_take_of_lt e]; rfl)
        rw [Nat.add_zero, show (256 : Nat) ^ 3 = 16777216 from by decide] at h0
        omega
    · rw [List.take_of_length_le hl] at h1
      exact Or.inr h1
/-- all that lasts: generation, area and bytes of the log, commits in files, commits, bounds; files, records, the log's entries; the map -/
def Dur (D : Nat → Int32) (g ar us cm c n gm : Nat) (Ls : Nat → List zF) (rs : List (List Nat)) (E : List Nat) (m : Mp) : Prop :=
  HdS D g ar cm Ls ∧ Fok D Ls ∧ LgS D ar us n rs E ∧ Sem D E Ls c n m ∧ c = cm + rs.length ∧ c ≤ n ∧ g ≤ gm
theorem Dur.sz {D : Nat → Int32} {g ar us cm c n gm : Nat} {Ls : Nat → List zF} {rs : List (List Nat)} {E : List Nat} {m : Mp} (h : Dur D g ar us cm c n gm Ls rs E m) (hn : n ≤ 64) : (eLs Ls 3).length ≤ 1900 ∧ bks' Ls 3 ≤ 64 ∧ (bks Ls 3).length ≤ 128 ∧ E.length ≤ 64 := by
  obtain ⟨a, b, c, d⟩ := up_cnt (E := E) (fun l hl => (h.2.1.1 l hl).1)
  have := h.2.2.2.1.2.2.2.1
  omega
theorem Dur.keep {D D' : Nat → Int32} {g ar us cm c n gm : Nat} {Ls : Nat → List zF} {rs : List (List Nat)} {E : List Nat} {m : Mp} (h : Dur D g ar us cm c n gm Ls rs E m) (hn : n ≤ 64) (h1 : ∀ p, p < 4096 → D' p = D p) (h2 : ∀ p, 4096 + ar * 18432 ≤ p → p < 4096 + ar * 18432 + 18432 → D' p = D p) (h3 : ∀ p, p / 512 ∈ bks Ls 3 → D' p = D p) : Dur D' g ar us cm c n gm Ls rs E m := by
  have hsz := (h.sz hn).1
  obtain ⟨a1, a2, a3, a4, a5, a6, a7⟩ := h
  obtain ⟨b1, b2⟩ := a2.keep h3
  obtain ⟨c1, c2⟩ := a3.keep hn h2
  exact ⟨a1.keep hsz h1, b1, c1, a4.keep (fun p hp => (up_mem.mp hp).elim (c2 p) (fun ⟨l, hl, z⟩ => b2 l hl p z)), a5, a6, a7⟩
theorem Dur.mono {D : Nat → Int32} {g ar us cm c n gm n' gm' : Nat} {Ls : Nat → List zF} {rs : List (List Nat)} {E : List Nat} {m : Mp} (h : Dur D g ar us cm c n gm Ls rs E m) (hn : n ≤ n') (hg : gm ≤ gm') : Dur D g ar us cm c n' gm' Ls rs E m := by
  obtain ⟨a1, a2, ⟨b1, b2, b3, b4, b5, b6, b7⟩, ⟨c1, c2, c3, c4, c5⟩, a5, a6, a7⟩ := h
  exact ⟨a1, a2, ⟨b1, b2, b3, b4, by omega, by omega, by omega⟩, ⟨c1, c2, c3, by omega, c5⟩, a5, by omega, by omega⟩
