/-! ===== what settle picks may be joined ===== -/
theorem take_ix {fs : List zF} {a : Nat} {f : zF} (h : f ∈ fs.take a) : ∃ j, j < a ∧ fs[j]? = some f := by
  obtain ⟨j, hj⟩ := List.getElem?_of_mem h
  have hl := (List.getElem?_eq_some_iff.mp hj).1
  rw [List.length_take] at hl
  rw [List.getElem?_take_of_lt (by omega)] at hj
  exact ⟨j, by omega, hj⟩
theorem drop_ix {fs : List zF} {a : Nat} {f : zF} (h : f ∈ fs.drop a) : ∃ j, a ≤ j ∧ fs[j]? = some f := by
  obtain ⟨j, hj⟩ := List.getElem?_of_mem h
  rw [List.getElem?_drop] at hj
  exact ⟨a + j, by omega, hj⟩
theorem seg_ix {fs : List zF} {a b q : Nat} (h : q ∈ seg fs a b) : ∃ j f, a ≤ j ∧ j < b ∧ fs[j]? = some f ∧ q ∈ fE f := by
  obtain ⟨f, hf, hq⟩ := lvE_cases h
  obtain ⟨j, hj1, hj2⟩ := drop_ix hf
  have hl := (List.getElem?_eq_some_iff.mp hj2).1
  rw [List.length_take] at hl
  rw [List.getElem?_take_of_lt (by omega)] at hj2
  exact ⟨j, f, hj1, by omega, hj2, hq⟩
theorem LC.lt {D : Nat → Int32} {fs : List zF} {i j p q : Nat} {f g : zF} (h : LC D fs) (hij : i < j) (hf : fs[i]? = some f) (hg : fs[j]? = some g) (hp : p ∈ fE f) (hq : q ∈ fE g) : klt (eky D p) (eky D q) := pw_get h.2 hij hf hg p hp q hq
theorem srt_fst {D : Nat → Int32} {E : List Nat} {p q : Nat} (h : E.Pairwise (pre D)) (hp : E[0]? = some p) (hq : q ∈ E) : q = p ∨ pre D p q := by
  obtain ⟨j, hj⟩ := List.getElem?_of_mem hq
  rcases Nat.eq_zero_or_pos j with e | e
  · subst e; rw [hj] at hp; cases hp; exact Or.inl rfl
  · exact Or.inr (pw_get h e hp hj)
theorem srt_lst {D : Nat → Int32} {E : List Nat} {p q : Nat} (h : E.Pairwise (pre D)) (hp : E[E.length - 1]? = some p) (hq : q ∈ E) : q = p ∨ pre D q p := by
  obtain ⟨j, hj⟩ := List.getElem?_of_mem hq
  have hl := (List.getElem?_eq_some_iff.mp hj).1
  rcases Nat.lt_or_ge j (E.length - 1) with e | e
  · exact Or.inr (pw_get h e hj hp)
  · rw [show E.length - 1 = j by omega, hj] at hp; cases hp; exact Or.inl rfl
/-- the picks into level 0: the log's, and a to below b -/
theorem pok_log {D : Nat → Int32} {E : List Nat} {Ls : Nat → List zF} {a b p q : Nat} {lo hi : Nat → Nat} (hlo : ∀ l, lo l = if l = 0 then a else 0) (hhi : ∀ l, hi l = if l = 0 then b else 0) (hC : LC D (Ls 0)) (hs : E.Pairwise (pre D)) (hab : a ≤ b) (hO : Ov D (Ls 0) a b p q) (hp : E[0]? = some p) (hq : E[E.length - 1]? = some q) : ∀ P, P.Perm (pks 1 E Ls lo hi 3) → Pok D Ls lo hi 0 P := by
  intro P hP
  have hc : ∀ y ∈ P, y ∈ E ∨ y ∈ seg (Ls 0) a b := fun y hy => by
    rcases pks_mem (hP.mem_iff.mp hy) with ⟨-, z⟩ | ⟨l, hl, z⟩
    · exact Or.inl z
    · rw [hlo, hhi] at z
      by_cases e : l = 0
      · subst e; rw [if_pos rfl, if_pos rfl] at z; exact Or.inr z
      · rw [if_neg e, if_neg e, seg_self] at z; cases z
  refine ⟨fun f hf e he y hy => ?_, fun f hf e he y hy => ?_, fun l h1 h2 => by rw [hlo, hhi, if_neg (by omega), if_neg (by omega)], fun l hl => by omega⟩
  · rw [hlo, if_pos rfl] at hf
    obtain ⟨j, hj1, hj2⟩ := take_ix hf
    rcases hc y hy with z | z
    · exact pre_kltF (srt_fst hs hp z) (hO.1 j f hj1 hj2 e he)
    · obtain ⟨j', g, a1, a2, a3, a4⟩ := seg_ix z
      exact hC.lt (by omega) hj2 a3 he a4
  · rw [hhi, if_pos rfl] at hf
    obtain ⟨j, hj1, hj2⟩ := drop_ix hf
    rcases hc y hy with z | z
    · exact pre_kltT (srt_lst hs hq z) (hO.2 j f hj1 hj2 e he)
    · obtain ⟨j', g, a1, a2, a3, a4⟩ := seg_ix z
      exact hC.lt (by omega) a3 hj2 a4 he
theorem pok_nil {D : Nat → Int32} {Ls : Nat → List zF} {lo hi : Nat → Nat} {wl : Nat} (hlo : ∀ l, lo l = 0) (hhi : ∀ l, hi l = 0) : ∀ P, P.Perm (pks wl [] Ls lo hi 3) → Pok D Ls lo hi 0 P := by
  intro P hP
  have hc : ∀ y ∈ P, False := fun y hy => by
    rcases pks_mem (hP.mem_iff.mp hy) with ⟨-, z⟩ | ⟨l, hl, z⟩
    · cases z
    · rw [hlo, hhi, seg_self] at z; cases z
  exact ⟨fun f hf e he y hy => (hc y hy).elim, fun f hf e he y hy => (hc y hy).elim, fun l h1 h2 => by rw [hlo, hhi], fun l hl => by omega⟩
/-- the picks into level i + 1: the file k of level i, and a to below b -/
theorem pok_lvl {D : Nat → Int32} {E : List Nat} {Ls : Nat → List zF} {i k a b p q : Nat} {f0 : zF} {lo hi : Nat → Nat} (hi2 : i < 2) (hlo : ∀ l, lo l = if l = i then k else if l = i + 1 then a else 0) (hhi : ∀ l, hi l = if l = i then k + 1 else if l = i + 1 then b else 0) (hC : ∀ l, l < 3 → LC D (Ls l)) (hN : Nwr D E Ls) (hab : a ≤ b) (hk : (Ls i)[k]? = some f0) (hfi : ∀ y ∈ fE f0, y = p ∨ pre D p y) (hla : ∀ y ∈ fE f0, y = q ∨ pre D y q) (hO : Ov D (Ls (i + 1)) a b p q) : ∀ P, P.Perm (pks 0 E Ls lo hi 3) → Pok D Ls lo hi (i + 1) P := by
  intro P hP
  have hc : ∀ y ∈ P, y ∈ fE f0 ∨ y ∈ seg (Ls (i + 1)) a b := fun y hy => by
    rcases pks_mem (hP.mem_iff.mp hy) with ⟨z, -⟩ | ⟨l, hl, z⟩
    · cases z
    · rw [hlo, hhi] at z
      by_cases e : l = i
      · subst e
        rw [if_pos rfl, if_pos rfl] at z
        obtain ⟨j, g, a1, a2, a3, a4⟩ := seg_ix z
        rw [show j = k by omega, hk] at a3
        cases a3
        exact Or.inl a4
      · by_cases e2 : l = i + 1
        · subst e2; rw [if_neg e, if_neg e, if_pos rfl, if_pos rfl] at z; exact Or.inr z
        · rw [if_neg e, if_neg e, if_neg e2, if_neg e2, seg_self] at z; cases z
  have hl1 : lo (i + 1) = a := by rw [hlo, if_neg (by omega), if_pos rfl]
  have hh1 : hi (i + 1) = b := by rw [hhi, if_neg (by omega), if_pos rfl]
  refine ⟨fun f hf e he y hy => ?_, fun f hf e he y hy => ?_, fun l h1 h2 => by rw [hlo, hhi, if_neg (by omega), if_neg (by omega), if_neg (by omega), if_neg (by omega)], fun l hl y hy x hx he => ?_⟩
  · rw [hl1] at hf
    obtain ⟨j, hj1, hj2⟩ := take_ix hf
    rcases hc y hy with z | z
    · exact pre_kltF (hfi y z) (hO.1 j f hj1 hj2 e he)
    · obtain ⟨j', g, a1, a2, a3, a4⟩ := seg_ix z
      exact (hC (i + 1) (by omega)).lt (by omega) hj2 a3 he a4
  · rw [hh1] at hf
    obtain ⟨j, hj1, hj2⟩ := drop_ix hf
    rcases hc y hy with z | z
    · exact pre_kltT (hla y z) (hO.2 j f hj1 hj2 e he)
    · obtain ⟨j', g, a1, a2, a3, a4⟩ := seg_ix z
      exact (hC (i + 1) (by omega)).lt (by omega) a3 hj2 a4 he
  · have hlh : lo l ≤ hi l := by
      rw [hlo, hhi]
      by_cases e : l = i
      · rw [if_pos e, if_pos e]; omega
      · rw [if_neg e, if_neg e, if_neg (by omega), if_neg (by omega)]; omega
    have hx' := (lvE_sub (cut_sub (Ls := Ls) hlh)).subset hx
    rcases hc y hy with z | z
    · by_cases e : l = i
      · subst e
        exfalso
        unfold cutL at hx
        rw [hlo, hhi, if_pos rfl, if_pos rfl, lvE_app] at hx
        rcases List.mem_append.mp hx with w | w
        · obtain ⟨f, hf, hq⟩ := lvE_cases w
          obtain ⟨j, hj1, hj2⟩ := take_ix hf
          have := (hC l (by omega)).lt hj1 hj2 hk hq z
          rw [he] at this
          exact klt_irrefl _ this
        · obtain ⟨f, hf, hq⟩ := lvE_cases w
          obtain ⟨j, hj1, hj2⟩ := drop_ix hf
          have := (hC l (by omega)).lt (show k < j by omega) hk hj2 z hq
          rw [he] at this
          exact klt_irrefl _ this
      · exact hN i (by omega) x (up_le (show l + 1 ≤ i by omega) (List.mem_append_right _ hx')) y (lvE_get (List.mem_of_getElem? hk) z) he.symm
    · exact hN (i + 1) (by omega) x (up_le (show l + 1 ≤ i + 1 by omega) (List.mem_append_right _ hx')) y ((seg_sub _ _ _).subset z) he.symm
/-- all that there is is joined -/
theorem pok_all {D : Nat → Int32} {E : List Nat} {Ls : Nat → List zF} {lo hi : Nat → Nat} {wl : Nat} (hlo : ∀ l, lo l = 0) (hhi : ∀ l, l < 3 → hi l = (Ls l).length) : ∀ P, P.Perm (pks wl E Ls lo hi 3) → Pok D Ls lo hi 2 P := by
  intro P hP
  refine ⟨fun f hf => ?_, fun f hf => ?_, fun l h1 h2 => by omega, fun l hl y hy x hx => ?_⟩
  · rw [hlo, List.take_zero] at hf; cases hf
  · rw [hhi 2 (by decide), List.drop_length] at hf; cases hf
  · unfold cutL at hx
    rw [hlo, hhi l (by omega), List.take_zero, List.drop_length] at hx
    cases hx
