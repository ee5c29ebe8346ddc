/-! ===== what lasts on the disk ===== -/
theorem nuN_congr {D D' : Nat → Int32} {p : Nat} : ∀ {k : Nat}, (∀ i, i < k → D' (p + i) = D (p + i)) → nuN D' p k = nuN D p k
  | 0, _ => rfl
  | k + 1, h => by
    show nuN D' p k * 256 + zb (D' (p + k)) = nuN D p k * 256 + zb (D (p + k))
    rw [nuN_congr (fun i hi => h i (by omega)), h k (by omega)]
theorem nuN_le {D D' : Nat → Int32} {p : Nat} : ∀ {k : Nat}, (∀ i, i < k → zb (D' (p + i)) ≤ zb (D (p + i))) → nuN D' p k ≤ nuN D p k
  | 0, _ => Nat.le_refl _
  | k + 1, h => by
    show nuN D' p k * 256 + zb (D' (p + k)) ≤ nuN D p k * 256 + zb (D (p + k))
    have h1 := nuN_le (k := k) (fun i hi => h i (by omega))
    have h2 := h k (by omega)
    omega
theorem nuN_zero {D : Nat → Int32} {p : Nat} : ∀ {k : Nat}, (∀ i, i < k → zb (D (p + i)) = 0) → nuN D p k = 0
  | 0, _ => rfl
  | k + 1, h => by
    show nuN D p k * 256 + zb (D (p + k)) = 0
    rw [nuN_zero (fun i hi => h i (by omega)), h k (by omega)]
theorem zb_0 : zb 0 = 0 := by decide
theorem nuN4_lt {D : Nat → Int32} {p : Nat} (h : zb (D p) < 128) : nuN D p 4 < 2 ^ 31 := by
  have h1 := zb_lt (D (p + 1))
  have h2 := zb_lt (D (p + 2))
  have h3 := zb_lt (D (p + 3))
  show (((0 * 256 + zb (D (p + 0))) * 256 + zb (D (p + 1))) * 256 + zb (D (p + 2))) * 256 + zb (D (p + 3)) < 2 ^ 31
  rw [Nat.add_zero]
  omega
theorem gnA_congr {D D' : Nat → Int32} {st : Nat} (h : ∀ i, i < 2048 → D' (st + i) = D (st + i)) : gnA D' st = gnA D st := by
  have h1 : nuN D' (st + 4) 2 = nuN D (st + 4) 2 := nuN_congr (fun i hi => by rw [Nat.add_assoc]; exact h (4 + i) (by omega))
  have h2 : nuN D' st 4 = nuN D st 4 := nuN_congr (fun i hi => h i (by omega))
  unfold gnA
  rw [h1, h2]
  by_cases hl : nuN D (st + 4) 2 < 2048
  · rw [h _ hl]
  · rw [if_pos (Or.inr (Or.inl (by omega))), if_pos (Or.inr (Or.inl (by omega)))]
theorem flat_ge : ∀ {css : List (List Nat)}, (∀ c ∈ css, c ≠ []) → css.length ≤ css.flatten.length
  | [], _ => Nat.le_refl _
  | c :: css, h => by
    have h1 := flat_ge (css := css) (fun x hx => h x (List.mem_cons_of_mem _ hx))
    have h2 : 1 ≤ c.length := by
      cases c with
      | nil => exact absurd rfl (h [] List.mem_cons_self)
      | cons a b => rw [List.length_cons]; omega
    rw [List.flatten_cons, List.length_append, List.length_cons]
    omega
theorem TC.cnt {D : Nat → Int32} {bl : List Nat} {css : List (List Nat)} (h : TC D bl css) : bl.length ≤ 2 * css.flatten.length ∧ 1 ≤ css.flatten.length := by
  have h1 : css.length ≤ css.flatten.length := flat_ge (fun c hc => by
    obtain ⟨i, hi⟩ := List.getElem?_of_mem hc
    have hl := (List.getElem?_eq_some_iff.mp hi).1
    obtain ⟨ps, hp, -⟩ := h.2.2.2.2.1 i _ c (List.getElem?_eq_getElem (show i < bl.length by have := h.1; omega)) hi
    rw [hp]; exact List.cons_ne_nil _ _)
  have h2 := h.1
  have h3 := h.2.1
  omega
theorem LC.cnt {D : Nat → Int32} : ∀ {fs : List zF}, LC D fs → fs.length ≤ (lvE fs).length ∧ (bk fs).length ≤ 2 * (lvE fs).length ∧ (eLv fs).length ≤ 2 + 5 * (lvE fs).length
  | [], _ => by simp [lvE, bk, eLv, nb_len]
  | f :: fs, h => by
    obtain ⟨h1, h2, h3⟩ := LC.cnt (fs := fs) ⟨fun g hg => h.1 g (List.mem_cons_of_mem _ hg), (List.pairwise_cons.mp h.2).2⟩
    obtain ⟨a, b⟩ := (h.1 f List.mem_cons_self).cnt
    have e1 : lvE (f :: fs) = fE f ++ lvE fs := rfl
    have e2 : bk (f :: fs) = f.2.1 ++ bk fs := rfl
    have e3 : (eLv (f :: fs)).length = (eLv fs).length + (1 + 2 * f.2.1.length) := by
      unfold eLv
      rw [List.map_cons, List.flatten_cons, List.length_append, List.length_append, List.length_append, nb_len, nb_len, eTb_len]
      omega
    have e4 : f.2.2.flatten = fE f := rfl
    rw [e4] at a b
    rw [e1, e2, e3, List.length_cons, List.length_append, List.length_append]
    omega
theorem up_cnt {D : Nat → Int32} {E : List Nat} {Ls : Nat → List zF} (h : ∀ l, l < 3 → LC D (Ls l)) : bks' Ls 3 ≤ (up E Ls 3).length ∧ (bks Ls 3).length ≤ 2 * (up E Ls 3).length ∧ (eLs Ls 3).length ≤ 6 + 5 * (up E Ls 3).length ∧ E.length ≤ (up E Ls 3).length := by
  obtain ⟨a1, a2, a3⟩ := (h 0 (by decide)).cnt
  obtain ⟨b1, b2, b3⟩ := (h 1 (by decide)).cnt
  obtain ⟨c1, c2, c3⟩ := (h 2 (by decide)).cnt
  have e1 : (up E Ls 3).length = E.length + (lvE (Ls 0)).length + (lvE (Ls 1)).length + (lvE (Ls 2)).length := by
    show (((E ++ lvE (Ls 0)) ++ lvE (Ls 1)) ++ lvE (Ls 2)).length = _
    simp only [List.length_append]
  have e2 : (bks Ls 3).length = (bk (Ls 0)).length + (bk (Ls 1)).length + (bk (Ls 2)).length := by
    show ((([] ++ bk (Ls 0)) ++ bk (Ls 1)) ++ bk (Ls 2)).length = _
    simp only [List.length_append, List.length_nil, Nat.zero_add]
  have e3 : (eLs Ls 3).length = (eLv (Ls 0)).length + (eLv (Ls 1)).length + (eLv (Ls 2)).length := by
    show ((([] ++ eLv (Ls 0)) ++ eLv (Ls 1)) ++ eLv (Ls 2)).length = _
    simp only [List.length_append, List.length_nil, Nat.zero_add]
  have e4 : bks' Ls 3 = 0 + (Ls 0).length + (Ls 1).length + (Ls 2).length := rfl
  omega
theorem up_mem {E : List Nat} {Ls : Nat → List zF} {p : Nat} : p ∈ up E Ls 3 ↔ p ∈ E ∨ ∃ l, l < 3 ∧ p ∈ lvE (Ls l) := by
  show p ∈ ((E ++ lvE (Ls 0)) ++ lvE (Ls 1)) ++ lvE (Ls 2) ↔ _
  simp only [List.mem_append]
  constructor
  · rintro (((h | h) | h) | h)
    · exact Or.inl h
    · exact Or.inr ⟨0, by decide, h⟩
    · exact Or.inr ⟨1, by decide, h⟩
    · exact Or.inr ⟨2, by decide, h⟩
  · rintro (h | ⟨l, hl, h⟩)
    · exact Or.inl (Or.inl (Or.inl h))
    · rcases (show l = 0 ∨ l = 1 ∨ l = 2 by omega) with e | e | e
      · subst e; exact Or.inl (Or.inl (Or.inr h))
      · subst e; exact Or.inl (Or.inr h)
      · subst e; exact Or.inr h
theorem bks_mem {Ls : Nat → List zF} {l b : Nat} {f : zF} (hl : l < 3) (hf : f ∈ Ls l) (hb : b ∈ f.2.1) : b ∈ bks Ls 3 := by
  have h1 : b ∈ bk (Ls l) := bk_mem hf hb
  have h2 : b ∈ bks Ls (l + 1) := List.mem_append_right _ h1
  exact (bks_le (show l + 1 ≤ 3 by omega)).subset h2
/-- the files are in order on the disk -/
def Fok (D : Nat → Int32) (Ls : Nat → List zF) : Prop := (∀ l, l < 3 → LC D (Ls l) ∧ ∀ f ∈ Ls l, TF D f) ∧ Br (bks Ls 3)
theorem Fok.keep {D D' : Nat → Int32} {Ls : Nat → List zF} (h : Fok D Ls) (hb : ∀ p, p / 512 ∈ bks Ls 3 → D' p = D p) : Fok D' Ls ∧ ∀ l, l < 3 → ∀ q ∈ lvE (Ls l), ent D' q = ent D q := by
  have h0 : ∀ l, l < 3 → ∀ f ∈ Ls l, ∀ p, p / 512 ∈ f.2.1 → D' p = D p := fun l hl f hf p hp => hb p (bks_mem hl hf hp)
  have h1 : ∀ l, l < 3 → ∀ f ∈ Ls l, TF D' f := fun l hl f hf => ((h.1 l hl).2 f hf).loc (h0 l hl f hf)
  have h2 : ∀ l, l < 3 → ∀ f ∈ Ls l, ∀ q ∈ fE f, ent D' q = ent D q := fun l hl f hf => ((h.1 l hl).2 f hf).ents (h0 l hl f hf)
  refine ⟨⟨fun l hl => ⟨⟨fun f hf => (h1 l hl f hf).1, ?_⟩, h1 l hl⟩, h.2⟩, fun l hl q hq => ?_⟩
  · refine List.Pairwise.imp_of_mem ?_ (h.1 l hl).1.2
    intro f g hf hg hfg p hp q hq
    rw [eky_of (h2 l hl f hf p hp), eky_of (h2 l hl g hg q hq)]
    exact hfg p hp q hq
  · obtain ⟨f, hf, hqf⟩ := lvE_cases hq
    exact h2 l hl f hf q hqf
theorem Recs.le {D : Nat → Int32} {b : Nat} : ∀ {rs : List (List Nat)} {a e : Nat}, Recs D b a rs e → a ≤ e
  | [], a, e, h => Nat.le_of_eq h
  | ps :: rs, a, e, h => by
    have := Recs.le h.2.2.2
    omega
theorem Recs.mem {D : Nat → Int32} {b : Nat} : ∀ {rs : List (List Nat)} {a e : Nat}, Recs D b a rs e → ∀ ps ∈ rs, ∀ p ∈ ps, b + a ≤ p ∧ p + eln D p ≤ b + e
  | [], a, e, h, ps, hps, _, _ => by cases hps
  | qs :: rs, a, e, h, ps, hps, p, hp => by
    have h1 := Recs.le h.2.2.2
    rcases List.mem_cons.mp hps with e1 | e1
    · subst e1
      have := h.1.le.2 p hp
      omega
    · have := Recs.mem h.2.2.2 ps e1 p hp
      omega
theorem Recs.keep {D D' : Nat → Int32} {b : Nat} : ∀ {rs : List (List Nat)} {a e : Nat}, Recs D b a rs e → (∀ p, b + a ≤ p → p < b + e → D' p = D p) → Recs D' b a rs e
  | [], a, e, h, _ => h
  | ps :: rs, a, e, h, hD => by
    obtain ⟨h1, h2, h3, h4⟩ := h
    have h5 := Recs.le h4
    have e1 : nuN D' (b + a) 2 = nuN D (b + a) 2 := nuN_congr (fun i hi => hD _ (by omega) (by omega))
    have e2 : D' (b + a + 2 + nuN D (b + a) 2) = D (b + a + 2 + nuN D (b + a) 2) := hD _ (by omega) (by omega)
    refine ⟨?_, ?_, ?_, ?_⟩
    · rw [e1]
      refine h1.same (fun p hp => (Eall.of (fun j hj1 hj2 => hD j ?_ ?_)).1)
      · have := h1.le.2 p hp; omega
      · have := h1.le.2 p hp; omega
    · rw [e1, e2]; exact h2
    · rw [e1]; exact h3
    · rw [e1]; exact Recs.keep h4 (fun p hp1 hp2 => hD p (by omega) hp2)
theorem Recs.snoc {D : Nat → Int32} {b : Nat} {ps : List Nat} {e' : Nat} : ∀ {rs : List (List Nat)} {a e : Nat}, Recs D b a rs e → Recs D b e [ps] e' → Recs D b a (rs ++ [ps]) e'
  | [], a, e, h, g => by cases h; exact g
  | qs :: rs, a, e, h, g => ⟨h.1, h.2.1, h.2.2.1, Recs.snoc h.2.2.2 g⟩
theorem Stop.keep {D D' : Nat → Int32} {b e : Nat} (h : Stop D b e) (he : e + 2 ≤ 18432) (hD : ∀ p, b + e ≤ p → p < b + 18432 → D' p = D p) : Stop D' b e := by
  have e1 : nuN D' (b + e) 2 = nuN D (b + e) 2 := nuN_congr (fun i hi => hD _ (by omega) (by omega))
  unfold Stop at *
  rw [e1]
  by_cases hl : 18432 < e + nuN D (b + e) 2 + 3
  · exact Or.inl hl
  · rw [hD _ (by omega) (by omega)]
    exact h
theorem Stop.blank {D : Nat → Int32} {b e : Nat} (he : e + 2 ≤ 18432) (hD : ∀ p, b + e ≤ p → p < b + 18432 → D p = 0) : Stop D b e := by
  have e1 : nuN D (b + e) 2 = 0 := nuN_zero (fun i hi => by rw [hD _ (by omega) (by omega)]; exact zb_0)
  unfold Stop
  rw [e1]
  by_cases hl : 18432 < e + 0 + 3
  · exact Or.inl hl
  · refine Or.inr ?_
    rw [hD _ (by omega) (by omega), zb_0]
    decide
theorem Ins.keep {D D' : Nat → Int32} {E E' : List Nat} {a : Nat} (h : Ins D E a E') (hE : ∀ p, p = a ∨ p ∈ E → Eall D D' p) : Ins D' E a E' := by
  obtain ⟨h1, h2, h3⟩ := h
  refine ⟨Eall.srt (fun p hp => hE p (((h2 p).mp hp).imp id And.left)) h1, fun q => ?_, h3⟩
  have ha := hE a (Or.inl rfl)
  rw [h2 q]
  constructor
  · rintro (z | ⟨z1, z2⟩)
    · exact Or.inl z
    · have hq := hE q (Or.inr z1)
      exact Or.inr ⟨z1, by rw [hq.1.2.2.2.1, ha.1.2.2.2.1, hq.2, ha.2]; exact z2⟩
  · rintro (z | ⟨z1, z2⟩)
    · exact Or.inl z
    · have hq := hE q (Or.inr z1)
      rw [hq.1.2.2.2.1, ha.1.2.2.2.1, hq.2, ha.2] at z2
      exact Or.inr ⟨z1, z2⟩
theorem InsL.mem {D : Nat → Int32} : ∀ {ps E E' : List Nat}, InsL D E ps E' → ∀ q ∈ E', q ∈ E ∨ q ∈ ps
  | [], E, E', h, q, hq => by cases h; exact Or.inl hq
  | a :: as, E, E', h, q, hq => by
    obtain ⟨E1, h1, h2⟩ := h
    rcases InsL.mem h2 q hq with z | z
    · rcases (h1.2.1 q).mp z with y | y
      · exact Or.inr (y ▸ List.mem_cons_self)
      · exact Or.inl y.1
    · exact Or.inr (List.mem_cons_of_mem _ z)
theorem InsL.keep {D D' : Nat → Int32} : ∀ {ps E E' : List Nat}, InsL D E ps E' → (∀ p, p ∈ E ∨ p ∈ ps → Eall D D' p) → InsL D' E ps E'
  | [], E, E', h, _ => h
  | a :: as, E, E', h, hE => by
    obtain ⟨E1, h1, h2⟩ := h
    refine ⟨E1, h1.keep (fun p hp => hE p (hp.elim (fun z => Or.inr (z ▸ List.mem_cons_self)) Or.inl)), h2.keep (fun p hp => ?_)⟩
    rcases hp with z | z
    · rcases (h1.2.1 p).mp z with y | y
      · exact hE p (Or.inr (y ▸ List.mem_cons_self))
      · exact hE p (Or.inl y.1)
    · exact hE p (Or.inr (List.mem_cons_of_mem _ z))
theorem InsR.mem {D : Nat → Int32} : ∀ {rs : List (List Nat)} {E E' : List Nat}, InsR D E rs E' → ∀ q ∈ E', q ∈ E ∨ ∃ ps ∈ rs, q ∈ ps
  | [], E, E', h, q, hq => by cases h; exact Or.inl hq
  | ps :: rs, E, E', h, q, hq => by
    obtain ⟨E1, h1, h2⟩ := h
    rcases InsR.mem h2 q hq with z | ⟨qs, z1, z2⟩
    · rcases h1.mem q z with y | y
      · exact Or.inl y
      · exact Or.inr ⟨ps, List.mem_cons_self, y⟩
    · exact Or.inr ⟨qs, List.mem_cons_of_mem _ z1, z2⟩
theorem InsR.keep {D D' : Nat → Int32} : ∀ {rs : List (List Nat)} {E E' : List Nat}, InsR D E rs E' → (∀ p, (p ∈ E ∨ ∃ ps ∈ rs, p ∈ ps) → Eall D D' p) → InsR D' E rs E'
  | [], E, E', h, _ => h
  | ps :: rs, E, E', h, hE => by
    obtain ⟨E1, h1, h2⟩ := h
    refine ⟨E1, h1.keep (fun p hp => hE p (hp.imp id (fun z => ⟨ps, List.mem_cons_self, z⟩))), h2.keep (fun p hp => ?_)⟩
    rcases hp with z | ⟨qs, z1, z2⟩
    · exact hE p ((h1.mem p z).imp id (fun y => ⟨ps, List.mem_cons_self, y⟩))
    · exact hE p (Or.inr ⟨qs, List.mem_cons_of_mem _ z1, z2⟩)
theorem InsL.uniq {D : Nat → Int32} : ∀ {ps E E' A B : List Nat}, InsL D E ps A → InsL D E' ps B → (∀ q, q ∈ E ↔ q ∈ E') → ∀ q, q ∈ A ↔ q ∈ B
  | [], E, E', A, B, h, g, he => by cases h; cases g; exact he
  | a :: as, E, E', A, B, h, g, he => by
    obtain ⟨E1, h1, h2⟩ := h
    obtain ⟨E2, g1, g2⟩ := g
    refine InsL.uniq h2 g2 (fun q => ?_)
    rw [h1.2.1, g1.2.1, he]
theorem InsR.uniq {D : Nat → Int32} : ∀ {rs : List (List Nat)} {E E' A B : List Nat}, InsR D E rs A → InsR D E' rs B → (∀ q, q ∈ E ↔ q ∈ E') → ∀ q, q ∈ A ↔ q ∈ B
  | [], E, E', A, B, h, g, he => by cases h; cases g; exact he
  | ps :: rs, E, E', A, B, h, g, he => by
    obtain ⟨E1, h1, h2⟩ := h
    obtain ⟨E2, g1, g2⟩ := g
    exact InsR.uniq h2 g2 (h1.uniq g1 he)
theorem InsR.facts {D : Nat → Int32} : ∀ {rs : List (List Nat)} {E E' : List Nat}, InsR D E rs E' → Eb D E → E.Pairwise (pre D) → (∀ ps ∈ rs, Eb D ps) → Eb D E' ∧ E'.Pairwise (pre D) ∧ E'.length ≤ E.length + (rs.map List.length).sum
  | [], E, E', h, h1, h2, _ => by cases h; exact ⟨h1, h2, Nat.le_add_right _ _⟩
  | ps :: rs, E, E', h, h1, h2, h3 => by
    obtain ⟨E1, g1, g2⟩ := h
    obtain ⟨a1, a2, a3⟩ := g1.facts h1 h2 (h3 ps List.mem_cons_self)
    obtain ⟨b1, b2, b3⟩ := InsR.facts g2 a1 a2 (fun qs hq => h3 qs (List.mem_cons_of_mem _ hq))
    rw [List.map_cons, List.sum_cons]
    exact ⟨b1, b2, by omega⟩
theorem InsR.snoc {D : Nat → Int32} {ps : List Nat} {B : List Nat} : ∀ {rs : List (List Nat)} {E A : List Nat}, InsR D E rs A → InsL D A ps B → InsR D E (rs ++ [ps]) B
  | [], E, A, h, g => by cases h; exact ⟨B, g, rfl⟩
  | qs :: rs, E, A, h, g => by
    obtain ⟨E1, h1, h2⟩ := h
    exact ⟨E1, h1, InsR.snoc h2 g⟩
/-- sorted lists with the same members are one -/
theorem pre_ext {D : Nat → Int32} : ∀ {A B : List Nat}, A.Pairwise (pre D) → B.Pairwise (pre D) → (∀ q, q ∈ A ↔ q ∈ B) → A = B
  | [], [], _, _, _ => rfl
  | [], b :: B, _, _, h => by have := (h b).mpr List.mem_cons_self; cases this
  | a :: A, [], _, _, h => by have := (h a).mp List.mem_cons_self; cases this
  | a :: A, b :: B, hA, hB, h => by
    have h1 := List.pairwise_cons.mp hA
    have h2 := List.pairwise_cons.mp hB
    have e : a = b := by
      rcases List.mem_cons.mp ((h a).mp List.mem_cons_self) with z | z
      · exact z
      · rcases List.mem_cons.mp ((h b).mpr List.mem_cons_self) with y | y
        · exact y.symm
        · exact (pre_irrefl (pre_trans (h2.1 a z) (h1.1 b y))).elim
    subst e
    congr 1
    refine pre_ext h1.2 h2.2 (fun x => ⟨fun z => ?_, fun z => ?_⟩)
    · rcases List.mem_cons.mp ((h x).mp (List.mem_cons_of_mem _ z)) with y | y
      · have := h1.1 x z; rw [y] at this; exact (pre_irrefl this).elim
      · exact y
    · rcases List.mem_cons.mp ((h x).mpr (List.mem_cons_of_mem _ z)) with y | y
      · have := h2.1 x z; rw [y] at this; exact (pre_irrefl this).elim
      · exact y
/-- the log on the disk: its records, its entries in order; us bytes of it are used -/
def LgS (D : Nat → Int32) (ar us n : Nat) (rs : List (List Nat)) (E : List Nat) : Prop :=
  Recs D (4096 + ar * 18432) 0 rs us ∧ Stop D (4096 + ar * 18432) us ∧ (∀ ps ∈ rs, Eb D ps) ∧ InsR D [] rs E ∧ us ≤ 243 * n ∧ (rs.map List.length).sum ≤ n ∧ rs.length ≤ n
theorem LgS.ea {D D' : Nat → Int32} {ar us n : Nat} {rs : List (List Nat)} {E : List Nat} (h : LgS D ar us n rs E) (hD : ∀ p, 4096 + ar * 18432 ≤ p → p < 4096 + ar * 18432 + us → D' p = D p) : ∀ p, (∃ ps ∈ rs, p ∈ ps) → Eall D D' p := by
  rintro p ⟨ps, hps, hp⟩
  have := h.1.mem ps hps p hp
  exact Eall.of (fun j hj1 hj2 => hD j (by omega) (by omega))
theorem LgS.in {D : Nat → Int32} {ar us n : Nat} {rs : List (List Nat)} {E : List Nat} (h : LgS D ar us n rs E) : ∀ p ∈ E, 4096 + ar * 18432 ≤ p ∧ p + eln D p ≤ 4096 + ar * 18432 + us := by
  intro p hp
  rcases h.2.2.2.1.mem p hp with z | ⟨ps, h1, h2⟩
  · cases z
  · have := h.1.mem ps h1 p h2
    omega
theorem LgS.keep {D D' : Nat → Int32} {ar us n : Nat} {rs : List (List Nat)} {E : List Nat} (h : LgS D ar us n rs E) (hn : n ≤ 64) (hD : ∀ p, 4096 + ar * 18432 ≤ p → p < 4096 + ar * 18432 + 18432 → D' p = D p) : LgS D' ar us n rs E ∧ ∀ p ∈ E, ent D' p = ent D p := by
  have hE := h.ea (D' := D') (fun p h1 h2 => hD p h1 (by have := h.2.2.2.2.1; omega))
  obtain ⟨h1, h2, h3, h4, h5, h6, h7⟩ := id h
  refine ⟨⟨h1.keep (fun p a b => hD p (by omega) (by omega)), h2.keep (by omega) (fun p a b => hD p (by omega) (by omega)), fun ps hps => Eall.eb (fun p hp => hE p ⟨ps, hps, hp⟩) (h3 ps hps), h4.keep (fun p hp => hE p (hp.elim (fun z => by cases z) id)), h5, h6, h7⟩, fun p hp => ?_⟩
  rcases h4.mem p hp with z | z
  · cases z
  · exact (hE p z).en
/-- what the entries say: newer stands higher; the map -/
def Sem (D : Nat → Int32) (E : List Nat) (Ls : Nat → List zF) (c n : Nat) (m : Mp) : Prop :=
  Nwr D E Ls ∧ Ud D (up E Ls 3) ∧ (∀ p ∈ up E Ls 3, Ewf D p ∧ ecm D p ≤ c) ∧ (up E Ls 3).length ≤ n ∧ ∀ k v, vw ((up E Ls 3).map (ent D)) 2147483647 k v ↔ (k, v) ∈ m
theorem ecm_of {D D' : Nat → Int32} {p q : Nat} (h : ent D' q = ent D p) : ecm D' q = ecm D p := congrArg (·.2.1) h
theorem zb_of_ent {D D' : Nat → Int32} {p q : Nat} (h : ent D' q = ent D p) : zb (D' q) = zb (D p) := congrArg (·.2.2.1) h
theorem eva_of {D D' : Nat → Int32} {p q : Nat} (h : ent D' q = ent D p) : eva D' q = eva D p := congrArg (·.2.2.2) h
theorem Sem.keep {D D' : Nat → Int32} {E : List Nat} {Ls : Nat → List zF} {c n : Nat} {m : Mp} (h : Sem D E Ls c n m) (he : ∀ p ∈ up E Ls 3, ent D' p = ent D p) : Sem D' E Ls c n m := by
  obtain ⟨h1, h2, h3, h4, h5⟩ := h
  refine ⟨fun k hk p hp q hq z => ?_, ⟨fun p hp => ?_, fun p hp q hq e1 e2 => ?_⟩, fun p hp => ?_, h4, fun k v => ?_⟩
  · have ep := he p (up_le (show k ≤ 3 by omega) hp)
    have eq := he q (up_mem.mpr (Or.inr ⟨k, hk, hq⟩))
    rw [eky_of ep, eky_of eq] at z
    rw [ecm_of ep, ecm_of eq]
    exact h1 k hk p hp q hq z
  · rw [ecm_of (he p hp)]; exact h2.1 p hp
  · rw [eky_of (he p hp), eky_of (he q hq)] at e1
    rw [ecm_of (he p hp), ecm_of (he q hq)] at e2
    exact h2.2 p hp q hq e1 e2
  · exact ⟨ent_wf (he p hp) (h3 p hp).1, by rw [ecm_of (he p hp)]; exact (h3 p hp).2⟩
  · rw [List.map_congr_left he]; exact h5 k v
