/-! ===== files put together: what it says ===== -/
def cutL (Ls : Nat → List zF) (lo hi : Nat → Nat) (l : Nat) : List zF := (Ls l).take (lo l) ++ (Ls l).drop (hi l)
def newL (Ls : Nat → List zF) (lo hi : Nat → Nat) (t : Nat) (ns : List zF) (l : Nat) : List zF := if l = t then (Ls l).take (lo l) ++ (ns ++ (Ls l).drop (hi l)) else cutL Ls lo hi l
def pkf (Ls : Nat → List zF) (lo hi : Nat → Nat) : Nat → List zF
  | 0 => []
  | l + 1 => pkf Ls lo hi l ++ ((Ls l).take (hi l)).drop (lo l)
def alF (Ls : Nat → List zF) : Nat → List zF
  | 0 => []
  | l + 1 => alF Ls l ++ Ls l
def idn (Ls : Nat → List zF) : List Nat := (alF Ls 3).map (·.1)
def kps (wl : Nat) (E : List Nat) (Ls : Nat → List zF) (lo hi : Nat → Nat) : Nat → List Nat
  | 0 => if wl = 1 then [] else E
  | l + 1 => kps wl E Ls lo hi l ++ lvE (cutL Ls lo hi l)
theorem split3 {L : List zF} {a b : Nat} (h : a ≤ b) : L = L.take a ++ ((L.take b).drop a ++ L.drop b) := by
  have h1 : (L.take b).take a = L.take a := by rw [List.take_take, Nat.min_eq_left h]
  have h2 : L.take a ++ (L.take b).drop a = L.take b := by rw [← h1, List.take_append_drop]
  rw [← List.append_assoc, h2, List.take_append_drop]
theorem lvE_app (A B : List zF) : lvE (A ++ B) = lvE A ++ lvE B := by
  unfold lvE
  rw [List.map_append, List.flatten_append]
theorem bk_app (A B : List zF) : bk (A ++ B) = bk A ++ bk B := by
  unfold bk
  rw [List.map_append, List.flatten_append]
theorem bk_perm {A B : List zF} (h : A.Perm B) : (bk A).Perm (bk B) := by
  induction h with
  | nil => exact List.Perm.refl _
  | cons x _ ih => exact List.Perm.append_left x.2.1 ih
  | swap x y l =>
    show (y.2.1 ++ (x.2.1 ++ bk l)).Perm (x.2.1 ++ (y.2.1 ++ bk l))
    rw [← List.append_assoc, ← List.append_assoc]
    exact List.Perm.append_right _ List.perm_append_comm
  | trans _ _ ih1 ih2 => exact ih1.trans ih2
theorem bks_al (Ls : Nat → List zF) : bks Ls 3 = bk (alF Ls 3) := by
  show (([] ++ bk (Ls 0)) ++ bk (Ls 1)) ++ bk (Ls 2) = bk ((([] ++ Ls 0) ++ Ls 1) ++ Ls 2)
  rw [bk_app, bk_app, bk_app]
  rfl
theorem newL_t (Ls : Nat → List zF) (lo hi : Nat → Nat) (t : Nat) (ns : List zF) : newL Ls lo hi t ns t = (Ls t).take (lo t) ++ (ns ++ (Ls t).drop (hi t)) := if_pos rfl
theorem newL_ne (Ls : Nat → List zF) (lo hi : Nat → Nat) {t l : Nat} (ns : List zF) (h : l ≠ t) : newL Ls lo hi t ns l = cutL Ls lo hi l := if_neg h
theorem newL_cnt (Ls : Nat → List zF) (lo hi : Nat → Nat) (t : Nat) (ns : List zF) (l a : Nat) : (lvE (newL Ls lo hi t ns l)).count a = (lvE (cutL Ls lo hi l)).count a + (if l = t then (lvE ns).count a else 0) := by
  by_cases h : l = t
  · subst h
    rw [newL_t, if_pos rfl]
    unfold cutL
    simp only [lvE_app, List.count_append]
    omega
  · rw [newL_ne _ _ _ _ h, if_neg h, Nat.add_zero]
theorem newL_cntF (Ls : Nat → List zF) (lo hi : Nat → Nat) (t : Nat) (ns : List zF) (l : Nat) (a : zF) : (newL Ls lo hi t ns l).count a = (cutL Ls lo hi l).count a + (if l = t then ns.count a else 0) := by
  by_cases h : l = t
  · subst h
    rw [newL_t, if_pos rfl]
    unfold cutL
    simp only [List.count_append]
    omega
  · rw [newL_ne _ _ _ _ h, if_neg h, Nat.add_zero]
theorem up_perm {wl : Nat} {E : List Nat} {Ls : Nat → List zF} {lo hi : Nat → Nat} (h : ∀ l, l < 3 → lo l ≤ hi l) : (up E Ls 3).Perm (kps wl E Ls lo hi 3 ++ pks wl E Ls lo hi 3) := by
  rw [List.perm_iff_count]
  intro a
  have s : ∀ l, l < 3 → (lvE (Ls l)).count a = (lvE (cutL Ls lo hi l)).count a + (seg (Ls l) (lo l) (hi l)).count a := by
    intro l hl
    have h1 : (lvE (Ls l)).count a = (lvE ((Ls l).take (lo l) ++ (((Ls l).take (hi l)).drop (lo l) ++ (Ls l).drop (hi l)))).count a := congrArg (fun x => (lvE x).count a) (split3 (L := Ls l) (h l hl))
    unfold cutL seg
    simp only [lvE_app, List.count_append] at h1 ⊢
    omega
  have s0 := s 0 (by decide)
  have s1 := s 1 (by decide)
  have s2 := s 2 (by decide)
  show (((E ++ lvE (Ls 0)) ++ lvE (Ls 1)) ++ lvE (Ls 2)).count a = ((((if wl = 1 then [] else E) ++ lvE (cutL Ls lo hi 0)) ++ lvE (cutL Ls lo hi 1)) ++ lvE (cutL Ls lo hi 2) ++ ((((if wl = 1 then E else []) ++ seg (Ls 0) (lo 0) (hi 0)) ++ seg (Ls 1) (lo 1) (hi 1)) ++ seg (Ls 2) (lo 2) (hi 2))).count a
  simp only [List.count_append]
  by_cases hw : wl = 1
  · rw [if_pos hw, if_pos hw, List.count_nil]
    omega
  · rw [if_neg hw, if_neg hw, List.count_nil]
    omega
theorem up_perm' {wl t : Nat} {E : List Nat} {Ls : Nat → List zF} {lo hi : Nat → Nat} {ns : List zF} (ht : t < 3) : (up (if wl = 1 then [] else E) (newL Ls lo hi t ns) 3).Perm (kps wl E Ls lo hi 3 ++ lvE ns) := by
  rw [List.perm_iff_count]
  intro a
  have s0 := newL_cnt Ls lo hi t ns 0 a
  have s1 := newL_cnt Ls lo hi t ns 1 a
  have s2 := newL_cnt Ls lo hi t ns 2 a
  show ((((if wl = 1 then [] else E) ++ lvE (newL Ls lo hi t ns 0)) ++ lvE (newL Ls lo hi t ns 1)) ++ lvE (newL Ls lo hi t ns 2)).count a = ((((if wl = 1 then [] else E) ++ lvE (cutL Ls lo hi 0)) ++ lvE (cutL Ls lo hi 1)) ++ lvE (cutL Ls lo hi 2) ++ lvE ns).count a
  simp only [List.count_append]
  rcases (show t = 0 ∨ t = 1 ∨ t = 2 by omega) with e | e | e
  · subst e; rw [if_pos rfl] at s0; rw [if_neg (by decide)] at s1 s2; omega
  · subst e; rw [if_pos rfl] at s1; rw [if_neg (by decide)] at s0 s2; omega
  · subst e; rw [if_pos rfl] at s2; rw [if_neg (by decide)] at s0 s1; omega
theorem al_perm {Ls : Nat → List zF} {lo hi : Nat → Nat} (h : ∀ l, l < 3 → lo l ≤ hi l) : (alF Ls 3).Perm (pkf Ls lo hi 3 ++ alF (cutL Ls lo hi) 3) := by
  rw [List.perm_iff_count]
  intro a
  have s : ∀ l, l < 3 → (Ls l).count a = (cutL Ls lo hi l).count a + (((Ls l).take (hi l)).drop (lo l)).count a := by
    intro l hl
    have h1 : (Ls l).count a = ((Ls l).take (lo l) ++ (((Ls l).take (hi l)).drop (lo l) ++ (Ls l).drop (hi l))).count a := congrArg (fun x => x.count a) (split3 (L := Ls l) (h l hl))
    unfold cutL
    simp only [List.count_append] at h1 ⊢
    omega
  have s0 := s 0 (by decide)
  have s1 := s 1 (by decide)
  have s2 := s 2 (by decide)
  show ((([] ++ Ls 0) ++ Ls 1) ++ Ls 2).count a = (((([] ++ ((Ls 0).take (hi 0)).drop (lo 0)) ++ ((Ls 1).take (hi 1)).drop (lo 1)) ++ ((Ls 2).take (hi 2)).drop (lo 2)) ++ ((([] ++ cutL Ls lo hi 0) ++ cutL Ls lo hi 1) ++ cutL Ls lo hi 2)).count a
  simp only [List.count_append, List.count_nil]
  omega
theorem al_new {Ls : Nat → List zF} {lo hi : Nat → Nat} {t : Nat} {ns : List zF} (ht : t < 3) : (alF (newL Ls lo hi t ns) 3).Perm (ns ++ alF (cutL Ls lo hi) 3) := by
  rw [List.perm_iff_count]
  intro a
  have s0 := newL_cntF Ls lo hi t ns 0 a
  have s1 := newL_cntF Ls lo hi t ns 1 a
  have s2 := newL_cntF Ls lo hi t ns 2 a
  show ((([] ++ newL Ls lo hi t ns 0) ++ newL Ls lo hi t ns 1) ++ newL Ls lo hi t ns 2).count a = (ns ++ ((([] ++ cutL Ls lo hi 0) ++ cutL Ls lo hi 1) ++ cutL Ls lo hi 2)).count a
  simp only [List.count_append, List.count_nil]
  rcases (show t = 0 ∨ t = 1 ∨ t = 2 by omega) with e | e | e
  · subst e; rw [if_pos rfl] at s0; rw [if_neg (by decide)] at s1 s2; omega
  · subst e; rw [if_pos rfl] at s1; rw [if_neg (by decide)] at s0 s2; omega
  · subst e; rw [if_pos rfl] at s2; rw [if_neg (by decide)] at s0 s1; omega
/-- blocks and tables: what was and what is new is what goes and what stays -/
theorem blk_perm {Ls : Nat → List zF} {lo hi : Nat → Nat} {t : Nat} {ns : List zF} {tk nbs : List Nat} (h : ∀ l, l < 3 → lo l ≤ hi l) (ht : t < 3) (htk : tk.Perm (bks Ls 3)) (hnb : nbs.Perm (bk ns)) : (nbs ++ tk).Perm (bk (pkf Ls lo hi 3) ++ bks (newL Ls lo hi t ns) 3) := by
  rw [bks_al] at htk ⊢
  have h1 := (bk_perm (al_perm (Ls := Ls) h))
  have h2 := (bk_perm (al_new (Ls := Ls) (lo := lo) (hi := hi) (ns := ns) ht))
  rw [bk_app] at h1 h2
  rw [List.perm_iff_count] at *
  intro a
  have e1 := htk a
  have e2 := hnb a
  have e3 := h1 a
  have e4 := h2 a
  simp only [List.count_append] at *
  omega
theorem ids_perm {Ls : Nat → List zF} {lo hi : Nat → Nat} {t : Nat} {ns : List zF} {uu : List Nat} (h : ∀ l, l < 3 → lo l ≤ hi l) (ht : t < 3) (hu : uu.Perm (idn Ls)) : ((ns.map (·.1)).reverse ++ uu).Perm ((pkf Ls lo hi 3).map (·.1) ++ idn (newL Ls lo hi t ns)) := by
  have h1 := (al_perm (Ls := Ls) h).map (·.1)
  have h2 := (al_new (Ls := Ls) (lo := lo) (hi := hi) (ns := ns) ht).map (·.1)
  unfold idn at *
  rw [List.map_append] at h1 h2
  rw [List.perm_iff_count] at *
  intro a
  have e1 := hu a
  have e3 := h1 a
  have e4 := h2 a
  simp only [List.count_append, List.count_reverse] at *
  omega
theorem cut_sub {Ls : Nat → List zF} {lo hi : Nat → Nat} {l : Nat} (h : lo l ≤ hi l) : (cutL Ls lo hi l).Sublist (Ls l) := by
  have h1 := split3 (L := Ls l) h
  have h2 : ((Ls l).take (lo l) ++ (Ls l).drop (hi l)).Sublist ((Ls l).take (lo l) ++ (((Ls l).take (hi l)).drop (lo l) ++ (Ls l).drop (hi l))) := List.Sublist.append (List.Sublist.refl _) (List.sublist_append_right _ _)
  unfold cutL
  rw [← h1] at h2
  exact h2
theorem lvE_sub {a b : List zF} (h : a.Sublist b) : (lvE a).Sublist (lvE b) := by
  induction h with
  | slnil => exact List.Sublist.refl _
  | cons x h ih =>
    show (lvE _).Sublist (fE x ++ lvE _)
    exact ih.trans (List.sublist_append_right _ _)
  | cons_cons x h ih =>
    show (fE x ++ lvE _).Sublist (fE x ++ lvE _)
    exact List.Sublist.append (List.Sublist.refl _) ih
theorem pks_mem {wl : Nat} {E : List Nat} {Ls : Nat → List zF} {lo hi : Nat → Nat} {p : Nat} (h : p ∈ pks wl E Ls lo hi 3) : (wl = 1 ∧ p ∈ E) ∨ ∃ l, l < 3 ∧ p ∈ seg (Ls l) (lo l) (hi l) := by
  have h' : p ∈ (((if wl = 1 then E else []) ++ seg (Ls 0) (lo 0) (hi 0)) ++ seg (Ls 1) (lo 1) (hi 1)) ++ seg (Ls 2) (lo 2) (hi 2) := h
  simp only [List.mem_append] at h'
  rcases h' with ((h | h) | h) | h
  · by_cases hw : wl = 1
    · rw [if_pos hw] at h; exact Or.inl ⟨hw, h⟩
    · rw [if_neg hw] at h; cases h
  · exact Or.inr ⟨0, by decide, h⟩
  · exact Or.inr ⟨1, by decide, h⟩
  · exact Or.inr ⟨2, by decide, h⟩
theorem kps_mem {wl : Nat} {E : List Nat} {Ls : Nat → List zF} {lo hi : Nat → Nat} {p : Nat} (h : p ∈ kps wl E Ls lo hi 3) : (wl ≠ 1 ∧ p ∈ E) ∨ ∃ l, l < 3 ∧ p ∈ lvE (cutL Ls lo hi l) := by
  have h' : p ∈ (((if wl = 1 then [] else E) ++ lvE (cutL Ls lo hi 0)) ++ lvE (cutL Ls lo hi 1)) ++ lvE (cutL Ls lo hi 2) := h
  simp only [List.mem_append] at h'
  rcases h' with ((h | h) | h) | h
  · by_cases hw : wl = 1
    · rw [if_pos hw] at h; cases h
    · rw [if_neg hw] at h; exact Or.inl ⟨hw, h⟩
  · exact Or.inr ⟨0, by decide, h⟩
  · exact Or.inr ⟨1, by decide, h⟩
  · exact Or.inr ⟨2, by decide, h⟩
theorem up_new {wl t : Nat} {E : List Nat} {Ls : Nat → List zF} {lo hi : Nat → Nat} {ns : List zF} : ∀ {k p : Nat}, p ∈ up (if wl = 1 then [] else E) (newL Ls lo hi t ns) k → (wl ≠ 1 ∧ p ∈ E) ∨ (∃ l, l < k ∧ p ∈ lvE (cutL Ls lo hi l)) ∨ (t < k ∧ p ∈ lvE ns)
  | 0, p, h => by
    have h' : p ∈ (if wl = 1 then [] else E) := h
    by_cases hw : wl = 1
    · rw [if_pos hw] at h'; cases h'
    · rw [if_neg hw] at h'; exact Or.inl ⟨hw, h'⟩
  | k + 1, p, h => by
    rcases List.mem_append.mp h with z | z
    · rcases up_new z with y | ⟨l, hl, y⟩ | ⟨hl, y⟩
      · exact Or.inl y
      · exact Or.inr (Or.inl ⟨l, by omega, y⟩)
      · exact Or.inr (Or.inr ⟨by omega, y⟩)
    · by_cases hk : k = t
      · subst hk
        rw [newL_t, lvE_app, lvE_app] at z
        rcases List.mem_append.mp z with y | y
        · exact Or.inr (Or.inl ⟨k, by omega, by unfold cutL; rw [lvE_app]; exact List.mem_append_left _ y⟩)
        · rcases List.mem_append.mp y with x | x
          · exact Or.inr (Or.inr ⟨by omega, x⟩)
          · exact Or.inr (Or.inl ⟨k, by omega, by unfold cutL; rw [lvE_app]; exact List.mem_append_right _ x⟩)
      · rw [newL_ne _ _ _ _ hk] at z
        exact Or.inr (Or.inl ⟨k, by omega, z⟩)
theorem pw_tri {α : Type} {R : α → α → Prop} : ∀ {l : List α} {p q : α}, l.Pairwise R → p ∈ l → q ∈ l → p = q ∨ R p q ∨ R q p
  | [], p, q, _, h, _ => by cases h
  | a :: l, p, q, hs, hp, hq => by
    have h1 := List.pairwise_cons.mp hs
    rcases List.mem_cons.mp hp with e1 | e1 <;> rcases List.mem_cons.mp hq with e2 | e2
    · exact Or.inl (e1.trans e2.symm)
    · subst e1; exact Or.inr (Or.inl (h1.1 q e2))
    · subst e2; exact Or.inr (Or.inr (h1.1 p e1))
    · exact pw_tri h1.2 e1 e2
/-- what may be picked for a join into level t -/
def Pok (D : Nat → Int32) (Ls : Nat → List zF) (lo hi : Nat → Nat) (t : Nat) (P : List Nat) : Prop :=
  (∀ f ∈ (Ls t).take (lo t), ∀ e ∈ fE f, ∀ p ∈ P, klt (eky D e) (eky D p)) ∧ (∀ f ∈ (Ls t).drop (hi t), ∀ e ∈ fE f, ∀ p ∈ P, klt (eky D p) (eky D e)) ∧
  (∀ l, t < l → l < 3 → lo l = hi l) ∧ ∀ l, l < t → ∀ p ∈ P, ∀ q ∈ lvE (cutL Ls lo hi l), eky D p = eky D q → ecm D p < ecm D q
/-- what stays against what is picked -/
theorem Pok.kp {D : Nat → Int32} {wl t : Nat} {E P : List Nat} {Ls : Nat → List zF} {lo hi : Nat → Nat} (h : Pok D Ls lo hi t P) (hN : Nwr D E Ls) (hlh : ∀ l, l < 3 → lo l ≤ hi l) (hP : ∀ p ∈ P, p ∈ pks wl E Ls lo hi 3) {p y : Nat} (hp : p ∈ kps wl E Ls lo hi 3) (hy : y ∈ P) (he : eky D p = eky D y) : ecm D y < ecm D p ∨ ∃ l, t < l ∧ l < 3 ∧ p ∈ lvE (Ls l) ∧ ecm D p < ecm D y := by
  obtain ⟨h1, h2, h3, h4⟩ := h
  have hyt : y ∈ up E Ls (t + 1) := by
    rcases pks_mem (hP y hy) with ⟨-, z⟩ | ⟨l, hl, z⟩
    · exact up_le (Nat.zero_le _) z
    · rcases Nat.lt_or_ge t l with e | e
      · rw [h3 l e hl, seg_self] at z; cases z
      · exact up_le (show l + 1 ≤ t + 1 by omega) (List.mem_append_right _ ((seg_sub _ _ _).subset z))
  rcases kps_mem hp with ⟨hw, z⟩ | ⟨l, hl, z⟩
  · rcases pks_mem (hP y hy) with ⟨hw', -⟩ | ⟨l, hl, z'⟩
    · exact absurd hw' hw
    · exact Or.inl (hN l hl p (up_le (Nat.zero_le _) z) y ((seg_sub _ _ _).subset z') he)
  · have hz := (lvE_sub (cut_sub (Ls := Ls) (hlh l hl))).subset z
    rcases Nat.lt_trichotomy l t with e | e | e
    · exact Or.inl (h4 l e y hy p z he.symm)
    · subst e
      exfalso
      unfold cutL at z
      rw [lvE_app] at z
      rcases List.mem_append.mp z with z | z
      · obtain ⟨f, hf, hpf⟩ := lvE_cases z
        have := h1 f hf p hpf y hy
        rw [he] at this
        exact klt_irrefl _ this
      · obtain ⟨f, hf, hpf⟩ := lvE_cases z
        have := h2 f hf p hpf y hy
        rw [he] at this
        exact klt_irrefl _ this
    · exact Or.inr ⟨l, e, hl, hz, hN l hl y (up_le (show t + 1 ≤ l by omega) hyt) p hz he.symm⟩
/-- what a view sees is kept -/
theorem Thn.nd {D : Nat → Int32} {P T : List Nat} {v : Nat → Option Nat} {low w : Nat} (hs : P.Pairwise (pre D)) (hE : ∀ p ∈ P, ecm D p < 2 ^ 31) (h : Thn D P v low T) (hw : w = 2147483647 ∨ ∃ i, i < 8 ∧ v i = some w) : ∀ g, Sn (P.map (ent D)) w g → g ∈ T.map (ent D) ∨ (low = 1 ∧ g.2.2.1 = 2 ∧ ∀ f ∈ T.map (ent D), f.1 = g.1 → g.2.1 < f.2.1) := by
  rintro g ⟨hg1, hg2, hg3⟩
  obtain ⟨p, hp, rfl⟩ := List.mem_map.mp hg1
  obtain ⟨j, hj⟩ := List.getElem?_of_mem hp
  have hjl := (List.getElem?_eq_some_iff.mp hj).1
  have hN : Nd D P v j := by
    rcases Nat.eq_zero_or_pos j with e | e
    · exact Or.inl e
    · obtain ⟨q, hq⟩ : ∃ q, P[j - 1]? = some q := ⟨_, List.getElem?_eq_getElem (by omega)⟩
      have hqm := List.mem_of_getElem? hq
      refine Or.inr ⟨q, p, hq, hj, ?_⟩
      rcases pw_get hs (show j - 1 < j by omega) hq hj with z | ⟨z1, z2⟩
      · exact Or.inl (klt_ne z)
      · refine Or.inr ?_
        have hqw : w < ecm D q := by
          refine Nat.lt_of_not_le (fun y => ?_)
          have : ecm D q ≤ ecm D p := hg3 (ent D q) (List.mem_map_of_mem hqm) z1 y
          omega
        rcases hw with e9 | ⟨i, hi, hv⟩
        · have := hE q hqm
          omega
        · exact ⟨i, hi, w, hv, hg2, hqw⟩
  rcases h.2.1 j p hj hN with z | ⟨z1, z2, z3⟩
  · exact Or.inl (List.mem_map_of_mem z)
  · refine Or.inr ⟨z1, z2, fun f hf hk => ?_⟩
    obtain ⟨x, hx, rfl⟩ := List.mem_map.mp hf
    exact z3 x hx hk
