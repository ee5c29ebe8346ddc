/-! ===== what a set of entries says, without the disk ===== -/
/-- an entry: its key, its commit's number, its kind (1 put, 2 remove), its value -/
abbrev En : Type := List Nat × Nat × Nat × List Nat
/-- the first of the list's entries of this key that the view sees is a put of this value -/
def vw (X : List En) (w : Nat) (k v : List Nat) : Prop := ∃ e ∈ X, e.1 = k ∧ e.2.1 ≤ w ∧ e.2.2.1 = 1 ∧ e.2.2.2 = v ∧ ∀ f ∈ X, f.1 = k → f.2.1 ≤ w → f.2.1 ≤ e.2.1
/-- no two entries of one key have one number -/
def Dst (X : List En) : Prop := ∀ e ∈ X, ∀ f ∈ X, e.1 = f.1 → e.2.1 = f.2.1 → e = f
/-- e is what the view w sees of its key -/
def Sn (X : List En) (w : Nat) (e : En) : Prop := e ∈ X ∧ e.2.1 ≤ w ∧ ∀ f ∈ X, f.1 = e.1 → f.2.1 ≤ w → f.2.1 ≤ e.2.1
theorem vw_sn {X : List En} {w : Nat} {k v : List Nat} : vw X w k v ↔ ∃ e, Sn X w e ∧ e.1 = k ∧ e.2.2.1 = 1 ∧ e.2.2.2 = v := by
  constructor
  · rintro ⟨e, h1, h2, h3, h4, h5, h6⟩
    exact ⟨e, ⟨h1, h3, fun f hf hk => h6 f hf (hk.trans h2)⟩, h2, h4, h5⟩
  · rintro ⟨e, ⟨h1, h2, h3⟩, h4, h5, h6⟩
    exact ⟨e, h1, h4, h2, h5, h6, fun f hf hk => h3 f hf (hk.trans h4.symm)⟩
theorem Sn.ex : ∀ (X : List En) (w : Nat) (k : List Nat), (∃ e ∈ X, e.1 = k ∧ e.2.1 ≤ w) → ∃ e, Sn X w e ∧ e.1 = k
  | [], _, _, h => by obtain ⟨e, h, -⟩ := h; cases h
  | x :: X, w, k, h => by
    by_cases h0 : ∃ e ∈ X, e.1 = k ∧ e.2.1 ≤ w
    · obtain ⟨e, he, hk⟩ := Sn.ex X w k h0
      by_cases hx : x.1 = k ∧ x.2.1 ≤ w ∧ e.2.1 < x.2.1
      · refine ⟨x, ⟨List.mem_cons_self, hx.2.1, fun f hf hfk hfw => ?_⟩, hx.1⟩
        rcases List.mem_cons.mp hf with rfl | hf
        · exact Nat.le_refl _
        · exact Nat.le_of_lt (Nat.lt_of_le_of_lt (he.2.2 f hf (hfk.trans (hx.1.trans hk.symm)) hfw) hx.2.2)
      · refine ⟨e, ⟨List.mem_cons_of_mem _ he.1, he.2.1, fun f hf hfk hfw => ?_⟩, hk⟩
        rcases List.mem_cons.mp hf with rfl | hf
        · exact Nat.le_of_not_lt (fun z => hx ⟨hfk.trans hk, hfw, z⟩)
        · exact he.2.2 f hf hfk hfw
    · obtain ⟨e, he, hk, hw⟩ := h
      rcases List.mem_cons.mp he with rfl | he
      · refine ⟨e, ⟨List.mem_cons_self, hw, fun f hf hfk hfw => ?_⟩, hk⟩
        rcases List.mem_cons.mp hf with rfl | hf
        · exact Nat.le_refl _
        · exact absurd ⟨f, hf, hfk.trans hk, hfw⟩ h0
      · exact absurd ⟨e, he, hk, hw⟩ h0
theorem Sn.uniq {X : List En} {w : Nat} {e f : En} (hX : Dst X) (he : Sn X w e) (hf : Sn X w f) (hk : e.1 = f.1) : e = f :=
  hX e he.1 f hf.1 hk (Nat.le_antisymm (hf.2.2 e he.1 hk he.2.1) (he.2.2 f hf.1 hk.symm hf.2.1))
theorem vw.uniq {X : List En} {w : Nat} {k v v' : List Nat} (hX : Dst X) (h : vw X w k v) (h' : vw X w k v') : v = v' := by
  obtain ⟨e, he, hk, -, rfl⟩ := vw_sn.mp h
  obtain ⟨f, hf, hk', -, rfl⟩ := vw_sn.mp h'
  rw [he.uniq hX hf (hk.trans hk'.symm)]
theorem vw_mem {X Y : List En} (h : ∀ e, e ∈ X ↔ e ∈ Y) (w : Nat) (k v : List Nat) : vw X w k v ↔ vw Y w k v := by
  constructor <;> rintro ⟨e, h1, h2, h3, h4, h5, h6⟩
  · exact ⟨e, (h e).mp h1, h2, h3, h4, h5, fun f hf => h6 f ((h f).mpr hf)⟩
  · exact ⟨e, (h e).mpr h1, h2, h3, h4, h5, fun f hf => h6 f ((h f).mp hf)⟩
/-- files put together: P what was picked, T what is left of it, K all else -/
theorem join_sem {K P T : List En} {w : Nat} {low : Prop} (hT : ∀ e ∈ T, e ∈ P) (hN : ∀ g, Sn P w g → g ∈ T ∨ (low ∧ g.2.2.1 = 2 ∧ ∀ f ∈ T, f.1 = g.1 → g.2.1 < f.2.1)) (hlow : low → ∀ e ∈ P, ∀ f ∈ K, f.1 = e.1 → e.2.1 < f.2.1) (k v : List Nat) : vw (K ++ T) w k v ↔ vw (K ++ P) w k v := by
  constructor
  · rintro ⟨e, h1, h2, h3, h4, h5, h6⟩
    refine ⟨e, (List.mem_append.mp h1).elim (fun z => List.mem_append_left _ z) (fun z => List.mem_append_right _ (hT e z)), h2, h3, h4, h5, fun f hf hfk hfw => ?_⟩
    rcases List.mem_append.mp hf with hf | hf
    · exact h6 f (List.mem_append_left _ hf) hfk hfw
    · obtain ⟨g, hg, hgk⟩ := Sn.ex P w k ⟨f, hf, hfk, hfw⟩
      have hfg := hg.2.2 f hf (hfk.trans hgk.symm) hfw
      rcases hN g hg with z | ⟨z1, z2, z3⟩
      · exact Nat.le_trans hfg (h6 g (List.mem_append_right _ z) hgk hg.2.1)
      · rcases List.mem_append.mp h1 with h1 | h1
        · exact Nat.le_of_lt (Nat.lt_of_le_of_lt hfg (hlow z1 g hg.1 e h1 (h2.trans hgk.symm)))
        · exact Nat.le_of_lt (Nat.lt_of_le_of_lt hfg (z3 e h1 (h2.trans hgk.symm)))
  · rintro ⟨e, h1, h2, h3, h4, h5, h6⟩
    rcases List.mem_append.mp h1 with h1 | h1
    · exact ⟨e, List.mem_append_left _ h1, h2, h3, h4, h5, fun f hf hfk hfw => h6 f ((List.mem_append.mp hf).elim (fun z => List.mem_append_left _ z) (fun z => List.mem_append_right _ (hT f z))) hfk hfw⟩
    · have hs : Sn P w e := ⟨h1, h3, fun f hf hfk hfw => h6 f (List.mem_append_right _ hf) (hfk.trans h2) hfw⟩
      rcases hN e hs with z | ⟨-, z2, -⟩
      · exact ⟨e, List.mem_append_right _ z, h2, h3, h4, h5, fun f hf hfk hfw => h6 f ((List.mem_append.mp hf).elim (fun z => List.mem_append_left _ z) (fun z => List.mem_append_right _ (hT f z))) hfk hfw⟩
      · rw [h4] at z2; cases z2
/-- a commit: the entries of N have a number above all that were -/
theorem commit_old {X N : List En} {w : Nat} (h : ∀ e ∈ N, w < e.2.1) (k v : List Nat) : vw (N ++ X) w k v ↔ vw X w k v := by
  constructor
  · rintro ⟨e, h1, h2, h3, h4, h5, h6⟩
    rcases List.mem_append.mp h1 with z | z
    · exact absurd h3 (Nat.not_le.mpr (h e z))
    · exact ⟨e, z, h2, h3, h4, h5, fun f hf => h6 f (List.mem_append_right _ hf)⟩
  · rintro ⟨e, h1, h2, h3, h4, h5, h6⟩
    exact ⟨e, List.mem_append_right _ h1, h2, h3, h4, h5, fun f hf hfk hfw => (List.mem_append.mp hf).elim (fun z => absurd hfw (Nat.not_le.mpr (h f z))) (fun z => h6 f z hfk hfw)⟩
theorem commit_new {X N : List En} {w c : Nat} (hc : ∀ e ∈ N, e.2.1 = c) (hw : c ≤ w) (hX : ∀ e ∈ X, e.2.1 < c) (hd : ∀ e ∈ N, ∀ f ∈ N, e.1 = f.1 → e = f) (k v : List Nat) : vw (N ++ X) w k v ↔ (∃ e ∈ N, e.1 = k ∧ e.2.2.1 = 1 ∧ e.2.2.2 = v) ∨ ((∀ e ∈ N, e.1 ≠ k) ∧ vw X w k v) := by
  constructor
  · rintro ⟨e, h1, h2, h3, h4, h5, h6⟩
    rcases List.mem_append.mp h1 with z | z
    · exact Or.inl ⟨e, z, h2, h4, h5⟩
    · refine Or.inr ⟨fun f hf hfk => ?_, e, z, h2, h3, h4, h5, fun f hf => h6 f (List.mem_append_right _ hf)⟩
      have a1 := h6 f (List.mem_append_left _ hf) hfk (by rw [hc f hf]; exact hw)
      have a2 := hX e z
      rw [hc f hf] at a1
      omega
  · rintro (⟨e, h1, h2, h3, h4⟩ | ⟨h0, e, h1, h2, h3, h4, h5, h6⟩)
    · refine ⟨e, List.mem_append_left _ h1, h2, by rw [hc e h1]; exact hw, h3, h4, fun f hf hfk hfw => ?_⟩
      rcases List.mem_append.mp hf with z | z
      · rw [hd f z e h1 (hfk.trans h2.symm)]; exact Nat.le_refl _
      · rw [hc e h1]; exact Nat.le_of_lt (hX f z)
    · exact ⟨e, List.mem_append_right _ h1, h2, h3, h4, h5, fun f hf hfk hfw => (List.mem_append.mp hf).elim (fun z => absurd hfk (h0 f z)) (fun z => h6 f z hfk hfw)⟩
/-! ===== the reference's map: keys in order ===== -/
abbrev Mp : Type := List (List Nat × List Nat)
def Srt (m : Mp) : Prop := m.Pairwise (fun a b => klt a.1 b.1)
/-- how many bytes a map counts for -/
def msz (m : Mp) : Nat := (m.map (fun a => 8 + a.1.length + a.2.length)).sum
theorem msz_append (a b : Mp) : msz (a ++ b) = msz a + msz b := by unfold msz; rw [List.map_append, List.sum_append]
theorem msz_cons (a : List Nat × List Nat) (m : Mp) : msz (a :: m) = 8 + a.1.length + a.2.length + msz m := by unfold msz; rw [List.map_cons, List.sum_cons]
theorem Srt.uniq : ∀ {m : Mp}, Srt m → ∀ {k v v' : List Nat}, (k, v) ∈ m → (k, v') ∈ m → v = v'
  | [], _, _, _, _, h, _ => by cases h
  | a :: m, h, k, v, v', h1, h2 => by
    have h3 := List.pairwise_cons.mp h
    rcases List.mem_cons.mp h1 with e1 | e1 <;> rcases List.mem_cons.mp h2 with e2 | e2
    · have := e1.trans e2.symm; cases this; rfl
    · have := h3.1 _ e2; rw [← e1] at this; exact absurd this (klt_irrefl _)
    · have := h3.1 _ e1; rw [← e2] at this; exact absurd this (klt_irrefl _)
    · exact Srt.uniq h3.2 e1 e2
/-- two sorted maps with the same pairs are one -/
theorem Srt.ext : ∀ {m n : Mp}, Srt m → Srt n → (∀ x, x ∈ m ↔ x ∈ n) → m = n
  | [], [], _, _, _ => rfl
  | [], b :: n, _, _, h => by have := (h b).mpr List.mem_cons_self; cases this
  | a :: m, [], _, _, h => by have := (h a).mp List.mem_cons_self; cases this
  | a :: m, b :: n, hm, hn, h => by
    have h1 := List.pairwise_cons.mp hm
    have h2 := List.pairwise_cons.mp hn
    have e : a = b := by
      rcases List.mem_cons.mp ((h a).mp List.mem_cons_self) with z | z
      · exact z
      · rcases List.mem_cons.mp ((h b).mpr List.mem_cons_self) with y | y
        · exact y.symm
        · exact absurd (klt_trans _ _ _ (h2.1 a z) (h1.1 b y)) (klt_irrefl _)
    subst e
    congr 1
    refine Srt.ext h1.2 h2.2 (fun x => ⟨fun z => ?_, fun z => ?_⟩)
    · rcases List.mem_cons.mp ((h x).mp (List.mem_cons_of_mem _ z)) with y | y
      · have := h1.1 x z; rw [y] at this; exact absurd this (klt_irrefl _)
      · exact y
    · rcases List.mem_cons.mp ((h x).mpr (List.mem_cons_of_mem _ z)) with y | y
      · have := h2.1 x z; rw [y] at this; exact absurd this (klt_irrefl _)
      · exact y
/-- m' is m with o at k -/
def MSet (m : Mp) (k : List Nat) (o : Option (List Nat)) (m' : Mp) : Prop := ∃ A B : Mp, (∀ a ∈ A, klt a.1 k) ∧ (∀ b ∈ B, klt k b.1) ∧ (m = A ++ B ∨ ∃ v, m = A ++ (k, v) :: B) ∧ m' = A ++ ((o.map (fun v => (k, v))).toList ++ B)
theorem klt_ne {a b : List Nat} (h : klt a b) : a ≠ b := fun e => by rw [e] at h; exact klt_irrefl _ h
theorem MSet.mem {m m' : Mp} {k : List Nat} {o : Option (List Nat)} (h : MSet m k o m') (x y : List Nat) : (x, y) ∈ m' ↔ (x = k ∧ o = some y) ∨ (x ≠ k ∧ (x, y) ∈ m) := by
  obtain ⟨A, B, hA, hB, hm, rfl⟩ := h
  have hAB : ∀ x y, ((x, y) ∈ A ∨ (x, y) ∈ B) ↔ (x ≠ k ∧ (x, y) ∈ m) := by
    intro x y
    constructor
    · rintro (z | z)
      · refine ⟨klt_ne (hA _ z), ?_⟩
        rcases hm with rfl | ⟨v, rfl⟩ <;> exact List.mem_append_left _ z
      · refine ⟨(klt_ne (hB _ z)).symm, ?_⟩
        rcases hm with rfl | ⟨v, rfl⟩
        · exact List.mem_append_right _ z
        · exact List.mem_append_right _ (List.mem_cons_of_mem _ z)
    · rintro ⟨hn, z⟩
      rcases hm with rfl | ⟨v, rfl⟩
      · exact List.mem_append.mp z
      · rcases List.mem_append.mp z with z | z
        · exact Or.inl z
        · rcases List.mem_cons.mp z with e | z
          · cases e; exact absurd rfl hn
          · exact Or.inr z
  cases o with
  | none =>
    rw [Option.map_none, Option.toList_none, List.nil_append, List.mem_append, hAB]
    constructor
    · exact Or.inr
    · rintro (⟨-, z⟩ | z)
      · cases z
      · exact z
  | some v =>
    rw [Option.map_some, Option.toList_some, List.mem_append, List.singleton_append, List.mem_cons, or_left_comm, hAB]
    constructor
    · rintro (z | z)
      · cases z; exact Or.inl ⟨rfl, rfl⟩
      · exact Or.inr z
    · rintro (⟨rfl, z⟩ | z)
      · cases z; exact Or.inl rfl
      · exact Or.inr z
theorem MSet.srt {m m' : Mp} {k : List Nat} {o : Option (List Nat)} (h : MSet m k o m') (hs : Srt m) : Srt m' := by
  obtain ⟨A, B, hA, hB, hm, rfl⟩ := h
  have h1 : Srt A ∧ Srt B ∧ ∀ a ∈ A, ∀ b ∈ B, klt a.1 b.1 := by
    rcases hm with rfl | ⟨v, rfl⟩
    · obtain ⟨a, b, c⟩ := List.pairwise_append.mp hs
      exact ⟨a, b, c⟩
    · obtain ⟨a, b, c⟩ := List.pairwise_append.mp hs
      exact ⟨a, (List.pairwise_cons.mp b).2, fun x hx y hy => c x hx y (List.mem_cons_of_mem _ hy)⟩
  cases o with
  | none => exact List.pairwise_append.mpr ⟨h1.1, h1.2.1, h1.2.2⟩
  | some v =>
    refine List.pairwise_append.mpr ⟨h1.1, List.pairwise_cons.mpr ⟨hB, h1.2.1⟩, fun a ha b hb => ?_⟩
    rcases List.mem_cons.mp hb with rfl | hb
    · exact hA a ha
    · exact h1.2.2 a ha b hb
/-- bytes: what goes, what comes -/
theorem MSet.sz {m m' : Mp} {k : List Nat} {o : Option (List Nat)} (h : MSet m k o m') (hs : Srt m) : ∃ x y, msz m' + x = msz m + y ∧ m'.length + (if x = 0 then 0 else 1) = m.length + (if y = 0 then 0 else 1) ∧ (∀ v, (k, v) ∈ m → x = 8 + k.length + v.length) ∧ ((∀ v, (k, v) ∉ m) → x = 0) ∧ (∀ v, o = some v → y = 8 + k.length + v.length) ∧ (o = none → y = 0) := by
  obtain ⟨A, B, hA, hB, hm, rfl⟩ := id h
  have hin : ∀ v, (k, v) ∈ A ++ B → False := fun v z => (List.mem_append.mp z).elim (fun z => klt_irrefl _ (hA _ z)) (fun z => klt_irrefl _ (hB _ z))
  rcases hm with rfl | ⟨v0, rfl⟩
  · cases o with
    | none => exact ⟨0, 0, by simp, by simp, fun v z => (hin v z).elim, fun _ => rfl, fun v z => (by cases z), fun _ => rfl⟩
    | some w => exact ⟨0, 8 + k.length + w.length, by rw [Option.map_some, Option.toList_some, msz_append, List.singleton_append, msz_cons, msz_append]; dsimp only; omega, by rw [if_neg (show ¬ 8 + k.length + w.length = 0 by omega)]; simp; omega, fun v z => (hin v z).elim, fun _ => rfl, fun v z => (by cases z; rfl), fun z => by cases z⟩
  · have hx : ∀ v, (k, v) ∈ A ++ (k, v0) :: B → 8 + k.length + v0.length = 8 + k.length + v.length := fun v z => by
      rw [hs.uniq z (List.mem_append_right _ List.mem_cons_self)]
    cases o with
    | none => exact ⟨8 + k.length + v0.length, 0, by rw [Option.map_none, Option.toList_none, List.nil_append, msz_append, msz_append, msz_cons]; dsimp only; omega, by rw [if_neg (show ¬ 8 + k.length + v0.length = 0 by omega)]; simp; omega, hx, fun z => (z v0 (List.mem_append_right _ List.mem_cons_self)).elim, fun v z => (by cases z), fun _ => rfl⟩
    | some w => exact ⟨8 + k.length + v0.length, 8 + k.length + w.length, by rw [Option.map_some, Option.toList_some, msz_append, List.singleton_append, msz_cons, msz_append, msz_cons]; dsimp only; omega, by rw [if_neg (show ¬ 8 + k.length + v0.length = 0 by omega), if_neg (show ¬ 8 + k.length + w.length = 0 by omega)]; simp, hx, fun z => (z v0 (List.mem_append_right _ List.mem_cons_self)).elim, fun v z => (by cases z; rfl), fun z => by cases z⟩
/-- a step of a batch: kind, key, value -/
abbrev Sp : Type := Nat × List Nat × List Nat
def spo (s : Sp) : Option (List Nat) := if s.1 = 1 then some s.2.2 else none
def MSets : Mp → List Sp → Mp → Prop
  | m, [], m' => m' = m
  | m, s :: ss, m' => ∃ m1, MSet m s.2.1 (spo s) m1 ∧ MSets m1 ss m'
theorem MSets.snoc : ∀ {ss : List Sp} {m m1 m' : Mp} {s : Sp}, MSets m ss m1 → MSet m1 s.2.1 (spo s) m' → MSets m (ss ++ [s]) m'
  | [], m, m1, m', s, h, g => by cases h; exact ⟨m', g, rfl⟩
  | t :: ss, m, m1, m', s, h, g => by
    obtain ⟨m2, h1, h2⟩ := h
    exact ⟨m2, h1, MSets.snoc h2 g⟩
theorem MSets.srt : ∀ {ss : List Sp} {m m' : Mp}, MSets m ss m' → Srt m → Srt m'
  | [], m, m', h, hs => by cases h; exact hs
  | s :: ss, m, m', h, hs => by
    obtain ⟨m1, h1, h2⟩ := h
    exact h2.srt (h1.srt hs)
/-- the last step of a key counts -/
def lastS (ss : List Sp) (x : List Nat) (s : Sp) : Prop := ∃ i : Nat, ss[i]? = some s ∧ s.2.1 = x ∧ ∀ j t, i < j → ss[j]? = some t → t.2.1 ≠ x
theorem MSets.mem : ∀ {ss : List Sp} {m m' : Mp}, MSets m ss m' → ∀ (x y : List Nat), (x, y) ∈ m' ↔ (∃ s, lastS ss x s ∧ spo s = some y) ∨ ((∀ s ∈ ss, s.2.1 ≠ x) ∧ (x, y) ∈ m)
  | [], m, m', h, x, y => by
    cases h
    constructor
    · intro z; exact Or.inr ⟨fun s hs => (by cases hs), z⟩
    · rintro (⟨s, ⟨i, h, -⟩, -⟩ | ⟨-, z⟩)
      · simp at h
      · exact z
  | s :: ss, m, m', h, x, y => by
    obtain ⟨m1, h1, h2⟩ := h
    rw [MSets.mem h2 x y, h1.mem x y]
    constructor
    · rintro (⟨t, ⟨i, a1, a2, a3⟩, ho⟩ | ⟨hn, ⟨rfl, ho⟩ | ⟨hx, hm⟩⟩)
      · refine Or.inl ⟨t, ⟨i + 1, a1, a2, fun j u hj hu => ?_⟩, ho⟩
        cases j with
        | zero => omega
        | succ j => exact a3 j u (by omega) hu
      · refine Or.inl ⟨s, ⟨0, rfl, rfl, fun j u hj hu => ?_⟩, ho⟩
        cases j with
        | zero => omega
        | succ j => exact hn u (List.mem_of_getElem? hu)
      · refine Or.inr ⟨fun u hu => ?_, hm⟩
        rcases List.mem_cons.mp hu with rfl | hu
        · exact Ne.symm hx
        · exact hn u hu
    · rintro (⟨t, ⟨i, a1, a2, a3⟩, ho⟩ | ⟨hn, hm⟩)
      · cases i with
        | zero =>
          cases a1
          refine Or.inr ⟨fun u hu => ?_, Or.inl ⟨a2.symm, ho⟩⟩
          obtain ⟨j, hj⟩ := List.getElem?_of_mem hu
          exact a3 (j + 1) u (by omega) hj
        | succ i => exact Or.inl ⟨t, ⟨i, a1, a2, fun j u hj hu => a3 (j + 1) u (by omega) hu⟩, ho⟩
      · exact Or.inr ⟨fun u hu => hn u (List.mem_cons_of_mem _ hu), Or.inr ⟨Ne.symm (hn s List.mem_cons_self), hm⟩⟩
/-- of the first n steps those that are the last of their key -/
def lsts (ss : List Sp) : Nat → List Sp
  | 0 => []
  | n + 1 => lsts ss n ++ (match ss[n]? with | some s => if (ss.drop (n + 1)).any (fun t => decide (t.2.1 = s.2.1)) then [] else [s] | none => [])
theorem lsts_mem {ss : List Sp} : ∀ {n : Nat} {s : Sp}, s ∈ lsts ss n ↔ ∃ i, i < n ∧ ss[i]? = some s ∧ ∀ j t, i < j → ss[j]? = some t → t.2.1 ≠ s.2.1
  | 0, s => by
    constructor
    · intro h; cases h
    · rintro ⟨i, h, -⟩; omega
  | n + 1, s => by
    have key : (∀ s0, ss[n]? = some s0 → ((ss.drop (n + 1)).any (fun t => decide (t.2.1 = s0.2.1)) = true ↔ ∃ j t, n < j ∧ ss[j]? = some t ∧ t.2.1 = s0.2.1)) := by
      intro s0 _
      rw [List.any_eq_true]
      constructor
      · rintro ⟨t, ht, he⟩
        obtain ⟨j, hj⟩ := List.getElem?_of_mem ht
        rw [List.getElem?_drop] at hj
        exact ⟨n + 1 + j, t, by omega, hj, of_decide_eq_true he⟩
      · rintro ⟨j, t, hj, ht, he⟩
        refine ⟨t, List.mem_of_getElem? (i := j - (n + 1)) (by rw [List.getElem?_drop, show n + 1 + (j - (n + 1)) = j by omega]; exact ht), decide_eq_true he⟩
    show s ∈ lsts ss n ++ _ ↔ _
    rw [List.mem_append, lsts_mem (n := n)]
    cases hn : ss[n]? with
    | none =>
      constructor
      · rintro (⟨i, a, b⟩ | z)
        · exact ⟨i, by omega, b⟩
        · cases z
      · rintro ⟨i, a, b, c⟩
        refine Or.inl ⟨i, ?_, b, c⟩
        rcases Nat.lt_or_ge i n with e | e
        · exact e
        · rw [show i = n by omega, hn] at b; cases b
    | some s0 =>
      have k0 := key s0 hn
      constructor
      · rintro (⟨i, a, b⟩ | z)
        · exact ⟨i, by omega, b⟩
        · dsimp only at z
          split at z
          · cases z
          · rename_i hh
            cases List.mem_singleton.mp z
            exact ⟨n, by omega, hn, fun j t hj ht he => hh (k0.mpr ⟨j, t, hj, ht, he⟩)⟩
      · rintro ⟨i, a, b, c⟩
        rcases Nat.lt_or_ge i n with e | e
        · exact Or.inl ⟨i, e, b, c⟩
        · have e : i = n := by omega
          subst e
          rw [hn] at b
          cases b
          refine Or.inr ?_
          dsimp only
          rw [if_neg (fun hh => by obtain ⟨j, t, hj, ht, he⟩ := k0.mp hh; exact c j t hj ht he)]
          exact List.mem_singleton.mpr rfl
/-- doing the last steps alone comes to the same -/
theorem lsts_all {ss : List Sp} {m m' m'' : Mp} (hs : Srt m) (h : MSets m ss m') (g : MSets m (lsts ss ss.length) m'') : m'' = m' := by
  refine Srt.ext (g.srt hs) (h.srt hs) (fun x => ?_)
  obtain ⟨x, y⟩ := x
  rw [g.mem x y, h.mem x y]
  have e1 : ∀ s, lastS (lsts ss ss.length) x s → lastS ss x s := by
    rintro s ⟨i, a1, a2, -⟩
    obtain ⟨j, b1, b2, b3⟩ := lsts_mem.mp (List.mem_of_getElem? a1)
    exact ⟨j, b2, a2, fun j' t hj ht => by rw [← a2]; exact b3 j' t hj ht⟩
  have e2 : ∀ s, lastS ss x s → s ∈ lsts ss ss.length := by
    rintro s ⟨i, a1, a2, a3⟩
    exact lsts_mem.mpr ⟨i, (List.getElem?_eq_some_iff.mp a1).1, a1, fun j t hj ht => by rw [a2]; exact a3 j t hj ht⟩
  have e3 : ∀ (l : List Sp) (t : Sp), t ∈ l → t.2.1 = x → ∃ s, lastS l x s := by
    intro l
    induction l with
    | nil => intro t ht; cases ht
    | cons a l ih =>
      intro t ht hx
      by_cases h0 : ∃ u ∈ l, u.2.1 = x
      · obtain ⟨u, hu, hux⟩ := h0
        obtain ⟨s, i, b1, b2, b3⟩ := ih u hu hux
        refine ⟨s, i + 1, b1, b2, fun j v hj hv => ?_⟩
        cases j with
        | zero => omega
        | succ j => exact b3 j v (by omega) hv
      · rcases List.mem_cons.mp ht with rfl | ht
        · refine ⟨t, 0, rfl, hx, fun j v hj hv he => ?_⟩
          cases j with
          | zero => omega
          | succ j => exact h0 ⟨v, List.mem_of_getElem? hv, he⟩
        · exact absurd ⟨t, ht, hx⟩ h0
  have e4 : ∀ s s', lastS ss x s → lastS ss x s' → s = s' := by
    rintro s s' ⟨i, a1, a2, a3⟩ ⟨j, b1, b2, b3⟩
    rcases Nat.lt_trichotomy i j with e | e | e
    · exact absurd b2 (a3 j s' e b1)
    · rw [e, b1] at a1; cases a1; rfl
    · exact absurd a2 (b3 i s e a1)
  constructor
  · rintro (⟨s, a1, a2⟩ | ⟨a1, a2⟩)
    · exact Or.inl ⟨s, e1 s a1, a2⟩
    · refine Or.inr ⟨fun s hs hx => ?_, a2⟩
      obtain ⟨t, ht⟩ := e3 ss s hs hx
      obtain ⟨-, -, hx', -⟩ := id ht
      exact a1 t (e2 t ht) hx'
  · rintro (⟨s, a1, a2⟩ | ⟨a1, a2⟩)
    · obtain ⟨-, -, hx', -⟩ := id a1
      obtain ⟨t, ht⟩ := e3 _ s (e2 s a1) hx'
      have := e4 s t a1 (e1 t ht)
      subst this
      exact Or.inl ⟨s, ht, a2⟩
    · refine Or.inr ⟨fun s hs => ?_, a2⟩
      obtain ⟨j, -, b2, -⟩ := lsts_mem.mp hs
      exact a1 s (List.mem_of_getElem? b2)
/-- a step that is not the last of its key changes nothing of the count; a last one does -/
theorem lsts_key {ss : List Sp} {n : Nat} {s t : Sp} (hs : ss[n]? = some s) (ht : t ∈ lsts ss n) : t.2.1 ≠ s.2.1 := by
  obtain ⟨i, a, b, c⟩ := lsts_mem.mp ht
  exact (c n s a hs).symm
theorem lsts_succ {ss : List Sp} {n : Nat} {s : Sp} (hs : ss[n]? = some s) : ((∀ j u, n < j → ss[j]? = some u → u.2.1 ≠ s.2.1) → lsts ss (n + 1) = lsts ss n ++ [s]) ∧ ((¬ ∀ j u, n < j → ss[j]? = some u → u.2.1 ≠ s.2.1) → lsts ss (n + 1) = lsts ss n) := by
  have h0 : lsts ss (n + 1) = lsts ss n ++ (match ss[n]? with | some s => if (ss.drop (n + 1)).any (fun t => decide (t.2.1 = s.2.1)) then [] else [s] | none => []) := rfl
  rw [h0, hs]
  dsimp only
  constructor
  · intro h
    rw [if_neg]
    intro z
    rw [List.any_eq_true] at z
    obtain ⟨t, ht, he⟩ := z
    obtain ⟨j, hj⟩ := List.getElem?_of_mem ht
    rw [List.getElem?_drop] at hj
    exact h (n + 1 + j) t (by omega) hj (of_decide_eq_true he)
  · intro h
    rw [if_pos, List.append_nil]
    rw [List.any_eq_true]
    refine Classical.byContradiction (fun z => h (fun j u hj hu he => z ⟨u, List.mem_of_getElem? (i := j - (n + 1)) (by rw [List.getElem?_drop, show n + 1 + (j - (n + 1)) = j by omega]; exact hu), decide_eq_true he⟩))
