/-! ===== what a view sees, row by row; files by their blocks ===== -/
/-- what the view w sees of the first j rows -/
def VsL (D : Nat → Int32) (P : List Nat) (w : Nat) : Nat → Mp → Prop
  | 0, L => L = []
  | j + 1, L => ∃ L0, VsL D P w j L0 ∧ ((Vis D P w j ∧ ∃ x, P[j]? = some x ∧ L = L0 ++ [(eky D x, eva D x)]) ∨ (¬ Vis D P w j ∧ L = L0))
theorem VsL.skip {D : Nat → Int32} {P : List Nat} {w a : Nat} {L : Mp} (h : VsL D P w a L) : ∀ (k : Nat), (∀ i, a ≤ i → i < a + k → ¬ Vis D P w i) → VsL D P w (a + k) L
  | 0, _ => h
  | k + 1, hn => ⟨L, VsL.skip h k (fun i h1 h2 => hn i h1 (by omega)), Or.inr ⟨hn (a + k) (by omega) (by omega), rfl⟩⟩
theorem VsL.hit {D : Nat → Int32} {P : List Nat} {w j x : Nat} {L : Mp} (h : VsL D P w j L) (hv : Vis D P w j) (hx : P[j]? = some x) : VsL D P w (j + 1) (L ++ [(eky D x, eva D x)]) := ⟨L, h, Or.inl ⟨hv, x, hx, rfl⟩⟩
theorem VsL.mem {D : Nat → Int32} {P : List Nat} {w : Nat} : ∀ {j : Nat} {L : Mp}, VsL D P w j L → ∀ a, a ∈ L ↔ ∃ i x, i < j ∧ Vis D P w i ∧ P[i]? = some x ∧ a = (eky D x, eva D x)
  | 0, L, h, a => by
    cases h
    constructor
    · intro z; cases z
    · rintro ⟨i, x, hi, -⟩; omega
  | j + 1, L, h, a => by
    obtain ⟨L0, h0, h1⟩ := h
    rcases h1 with ⟨hv, x, hx, rfl⟩ | ⟨hv, rfl⟩
    · rw [List.mem_append, VsL.mem h0 a, List.mem_singleton]
      constructor
      · rintro (⟨i, y, hi, r⟩ | z)
        · exact ⟨i, y, by omega, r⟩
        · exact ⟨j, x, by omega, hv, hx, z⟩
      · rintro ⟨i, y, hi, r1, r2, r3⟩
        rcases Nat.lt_or_ge i j with e | e
        · exact Or.inl ⟨i, y, e, r1, r2, r3⟩
        · rw [show i = j by omega, hx] at r2
          cases r2
          exact Or.inr r3
    · rw [VsL.mem h0 a]
      constructor
      · rintro ⟨i, y, hi, r⟩
        exact ⟨i, y, by omega, r⟩
      · rintro ⟨i, y, hi, r1, r2⟩
        rcases Nat.lt_or_ge i j with e | e
        · exact ⟨i, y, e, r1, r2⟩
        · rw [show i = j by omega] at r1; exact absurd r1 hv
/-- two rows that are seen have other keys -/
theorem vis_lt {D : Nat → Int32} {P : List Nat} {w i j x y : Nat} (hs : P.Pairwise (pre D)) (hij : i < j) (hi : Vis D P w i) (hj : Vis D P w j) (hx : P[i]? = some x) (hy : P[j]? = some y) : klt (eky D x) (eky D y) := by
  rcases pw_get hs hij hx hy with z | ⟨z1, z2⟩
  · exact z
  · exfalso
    obtain ⟨y', b1, b2, b3, b4⟩ := hj
    rw [hy] at b1
    cases b1
    obtain ⟨x', a1, a2, -⟩ := hi
    rw [hx] at a1
    cases a1
    obtain ⟨q, hq⟩ : ∃ q, P[j - 1]? = some q := ⟨_, List.getElem?_eq_getElem (by have := (List.getElem?_eq_some_iff.mp hy).1; omega)⟩
    refine b3 ⟨q, y, by omega, hq, hy, ?_, ?_⟩
    · rcases Nat.lt_or_ge i (j - 1) with e | e
      · rcases pw_get hs e hx hq with w1 | ⟨w1, -⟩
        · rcases pw_get hs (show j - 1 < j by omega) hq hy with w2 | ⟨w2, -⟩
          · have := klt_trans _ _ _ w1 w2
            rw [z1] at this
            exact absurd this (klt_irrefl _)
          · exact w2
        · rw [← w1]; exact z1
      · rw [show j - 1 = i by omega, hx] at hq
        cases hq
        exact z1
    · rcases Nat.lt_or_ge i (j - 1) with e | e
      · rcases pw_get hs e hx hq with w1 | ⟨w1, w2⟩
        · exfalso
          rcases pw_get hs (show j - 1 < j by omega) hq hy with w3 | ⟨w3, -⟩
          · have := klt_trans _ _ _ w1 w3
            rw [z1] at this
            exact klt_irrefl _ this
          · rw [w3, ← z1] at w1
            exact klt_irrefl _ w1
        · omega
      · rw [show j - 1 = i by omega, hx] at hq
        cases hq
        exact a2
theorem VsL.srt {D : Nat → Int32} {P : List Nat} {w : Nat} (hs : P.Pairwise (pre D)) : ∀ {j : Nat} {L : Mp}, VsL D P w j L → Srt L
  | 0, L, h => by cases h; exact List.Pairwise.nil
  | j + 1, L, h => by
    obtain ⟨L0, h0, h1⟩ := h
    rcases h1 with ⟨hv, x, hx, rfl⟩ | ⟨hv, rfl⟩
    · refine List.pairwise_append.mpr ⟨VsL.srt hs h0, List.pairwise_singleton _ _, fun a ha b hb => ?_⟩
      rw [List.mem_singleton.mp hb]
      obtain ⟨i, y, hi, r1, r2, r3⟩ := (h0.mem a).mp ha
      rw [r3]
      exact vis_lt hs hi r1 hv r2 hx
    · exact VsL.srt hs h0
theorem VsL.end {D : Nat → Int32} {P U : List Nat} {w : Nat} {L sn : Mp} (hs : P.Pairwise (pre D)) (hp : P.Perm U) (h : VsL D P w P.length L) (hsn : Srt sn) (hv : ∀ k v, vw (U.map (ent D)) w k v ↔ (k, v) ∈ sn) : L = sn := by
  refine Srt.ext (h.srt hs) hsn (fun a => ?_)
  obtain ⟨k, v⟩ := a
  rw [h.mem, ← hv]
  constructor
  · rintro ⟨i, x, hi, ⟨x', b1, b2, b3, b4⟩, r2, r3⟩
    rw [r2] at b1
    cases b1
    cases r3
    refine ⟨ent D x, List.mem_map_of_mem (hp.mem_iff.mp (List.mem_of_getElem? r2)), rfl, b2, b4, rfl, fun f hf hfk hfw => ?_⟩
    obtain ⟨y, hy, rfl⟩ := List.mem_map.mp hf
    obtain ⟨j, hj⟩ := List.getElem?_of_mem (hp.mem_iff.mpr hy)
    have hfk' : eky D y = eky D x := hfk
    show ecm D y ≤ ecm D x
    rcases Nat.lt_trichotomy i j with e | e | e
    · rcases pw_get hs e r2 hj with z | ⟨-, z⟩
      · rw [hfk'] at z; exact absurd z (klt_irrefl _)
      · omega
    · rw [← e, r2] at hj; cases hj; exact Nat.le_refl _
    · exfalso
      obtain ⟨q, hq⟩ : ∃ q, P[i - 1]? = some q := ⟨_, List.getElem?_eq_getElem (by omega)⟩
      refine b3 ⟨q, x, by omega, hq, r2, ?_⟩
      rcases Nat.lt_or_ge j (i - 1) with e2 | e2
      · rcases pw_get hs e2 hj hq with z | ⟨z, z'⟩
        · exfalso
          rcases pw_get hs (show i - 1 < i by omega) hq r2 with y1 | ⟨y1, -⟩
          · have := klt_trans _ _ _ z y1
            rw [hfk'] at this
            exact klt_irrefl _ this
          · rw [y1, hfk'] at z; exact klt_irrefl _ z
        · have hfw' : ecm D y ≤ w := hfw
          exact ⟨z.symm.trans hfk', by omega⟩
      · rw [show i - 1 = j by omega, hj] at hq
        cases hq
        exact ⟨hfk', hfw⟩
  · rintro ⟨e, h1, h2, h3, h4, h5, h6⟩
    obtain ⟨x, hx, rfl⟩ := List.mem_map.mp h1
    obtain ⟨i, hi⟩ := List.getElem?_of_mem (hp.mem_iff.mpr hx)
    have h2' : eky D x = k := h2
    have h5' : eva D x = v := h5
    refine ⟨i, x, (List.getElem?_eq_some_iff.mp hi).1, ⟨x, hi, h3, ?_, h4⟩, hi, by rw [h2', h5']⟩
    rintro ⟨q, x', a1, a2, a3, a4, a5⟩
    rw [hi] at a3
    cases a3
    have h7 := h6 (ent D q) (List.mem_map_of_mem (hp.mem_iff.mp (List.mem_of_getElem? a2))) (a4.trans h2') a5
    have h8 : ecm D q ≤ ecm D x := h7
    rcases pw_get hs (show i - 1 < i by omega) a2 hi with z | ⟨-, z⟩
    · rw [a4] at z; exact klt_irrefl _ z
    · omega
theorem pks_all (wl : Nat) (E : List Nat) (Ls : Nat → List zF) (h : wl = 1) : pks wl E Ls (fun _ => 0) (fun l => (Ls l).length) 3 = up E Ls 3 := by
  have hs : ∀ fs : List zF, seg fs 0 fs.length = lvE fs := fun fs => by
    unfold seg
    rw [List.take_length, List.drop_zero]
  show ((((if wl = 1 then E else []) ++ seg (Ls 0) 0 (Ls 0).length) ++ seg (Ls 1) 0 (Ls 1).length) ++ seg (Ls 2) 0 (Ls 2).length) = ((E ++ lvE (Ls 0)) ++ lvE (Ls 1)) ++ lvE (Ls 2)
  rw [if_pos h, hs, hs, hs]
/-! files, but for their tables' numbers -/
theorem lvE_2 (fs : List zF) : lvE fs = ((fs.map (·.2)).map (fun q => q.2.flatten)).flatten := by unfold lvE; rw [List.map_map]; rfl
theorem bk_2 (fs : List zF) : bk fs = ((fs.map (·.2)).map (·.1)).flatten := by unfold bk; rw [List.map_map]; rfl
theorem eLv_2 (fs : List zF) : eLv fs = nb (fs.map (·.2)).length 2 ++ ((fs.map (·.2)).map (fun q => eTb q.1)).flatten := by unfold eLv; rw [List.map_map, List.length_map]; rfl
theorem mem_2 {A B : List zF} (h : A.map (·.2) = B.map (·.2)) {f : zF} (hf : f ∈ A) : ∃ g ∈ B, g.2 = f.2 := List.mem_map.mp (by rw [← h]; exact List.mem_map_of_mem hf)
theorem LC_2 {D : Nat → Int32} {A B : List zF} (h : A.map (·.2) = B.map (·.2)) (hB : LC D B) : LC D A := by
  refine ⟨fun f hf => ?_, ?_⟩
  · obtain ⟨g, hg, e⟩ := mem_2 h hf
    rw [← e]; exact hB.1 g hg
  · have h1 : (B.map (·.2)).Pairwise (fun f g => ∀ p ∈ f.2.flatten, ∀ q ∈ g.2.flatten, klt (eky D p) (eky D q)) := List.pairwise_map.mpr hB.2
    rw [← h] at h1
    exact List.pairwise_map.mp h1
theorem up_2 {E : List Nat} {Fs Ls : Nat → List zF} (h : ∀ l, l < 3 → (Fs l).map (·.2) = (Ls l).map (·.2)) : ∀ {k : Nat}, k ≤ 3 → up E Fs k = up E Ls k
  | 0, _ => rfl
  | k + 1, hk => by
    show up E Fs k ++ lvE (Fs k) = up E Ls k ++ lvE (Ls k)
    rw [up_2 h (by omega), lvE_2, lvE_2, h k (by omega)]
theorem bks_2 {Fs Ls : Nat → List zF} (h : ∀ l, l < 3 → (Fs l).map (·.2) = (Ls l).map (·.2)) : ∀ {k : Nat}, k ≤ 3 → bks Fs k = bks Ls k
  | 0, _ => rfl
  | k + 1, hk => by
    show bks Fs k ++ bk (Fs k) = bks Ls k ++ bk (Ls k)
    rw [bks_2 h (by omega), bk_2, bk_2, h k (by omega)]
theorem eLs_2 {Fs Ls : Nat → List zF} (h : ∀ l, l < 3 → (Fs l).map (·.2) = (Ls l).map (·.2)) : ∀ {k : Nat}, k ≤ 3 → eLs Fs k = eLs Ls k
  | 0, _ => rfl
  | k + 1, hk => by
    show eLs Fs k ++ eLv (Fs k) = eLs Ls k ++ eLv (Ls k)
    rw [eLs_2 h (by omega), eLv_2, eLv_2, h k (by omega)]
theorem Dur_2 {D : Nat → Int32} {g ar us cm c n gm : Nat} {Fs Ls : Nat → List zF} {rs : List (List Nat)} {E : List Nat} {m : Mp} (h : ∀ l, l < 3 → (Fs l).map (·.2) = (Ls l).map (·.2)) (hU : Dur D g ar us cm c n gm Ls rs E m) : Dur D g ar us cm c n gm Fs rs E m := by
  obtain ⟨⟨a1, a2, a3, a4⟩, ⟨b1, b2⟩, a5, ⟨c1, c2, c3, c4, c5⟩, a7, a8, a9⟩ := hU
  have eu := up_2 (E := E) h (Nat.le_refl 3)
  refine ⟨⟨a1, a2, a3, ?_⟩, ⟨fun l hl => ⟨LC_2 (h l hl) (b1 l hl).1, fun f hf => ?_⟩, by rw [bks_2 h (Nat.le_refl 3)]; exact b2⟩, a5, ⟨fun k hk p hp q hq => ?_, by rw [eu]; exact c2, by rw [eu]; exact c3, by rw [eu]; exact c4, by rw [eu]; exact c5⟩, a7, a8, a9⟩
  · rcases a4 with ⟨z1, z2, z3, z4, z5, z6⟩ | ⟨z1, z2, z3⟩
    · refine Or.inl ⟨z1, z2, z3, fun l hl => ?_, z5, z6⟩
      have := h l hl
      rw [z4 l hl] at this
      exact List.map_eq_nil_iff.mp this
    · refine Or.inr ⟨z1, ?_, z3⟩
      unfold hdB at z2 ⊢
      rw [eLs_2 h (Nat.le_refl 3)]
      exact z2
  · obtain ⟨g, hg, e⟩ := mem_2 (h l hl) hf
    have := (b1 l hl).2 g hg
    unfold TF fE at this ⊢
    rw [e] at this
    exact this
  · rw [up_2 h (by omega)] at hp
    rw [lvE_2, h k hk, ← lvE_2] at hq
    exact c1 k hk p hp q hq
theorem nodup_perm {l us : List Nat} (h1 : l.Nodup) (h2 : us.Nodup) (hs : ∀ x ∈ l, x ∈ us) (hl : us.length ≤ l.length) : us.Perm l := by
  refine (List.perm_ext_iff_of_nodup h2 h1).mpr (fun a => ⟨fun ha => ?_, hs a⟩)
  refine Classical.byContradiction (fun hn => ?_)
  have h3 : l ⊆ us.erase a := fun x hx => (List.mem_erase_of_ne (show x ≠ a from fun e => hn (by rw [← e]; exact hx))).mpr (hs x hx)
  have h4 := sub_len h1 h3
  have h5 := List.length_erase_of_mem ha
  have h6 := List.length_pos_of_mem ha
  omega
