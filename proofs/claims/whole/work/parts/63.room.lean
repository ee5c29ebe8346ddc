/-! ===== without snapshots there is always room ===== -/
theorem sim_none {D : Nat → Int32} {R : List Nat} (hk : ∀ i, 1 ≤ i → i < R.length → eky D (rg R (i - 1)) ≠ eky D (rg R i)) (hl : ∀ i, i < R.length → eln D (rg R i) ≤ 240) : ∀ j, j ≤ R.length → (sim D R j).1 ≤ 4 ∧ (sim D R j).2.1 ≤ 512 ∧ (sim D R j).2.2.1 ≤ 2 * j ∧ (sim D R j).2.2.2 ≤ j := by
  intro j
  induction j with
  | zero => intro _; exact ⟨Nat.zero_le _, Nat.zero_le _, Nat.zero_le _, Nat.zero_le _⟩
  | succ j ih =>
    intro hj
    obtain ⟨a1, a2, a3, a4⟩ := ih (by omega)
    have hL := hl j (by omega)
    obtain ⟨n, hn⟩ : ∃ n, n = stp D R j (sim D R j).1 (sim D R j).2.1 := ⟨_, rfl⟩
    have hst : n = 2 ∨ (n = 0 ∧ (sim D R j).2.1 + eln D (rg R j) ≤ 512) ∨ (n = 1 ∧ (sim D R j).1 ≤ 3) := by
      unfold stp at hn
      by_cases h1 : j = 0 ∨ (eky D (rg R (j - 1)) ≠ eky D (rg R j) ∧ (4 < (sim D R j).1 ∨ ((sim D R j).1 = 4 ∧ 512 < (sim D R j).2.1 + eln D (rg R j))))
      · rw [if_pos h1] at hn; exact Or.inl hn
      · rw [if_neg h1] at hn
        by_cases h2 : (sim D R j).2.1 + eln D (rg R j) ≤ 512
        · rw [if_pos h2] at hn; exact Or.inr (Or.inl ⟨hn, h2⟩)
        · rw [if_neg h2] at hn
          refine Or.inr (Or.inr ⟨hn, ?_⟩)
          refine Nat.le_of_not_lt (fun z => h1 ?_)
          rcases Nat.eq_zero_or_pos j with e | e
          · exact Or.inl e
          · exact Or.inr ⟨hk j e (by omega), Or.inr ⟨by omega, by omega⟩⟩
    have e : sim D R (j + 1) = (adS n (sim D R j).1, adF n (sim D R j).2.1 (eln D (rg R j)), (sim D R j).2.2.1 + (if n = 2 then 2 else if n = 1 then 1 else 0), (sim D R j).2.2.2 + (if n = 2 then 1 else 0)) := by rw [hn]; rfl
    rw [e]
    unfold adS adF
    rcases hst with h | ⟨h, h'⟩ | ⟨h, h'⟩
    · subst h; rw [if_pos rfl, if_neg (by decide), if_pos rfl, if_pos rfl]; dsimp only; omega
    · subst h; rw [if_neg (by decide), if_pos rfl, if_pos rfl, if_neg (by decide), if_neg (by decide), if_neg (by decide)]; dsimp only; omega
    · subst h; rw [if_neg (by decide), if_neg (by decide), if_neg (by decide), if_neg (by decide), if_pos rfl, if_neg (by decide)]; dsimp only; omega
theorem Thn.room {D : Nat → Int32} {P T : List Nat} {v : Nat → Option Nat} {low fb ft : Nat} (hs : P.Pairwise (pre D)) (hT : Thn D P v low T) (hv : ∀ i, i < 8 → v i = none) (hw : ∀ p ∈ P, Ewf D p) (h1 : 2 * T.length ≤ fb) (h2 : T.length ≤ ft) : Rm D T fb ft := by
  have hTs : T.Pairwise (pre D) := hs.sublist hT.1
  have hg : ∀ i, i < T.length → T[i]? = some (rg T i) := fun i hi => by
    have := List.getElem?_eq_getElem hi
    rw [rg_some this]
    exact this
  have hk : ∀ i, 1 ≤ i → i < T.length → eky D (rg T (i - 1)) ≠ eky D (rg T i) := fun i hi hil he => by
    have ga := hg (i - 1) (by omega)
    have gb := hg i hil
    have hpre := pw_get hTs (show i - 1 < i by omega) ga gb
    obtain ⟨jb, b1, b2⟩ := hT.2.2 _ (List.mem_of_getElem? gb)
    obtain ⟨ja, a1⟩ := List.getElem?_of_mem (hT.1.subset (List.mem_of_getElem? ga))
    rcases Nat.lt_trichotomy ja jb with e | e | e
    · refine new_key hs b1 ?_ e a1 he.symm
      rcases b2 with z | ⟨q, x, q1, q2, q3⟩
      · exact Or.inl z
      · rw [b1] at q2
        cases q2
        refine Or.inr ⟨q, q1, ?_⟩
        rcases q3 with z | ⟨j, hj, y, hy, -⟩
        · exact z
        · rw [hv j hj] at hy; cases hy
    · subst e
      rw [a1] at b1
      rw [Option.some.inj b1] at hpre
      exact pre_irrefl hpre
    · exact pre_irrefl (pre_trans hpre (pw_get hs e b1 a1))
  have hl : ∀ i, i < T.length → eln D (rg T i) ≤ 240 := fun i hi => (hw _ (hT.1.subset (List.mem_of_getElem? (hg i hi)))).len.2
  have h := sim_none hk hl
  refine ⟨fun j _ hj => ?_, ?_, ?_⟩
  · have := h j hj
    omega
  · have := h T.length (Nat.le_refl _)
    omega
  · have := h T.length (Nat.le_refl _)
    omega
theorem Om.msc {ad : Nat → Nat} {M : zM} {E : List Nat} {Ls : Nat → List zF} {ar us to to2 g cm c : Nat} (h : Om ad M E Ls ar us to to2 g cm c) : Msc ad M := h.2.2.2.2.1
theorem Onn.fl {ad : Nat → Nat} {k : Nat} {LF LA LB : List Nat} {M M1 : zM} {E : List Nat} {Ls : Nat → List zF} {c n gm fl : Nat} {m : Mp} (h : Onn ad M E Ls c n gm fl m) (hF : Fl ad k LF LA LB M M1) (h1 : 162 ∉ LF ∧ 131 ∉ LF ∧ 258 ∉ LF ∧ 259 ∉ LF := by decide) (h2 : 2 ∉ LA ∧ 16 ∉ LA ∧ 64 ∉ LA := by decide) (h3 : 35 ∉ LB ∧ 36 ∉ LB ∧ 37 ∉ LB := by decide) (h4 : 68 ∉ LF ∧ 69 ∉ LF ∧ 70 ∉ LF ∧ 71 ∉ LF ∧ 260 ∉ LF ∧ 163 ∉ LF ∧ 164 ∉ LF ∧ 165 ∉ LF ∧ 166 ∉ LF ∧ 100 ∉ LF ∧ 102 ∉ LF ∧ 366 ∉ LF ∧ 18 ∉ LA ∧ 3 ∉ LA ∧ 21 ∉ LB := by decide) (h5 : 326 ∉ LF ∧ 327 ∉ LF := by decide) : Onn ad M1 E Ls c n gm fl m := by
  obtain ⟨ar, us, to, to2, g, cm, rs, a, b, d⟩ := h
  have e : zA M1 (ad 2) = zA M (ad 2) := hF.rA (i := 2) h2.1 (by decide)
  exact ⟨ar, us, to, to2, g, cm, rs, a.fl hF h1 h2 h3 h4 (a.msc.fl hF h4.2.2.2.1 h5.1 h5.2 h1.2.2.1 h1.2.2.2 h4.2.2.2.2.2.2.2.2.2.2.2.2.2.1 h2.2.2), by rw [e]; exact b, by rw [e]; exact d⟩
theorem Onn.mono {ad : Nat → Nat} {M : zM} {E : List Nat} {Ls : Nat → List zF} {c n gm n' gm' fl : Nat} {m : Mp} (h : Onn ad M E Ls c n gm fl m) (hn : n ≤ n') (hg : gm ≤ gm') : Onn ad M E Ls c n' gm' fl m := by
  obtain ⟨ar, us, to, to2, g, cm, rs, a, b, d⟩ := h
  exact ⟨ar, us, to, to2, g, cm, rs, a, b.mono hn hg, d⟩
theorem Ofn.mono {ad : Nat → Nat} {M : zM} {c n gm n' gm' : Nat} {m : Mp} (h : Ofn ad M c n gm m) (hn : n ≤ n') (hg : gm ≤ gm') : Ofn ad M c n' gm' m := by
  obtain ⟨⟨g, ar, us, cm, Ls, rs, E, a⟩, b, d⟩ := h
  exact ⟨⟨g, ar, us, cm, Ls, rs, E, a.mono hn hg⟩, b, d⟩
theorem Onn.off {ad : Nat → Nat} {M : zM} {E : List Nat} {Ls : Nat → List zF} {c n gm fl : Nat} {m : Mp} (h : Onn ad M E Ls c n gm fl m) : Ofn ad M c n gm m := by
  obtain ⟨ar, us, to, to2, g, cm, rs, a, b, d⟩ := h
  exact ⟨⟨g, ar, us, cm, Ls, rs, E, b⟩, a.msc, a.2.2.2.2.2.2.2.2.2.2.2.1⟩
theorem pkM_ne {ad : Nat → Nat} {M : zM} {l l' lo hi a b : Nat} (hL : Lay ad M) (h : Pk ad M l lo hi) (hl : l < 3) (hl' : l' < 3) (hn : l ≠ l') : Pk ad (pkM ad M l' a b) l lo hi := ⟨zput_ms (f := 133) (by decide) (zput_ma (f := 132) (hL.ne (by omega)) h.1), zput_ma (f := 133) (hL.ne (by omega)) (zput_ms (f := 132) (by decide) h.2)⟩
theorem pkM_fl {ad : Nat → Nat} {M : zM} (hL : Lay ad M) {l : Nat} (hl : l < 3) (a b : Nat) : Fl ad 0 [132, 133] [] [] M (pkM ad M l a b) := ((Fl.refl ad _ _ _ M).put hL (f := 132) (i := 32 + l) (by decide) (by omega)).put hL (f := 133) (i := 32 + l) (by decide) (by omega)
section FLD
variable {G : zG} {md : zD} {d k0 n0 : Nat} {Q : zOut → zM → Prop} {pc : Nat} {lv : List (Option Value)} {st : List Value} {M : zM}
theorem zr_fldN {i : Nat} (hd : decode md.2.1 pc = .ok (.iaload, 1)) (hi : i < 2) (kk : zw G md d k0 n0 Q (pc + 1) lv (.int (nI (if i = 0 then 10 else 25)) :: st) M) : zw G md d k0 n0 Q pc lv (.int (nI i) :: .ref (gf G) :: st) M := by
  refine zr_fld hd (zvp hi (by decide)) ?_
  rw [nI_clamp (by omega)]
  refine zr_as (y := nI (if i = 0 then 10 else 25)) ?_ kk
  unfold zlf
  by_cases h : i = 0
  · rw [if_pos h, if_pos h]; decide
  · rw [if_neg h, if_neg h]; decide
end FLD
