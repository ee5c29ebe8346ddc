/-! ===== entries copied, files that stay, what is written of new files ===== -/
/-- an entry without its place -/
def ent (D : Nat → Int32) (p : Nat) : En := (eky D p, ecm D p, zb (D p), eva D p)
/-- the same bytes elsewhere -/
theorem Ecp {D D' : Nat → Int32} {x y : Nat} (h : ∀ k, k < eln D x → D' (y + k) = D (x + k)) : ekl D' y = ekl D x ∧ evl D' y = evl D x ∧ ent D' y = ent D x := by
  have h8 : 8 ≤ eln D x := by unfold eln; omega
  have e0 : D' y = D x := h 0 (by omega)
  have e1 : ekl D' y = ekl D x := by unfold ekl; rw [h 1 (by omega)]
  have e2 : evl D' y = evl D x := by unfold evl; rw [h 2 (by omega)]
  have hn : ∀ k, k ≤ 4 → nuN D' (y + 4) k = nuN D (x + 4) k := by
    intro k
    induction k with
    | zero => intro _; rfl
    | succ k ih =>
      intro hk
      show nuN D' (y + 4) k * 256 + zb (D' (y + 4 + k)) = nuN D (x + 4) k * 256 + zb (D (x + 4 + k))
      rw [ih (by omega), Nat.add_assoc, h (4 + k) (by omega), Nat.add_assoc]
  have e3 : eky D' y = eky D x := by unfold eky; rw [e1]; exact rwl_congr (fun i hi => by rw [Nat.add_assoc, h (8 + i) (by unfold eln; omega), Nat.add_assoc])
  have e4 : eva D' y = eva D x := by unfold eva; rw [e1, e2]; exact rwl_congr (fun i hi => by rw [Nat.add_assoc, Nat.add_assoc, h (8 + (ekl D x + i)) (by unfold eln; omega), Nat.add_assoc, Nat.add_assoc])
  refine ⟨e1, e2, ?_⟩
  unfold ent
  rw [e0, e3, e4, show ecm D' y = ecm D x from hn 4 (Nat.le_refl _)]
theorem ent_len {D D' : Nat → Int32} {x y : Nat} (h : ent D' y = ent D x) : ekl D' y = ekl D x ∧ evl D' y = evl D x ∧ eln D' y = eln D x := by
  have h1 : eky D' y = eky D x := congrArg (·.1) h
  have h2 : eva D' y = eva D x := congrArg (·.2.2.2) h
  have e1 : ekl D' y = ekl D x := by
    have := congrArg List.length h1
    unfold eky at this
    rwa [rwl_len, rwl_len] at this
  have e2 : evl D' y = evl D x := by
    have := congrArg List.length h2
    unfold eva at this
    rwa [rwl_len, rwl_len] at this
  exact ⟨e1, e2, by unfold eln; rw [e1, e2]⟩
theorem ent_wf {D D' : Nat → Int32} {x y : Nat} (h : ent D' y = ent D x) (w : Ewf D x) : Ewf D' y := by
  have h1 : zb (D' y) = zb (D x) := congrArg (·.2.2.1) h
  have h2 := ent_len h
  unfold Ewf at *
  rw [h1, h2.1, h2.2.1]; exact w
theorem ent_pre {D D' : Nat → Int32} {x y x' y' : Nat} (h : ent D' y = ent D x) (h' : ent D' y' = ent D x') : pre D' y y' ↔ pre D x x' := by
  have h1 : eky D' y = eky D x := congrArg (·.1) h
  have h2 : ecm D' y = ecm D x := congrArg (·.2.1) h
  have h3 : eky D' y' = eky D x' := congrArg (·.1) h'
  have h4 : ecm D' y' = ecm D x' := congrArg (·.2.1) h'
  unfold pre
  rw [h1, h2, h3, h4]
theorem map_pw {D D' : Nat → Int32} : ∀ {N S : List Nat}, N.map (ent D') = S.map (ent D) → S.Pairwise (pre D) → N.Pairwise (pre D')
  | [], _, _, _ => List.Pairwise.nil
  | a :: N, [], h, _ => by cases h
  | a :: N, b :: S, h, hs => by
    rw [List.map_cons, List.map_cons] at h
    injection h with h1 h2
    have h3 := List.pairwise_cons.mp hs
    refine List.Pairwise.cons (fun x hx => ?_) (map_pw h2 h3.2)
    obtain ⟨y, hy, e⟩ : ∃ y ∈ S, ent D y = ent D' x := List.mem_map.mp (by rw [← h2]; exact List.mem_map_of_mem hx)
    exact (ent_pre h1 e.symm).mpr (h3.1 y hy)
theorem map_mem {D D' : Nat → Int32} {N S : List Nat} (h : N.map (ent D') = S.map (ent D)) {x : Nat} (hx : x ∈ N) : ∃ y ∈ S, ent D' x = ent D y := by
  obtain ⟨y, hy, e⟩ : ∃ y ∈ S, ent D y = ent D' x := List.mem_map.mp (by rw [← h]; exact List.mem_map_of_mem hx)
  exact ⟨y, hy, e.symm⟩
/-- an entry lies within its block -/
def Wi (D : Nat → Int32) (q : Nat) : Prop := q % 512 + eln D q ≤ 512
theorem Wi.all {D D' : Nat → Int32} {q : Nat} (h : Wi D q) (hb : ∀ p, p / 512 = q / 512 → D' p = D p) : Eall D D' q := Eall.of (fun j h1 h2 => hb j (by unfold Wi at h; omega))
theorem Eall.en {D D' : Nat → Int32} {q : Nat} (h : Eall D D' q) : ent D' q = ent D q := by
  unfold ent
  rw [h.1.2.2.2.1, h.2, h.1.1, h.1.2.2.2.2]
theorem Wi.loc {D D' : Nat → Int32} {q : Nat} (h : Wi D q) (hb : ∀ p, p / 512 = q / 512 → D' p = D p) : Wi D' q := by
  have e := (h.all hb).1.eL
  unfold Wi at *
  rw [e]; exact h
theorem nib_loc {D D' : Nat → Int32} {q : Nat} (h : Wi D q) (hb : ∀ p, p / 512 = q / 512 → D' p = D p) : nib D' q = nib D q := by
  have h1 := (h.all hb).1.eL
  unfold nib
  rw [h1]
  by_cases e : (q + eln D q) / 512 = q / 512
  · rw [hb _ e]
  · rw [if_neg (fun z => e z.1), if_neg (fun z => e z.1)]
theorem Cb.loc {D D' : Nat → Int32} : ∀ {ps : List Nat} {p : Nat}, Cb D p ps → (∀ q ∈ p :: ps, Wi D q) → (∀ x, x / 512 = p / 512 → D' x = D x) → Cb D' p ps
  | [], p, h, hw, hb => (nib_loc (hw p List.mem_cons_self) hb).trans h
  | q :: ps, p, h, hw, hb => by
    have e : q / 512 = p / 512 := Cb.blk (ps := q :: ps) h q (List.mem_cons_of_mem _ List.mem_cons_self)
    exact ⟨(nib_loc (hw p List.mem_cons_self) hb).trans h.1, Cb.loc h.2 (fun x hx => hw x (List.mem_cons_of_mem _ hx)) (fun x hx => hb x (hx.trans e))⟩
theorem Fil.loc {D D' : Nat → Int32} {f : Nat} {k : List Nat} (h : Fil D (f * 512) k) (hb : ∀ p, p / 512 = f → D' p = D p) : Fil D' (f * 512) k := fun i hi => by
  have := h i hi
  unfold fbit at *
  rw [hb _ (by have := plc_lt (prb (hsh k) i); omega)]
  exact this
theorem TC.blk {D : Nat → Int32} {bl : List Nat} {css : List (List Nat)} (h : TC D bl css) {q : Nat} (hq : q ∈ css.flatten) : q / 512 ∈ bl := by
  obtain ⟨i, hi⟩ := List.getElem?_of_mem hq
  obtain ⟨k, hk, -⟩ := h.nx hi
  exact List.mem_of_getElem? hk
/-- a file on the disk -/
def TF (D : Nat → Int32) (f : zF) : Prop := TC D f.2.1 f.2.2 ∧ ∀ q ∈ fE f, Wi D q
theorem TF.ents {D D' : Nat → Int32} {f : zF} (h : TF D f) (hb : ∀ p, p / 512 ∈ f.2.1 → D' p = D p) : ∀ q ∈ fE f, ent D' q = ent D q := fun q hq => ((h.2 q hq).all (fun p hp => hb p (by rw [hp]; exact h.1.blk hq))).en
theorem TF.loc {D D' : Nat → Int32} {f : zF} (h : TF D f) (hb : ∀ p, p / 512 ∈ f.2.1 → D' p = D p) : TF D' f := by
  have he := h.ents hb
  obtain ⟨hT, hW⟩ := h
  have hbk : ∀ q ∈ fE f, ∀ p, p / 512 = q / 512 → D' p = D p := fun q hq p hp => hb p (by rw [hp]; exact hT.blk hq)
  obtain ⟨h1, h2, h3, h4, h5, h6, h7, h8, h9⟩ := id hT
  refine ⟨⟨h1, h2, h3, h4, fun i b c hi hc => ?_, fun q hq => ⟨(h6 q hq).1, ?_⟩, fun q hq => ent_wf (he q hq) (h7 q hq), map_pw (List.map_congr_left (fun q hq => he q hq)) h8, fun x hx q hq => ?_⟩, fun q hq => (hW q hq).loc (hbk q hq)⟩
  · obtain ⟨ps, e, hc1, hc2⟩ := h5 i b c hi hc
    have hin : ∀ q ∈ c, q ∈ fE f := fun q hq => List.mem_flatten.mpr ⟨c, List.mem_of_getElem? hc, hq⟩
    exact ⟨ps, e, hc1.loc (fun q hq => hW q (hin q (by rw [e]; exact hq))) (hbk (b * 512) (hin _ (by rw [e]; exact List.mem_cons_self))), hc2⟩
  · have := congrArg (·.2.1) (he q hq)
    rw [show ecm D' q = ecm D q from this]; exact (h6 q hq).2
  · have e : eky D' q = eky D q := congrArg (·.1) (he q hq)
    rw [e]
    exact (h9 x hx q hq).loc (fun p hp => hb p (by rw [hp]; exact List.mem_of_getElem? hx))
/-- entries one behind the other within a block are its chain -/
theorem Chn.cb {D : Nat → Int32} {b e : Nat} (hb : e ≤ b * 512 + 512) (h0 : e < b * 512 + 512 → D e = 0) : ∀ {ps : List Nat} {p : Nat}, Chn D p (p :: ps) e → b * 512 ≤ p → (∀ q ∈ p :: ps, Ewf D q) → Cb D p ps
  | [], p, h, hp, hw => by
    have h1 : p + eln D p = e := h.2
    have h8 := (hw p List.mem_cons_self).len
    show nib D p = none
    unfold nib
    rw [if_neg]
    rintro ⟨z1, z2⟩
    rw [h1] at z1 z2
    rcases Nat.lt_or_ge e (b * 512 + 512) with y | y
    · exact z2 (h0 y)
    · omega
  | q :: ps, p, h, hp, hw => by
    obtain ⟨-, h1, h2⟩ := h
    have h8 := (hw p List.mem_cons_self).len
    have h9 := (hw q (List.mem_cons_of_mem _ List.mem_cons_self))
    have h3 : Chn D q (q :: ps) e := ⟨rfl, by rw [h1]; exact h2⟩
    have h4 := h3.le
    have h5 := (h4.2 q List.mem_cons_self).2
    have h10 := h9.len
    refine ⟨?_, Chn.cb hb h0 h3 (by omega) (fun x hx => hw x (List.mem_cons_of_mem _ hx))⟩
    unfold nib
    rw [if_pos, h1]
    rw [← h1]
    refine ⟨by omega, fun z => ?_⟩
    have h11 := h9.1
    rw [z] at h11
    have hz : zb 0 = 0 := by decide
    rw [hz] at h11
    omega
theorem Chn.cnt {D : Nat → Int32} : ∀ {ps : List Nat} {a e : Nat}, Chn D a ps e → a + 8 * ps.length ≤ e
  | [], a, e, h => by cases h; simp
  | q :: ps, a, e, h => by
    have := Chn.cnt h.2
    have h8 : 8 ≤ eln D a := by unfold eln; omega
    rw [List.length_cons]; omega
