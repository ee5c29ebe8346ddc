/-! ===== walks over keys ===== -/
/-- the view w sees a put of this key -/
def SeeP (D : Nat → Int32) (U : List Nat) (w : Nat) (k : List Nat) : Prop := ∃ s, Hit D U k w (some s) ∧ zb (D s) = 1
/-- numbers of commits are 1 and more; no two entries are one -/
def Ud (D : Nat → Int32) (U : List Nat) : Prop := (∀ p ∈ U, 1 ≤ ecm D p ∧ ecm D p < 2 ^ 31) ∧ ∀ p ∈ U, ∀ q ∈ U, eky D p = eky D q → ecm D p = ecm D q → p = q
theorem see_uniq {D : Nat → Int32} {U : List Nat} {w : Nat} {k : List Nat} {s s' : Nat} (hU : Ud D U) (h : Hit D U k w (some s)) (h' : Hit D U k w (some s')) : s = s' := by
  obtain ⟨a1, a2, a3, a4⟩ := h.1 s rfl
  obtain ⟨b1, b2, b3, b4⟩ := h'.1 s' rfl
  exact hU.2 s a1 s' b1 (a2.trans b2.symm) (Nat.le_antisymm (b4 s a1 a2 a3) (a4 s' b1 b2 b3))
theorem not_see {D : Nat → Int32} {U : List Nat} {w : Nat} {k : List Nat} {x : Option Nat} (hU : Ud D U) (h : Hit D U k w x) (hx : ∀ s, x = some s → zb (D s) ≠ 1) : ¬ SeeP D U w k := by
  rintro ⟨s, hs, h1⟩
  cases hx' : x with
  | none =>
    obtain ⟨b1, b2, b3, b4⟩ := hs.1 s rfl
    exact absurd b3 (Nat.not_le.mpr (h.2 hx' s b1 b2))
  | some t =>
    rw [hx'] at h
    rw [see_uniq hU hs h] at h1
    exact hx t hx' h1
/-- the edge of a walk: the key itself counts (2147483647) or not (0) -/
def Edg (e : Nat) : Prop := e = 0 ∨ e = 2147483647
theorem nbef {D : Nat → Int32} {U : List Nat} {k : List Nat} {e q : Nat} (hU : Ud D U) (he : Edg e) (hq : q ∈ U) : ¬ bef D q k e ↔ (¬ klt (eky D q) k ∧ (e = 0 → eky D q ≠ k)) := by
  obtain ⟨h1, h2⟩ := hU.1 q hq
  unfold bef
  constructor
  · intro h
    exact ⟨fun z => h (Or.inl z), fun e0 z => h (Or.inr ⟨z, by omega⟩)⟩
  · rintro ⟨a, b⟩ (z | ⟨z, y⟩)
    · exact a z
    · rcases he with e0 | e0
      · exact b e0 z
      · omega
/-- a walk upwards: all keys passed have nothing to see -/
def NS (D : Nat → Int32) (U : List Nat) (w : Nat) (k0 : List Nat) (e : Nat) (K : List Nat) (fr : Nat) : Prop := (∀ q ∈ U, ¬ bef D q k0 e → bef D q K fr → ¬ SeeP D U w (eky D q)) ∧ ∀ q ∈ U, ¬ bef D q K fr → ¬ bef D q k0 e
/-- the answer of a walk upwards -/
def Nea (D : Nat → Int32) (U : List Nat) (w : Nat) (k0 : List Nat) (e : Nat) (x : Option Nat) : Prop := (∀ s, x = some s → Hit D U (eky D s) w (some s) ∧ zb (D s) = 1 ∧ ¬ bef D s k0 e ∧ ∀ q ∈ U, ¬ bef D q k0 e → klt (eky D q) (eky D s) → ¬ SeeP D U w (eky D q)) ∧ (x = none → ∀ q ∈ U, ¬ bef D q k0 e → ¬ SeeP D U w (eky D q))
theorem NS.none {D : Nat → Int32} {U : List Nat} {w : Nat} {k0 K : List Nat} {e fr : Nat} (h : NS D U w k0 e K fr) (hf : FrmK D U K fr none) : Nea D U w k0 e none := ⟨fun s hs => (by cases hs), fun _ q hq hb => h.1 q hq hb (hf.2 rfl q hq)⟩
theorem NS.low {D : Nat → Int32} {U : List Nat} {w : Nat} {k0 K : List Nat} {e fr p : Nat} (h : NS D U w k0 e K fr) (hf : FrmK D U K fr (some p)) : ∀ q ∈ U, ¬ bef D q k0 e → klt (eky D q) (eky D p) → ¬ SeeP D U w (eky D q) := fun q hq hb hk => h.1 q hq hb (Classical.byContradiction (fun z => (hf.1 p rfl).2.2 q hq z hk))
theorem NS.hit {D : Nat → Int32} {U : List Nat} {w : Nat} {k0 K : List Nat} {e fr p s : Nat} (hU : Ud D U) (he : Edg e) (h : NS D U w k0 e K fr) (hf : FrmK D U K fr (some p)) (hs : Hit D U (eky D p) w (some s)) (h1 : zb (D s) = 1) : Nea D U w k0 e (some s) := by
  obtain ⟨a1, a2, a3, a4⟩ := hs.1 s rfl
  have hp := (hf.1 p rfl)
  refine ⟨fun t ht => ?_, fun z => by cases z⟩
  cases ht
  rw [a2]
  refine ⟨hs, h1, ?_, h.low hf⟩
  rw [nbef hU he a1, a2]
  exact (nbef hU he hp.1).mp (h.2 p hp.1 hp.2.1)
theorem NS.next {D : Nat → Int32} {U : List Nat} {w : Nat} {k0 K : List Nat} {e fr p : Nat} {x : Option Nat} (hU : Ud D U) (he : Edg e) (h : NS D U w k0 e K fr) (hf : FrmK D U K fr (some p)) (hs : Hit D U (eky D p) w x) (h1 : ∀ s, x = some s → zb (D s) ≠ 1) : NS D U w k0 e (eky D p) 0 := by
  have hp := (hf.1 p rfl)
  constructor
  · intro q hq hb hb2
    rcases hb2 with z | ⟨z, -⟩
    · exact h.low hf q hq hb z
    · rw [z]; exact not_see hU hs h1
  · intro q hq hb
    rw [nbef hU (Or.inl rfl) hq] at hb
    have h2 := (nbef hU he hp.1).mp (h.2 p hp.1 hp.2.1)
    have h3 : klt (eky D p) (eky D q) := (klt_tri (eky D p) (eky D q)).elim id (fun z => z.elim (fun y => absurd y.symm (hb.2 rfl)) (fun y => absurd y hb.1))
    rw [nbef hU he hq]
    refine ⟨fun z => h2.1 (klt_trans _ _ _ h3 z), fun _ z => ?_⟩
    rw [z] at h3
    exact h2.1 h3
/-- a walk downwards -/
def NB (D : Nat → Int32) (U : List Nat) (w : Nat) (k0 K : List Nat) : Prop := (∀ q ∈ U, klt (eky D q) k0 → ¬ klt (eky D q) K → ¬ SeeP D U w (eky D q)) ∧ ∀ q ∈ U, klt (eky D q) K → klt (eky D q) k0
def Neb (D : Nat → Int32) (U : List Nat) (w : Nat) (k0 : List Nat) (x : Option Nat) : Prop := (∀ s, x = some s → Hit D U (eky D s) w (some s) ∧ zb (D s) = 1 ∧ klt (eky D s) k0 ∧ ∀ q ∈ U, klt (eky D q) k0 → klt (eky D s) (eky D q) → ¬ SeeP D U w (eky D q)) ∧ (x = none → ∀ q ∈ U, klt (eky D q) k0 → ¬ SeeP D U w (eky D q))
theorem bef_new {D : Nat → Int32} {U : List Nat} {k : List Nat} {q : Nat} (hU : Ud D U) (hq : q ∈ U) : bef D q k 2147483647 ↔ klt (eky D q) k := by
  have := (hU.1 q hq).2
  unfold bef
  constructor
  · rintro (z | ⟨-, z⟩)
    · exact z
    · omega
  · exact Or.inl
theorem NB.none {D : Nat → Int32} {U : List Nat} {w : Nat} {k0 K : List Nat} (hU : Ud D U) (h : NB D U w k0 K) (hf : LstK D U K 2147483647 none) : Neb D U w k0 none := ⟨fun s hs => (by cases hs), fun _ q hq hb => h.1 q hq hb (fun z => hf.2 rfl q hq ((bef_new hU hq).mpr z))⟩
theorem NB.high {D : Nat → Int32} {U : List Nat} {w : Nat} {k0 K : List Nat} {p : Nat} (hU : Ud D U) (h : NB D U w k0 K) (hf : LstK D U K 2147483647 (some p)) : ∀ q ∈ U, klt (eky D q) k0 → klt (eky D p) (eky D q) → ¬ SeeP D U w (eky D q) := fun q hq hb hk => h.1 q hq hb (fun z => (hf.1 p rfl).2.2 q hq ((bef_new hU hq).mpr z) hk)
theorem NB.hit {D : Nat → Int32} {U : List Nat} {w : Nat} {k0 K : List Nat} {p s : Nat} (hU : Ud D U) (h : NB D U w k0 K) (hf : LstK D U K 2147483647 (some p)) (hs : Hit D U (eky D p) w (some s)) (h1 : zb (D s) = 1) : Neb D U w k0 (some s) := by
  obtain ⟨a1, a2, a3, a4⟩ := hs.1 s rfl
  have hp := (hf.1 p rfl)
  refine ⟨fun t ht => ?_, fun z => by cases z⟩
  cases ht
  rw [a2]
  exact ⟨hs, h1, h.2 p hp.1 ((bef_new hU hp.1).mp hp.2.1), h.high hU hf⟩
theorem NB.next {D : Nat → Int32} {U : List Nat} {w : Nat} {k0 K : List Nat} {p : Nat} {x : Option Nat} (hU : Ud D U) (h : NB D U w k0 K) (hf : LstK D U K 2147483647 (some p)) (hs : Hit D U (eky D p) w x) (h1 : ∀ s, x = some s → zb (D s) ≠ 1) : NB D U w k0 (eky D p) := by
  have hp := (hf.1 p rfl)
  have hpk := (bef_new hU hp.1).mp hp.2.1
  constructor
  · intro q hq hb hb2
    rcases klt_tri (eky D p) (eky D q) with z | z | z
    · exact h.high hU hf q hq hb z
    · rw [← z]; exact not_see hU hs h1
    · exact absurd z hb2
  · intro q hq hb
    exact h.2 q hq (klt_trans _ _ _ hb hpk)
/-- frame: only the probe changes -/
def Fp (ad : Nat → Nat) (M M' : zM) : Prop := Fr ad 0 (fun f i => f = 193 ∧ i = 8) (fun i => i = 9) (fun _ => False) M M' ∧ ((∃ pl, pl ≤ 32 ∧ zI M 193 (ad 8) = nI pl) → ∃ pl, pl ≤ 32 ∧ zI M' 193 (ad 8) = nI pl)
theorem Fp.refl (ad : Nat → Nat) (M : zM) : Fp ad M M := ⟨Fr.refl ad M _ _ _, fun z => z⟩
theorem Fp.trans {ad : Nat → Nat} {M M1 M2 : zM} (h : Fp ad M M1) (g : Fp ad M1 M2) : Fp ad M M2 := ⟨Fr.trans h.1 g.1, fun z => g.2 (h.2 z)⟩
theorem Fp.lay {ad : Nat → Nat} {M M1 : zM} (h : Fp ad M M1) (hL : Lay ad M) : Lay ad M1 := Fr.lay h.1 hL (fun z => z) (fun z => z)
theorem Fp.cb {ad : Nat → Nat} {M M1 : zM} (h : Fp ad M M1) (hcb : zC M ≤ 600128 ∧ zS M ≤ 7301098) : zC M1 ≤ 600128 ∧ zS M1 ≤ 7301098 := by
  have : zC M1 = zC M + 0 ∧ zS M1 = zS M + 6 * 0 := h.1.2.2.2.2.2.2.2
  omega
theorem Fp.fl {ad : Nat → Nat} {M M1 : zM} (h : Fp ad M M1) : Fl ad 0 [193] [9] [] M M1 := Fr.mono h.1 (fun f i z => List.mem_singleton.mpr z.1) (fun i z => by rw [z]; decide) (fun i z => z.elim)
theorem Sto.fl {ad : Nat → Nat} {M M1 : zM} {E : List Nat} {Ls : Nat → List zF} {c : Nat} {LF LA LB : List Nat} (h : Sto ad M E Ls) (hF : Fl ad c LF LA LB M M1) (h1 : 162 ∉ LF ∧ 131 ∉ LF ∧ 258 ∉ LF ∧ 259 ∉ LF := by decide) (h2 : 2 ∉ LA ∧ 16 ∉ LA ∧ 64 ∉ LA := by decide) (h3 : 35 ∉ LB ∧ 36 ∉ LB ∧ 37 ∉ LB := by decide) : Sto ad M1 E Ls := by
  have e : zA M1 (ad 2) = zA M (ad 2) := hF.rA (i := 2) h2.1 (by decide)
  refine ⟨⟨(hF.rI h1.1 (by decide)).trans h.1.1, h.1.2.1, fun i p hp => (congrFun (hF.rA (i := 16) h2.2.1 (by decide)) i).trans (h.1.2.2 i p hp)⟩, by rw [e]; exact h.2.1, by rw [e]; exact h.2.2.1, fun l hl => ⟨(h.2.2.2 l hl).1.fl hF hl h1.2.1 h1.2.2.1 h1.2.2.2 h2.2.2 h3, by rw [e]; exact (h.2.2.2 l hl).2⟩⟩
