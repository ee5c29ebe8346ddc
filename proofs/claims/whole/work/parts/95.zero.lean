/-! ===== the empty state ===== -/
theorem dur_zero {D : Nat → Int32} (hD : ∀ p, D p = 0) : Dur D 0 0 0 0 0 0 0 (fun _ => []) [] [] [] := by
  have e : D = fun _ => 0 := funext hD
  subst e
  refine ⟨⟨by decide, by decide, by decide, Or.inl ⟨rfl, rfl, rfl, fun _ _ => rfl, by decide, by decide⟩⟩, ⟨fun l hl => ⟨⟨fun f hf => (by cases hf), List.Pairwise.nil⟩, fun f hf => (by cases hf)⟩, ?_⟩, ⟨?_, Or.inr (by decide), fun ps hps => (by cases hps), ?_, by decide, by decide, by decide⟩, ⟨?_, ⟨?_, ?_⟩, ?_, ?_, fun k v => ?_⟩, rfl, by decide, by decide⟩
  · show Br []
    exact ⟨fun b hb => (by cases hb), List.nodup_nil⟩
  · exact rfl
  · exact rfl
  · intro n hn p hp q hq
    cases hq
  · intro p hp
    exact absurd (show p ∈ ([] : List Nat) from hp) (by simp)
  · intro p hp
    exact absurd (show p ∈ ([] : List Nat) from hp) (by simp)
  · intro p hp
    exact absurd (show p ∈ ([] : List Nat) from hp) (by simp)
  · exact Nat.le_refl 0
  · constructor
    · rintro ⟨e, he, -⟩
      exact absurd (show e ∈ ([] : List En) from he) (by simp)
    · intro z; cases z
/-- fields and rows behind the constructors -/
def ivl (f i : Nat) : Int32 := if f = 34 ∧ i = 1 then nI 1 else if f = 35 ∧ i = 1 then nI 3 else if f = 69 ∧ i = 17 then nI 512 else if f = 70 ∧ i = 17 then nI 256 else if f = 401 ∧ i = 38 then nI 3 else if f = 259 ∧ 576 ≤ i then -1 else nI 0
def al (i : Nat) : Nat → Int32 := fun j => if i = 14 ∧ j < 8 then -1 else 0
def A0 : As := ([], [], [], [], 0, 0, 3, 0, fun _ => none)
/-- all is as the constructors leave it -/
def Zs (ad : Nat → Nat) (M : zM) : Prop := Lay ad M ∧ (∀ f i, i < 582 → kd i ≠ 0 → kd i < 14 → zI M f (ad i) = ivl f i) ∧ (∀ i, i < 582 → 14 ≤ kd i → zA M (ad i) = al i) ∧ zC M + 65 ≤ 600128 ∧ zS M + 390 ≤ 7301098
theorem Zs.i {ad : Nat → Nat} {M : zM} (h : Zs ad M) (f i : Nat) (v : Nat) (e : i < 582 ∧ kd i ≠ 0 ∧ kd i < 14 ∧ ivl f i = nI v := by decide) : zI M f (ad i) = nI v := (h.2.1 f i e.1 e.2.1 e.2.2.1).trans e.2.2.2
theorem Zs.t {ad : Nat → Nat} {M : zM} (h : Zs ad M) {f j : Nat} (hj : j < 259) (hf : f ≠ 259 ∧ 71 ≤ f ∧ f ≠ 401) : zI M f (ad (tA j)) = nI 0 := by
  have e := h.2.1 f (tA j) (by unfold tA; omega) (by rw [kd_tA]; decide) (by rw [kd_tA]; decide)
  rw [e]
  unfold ivl
  rw [if_neg (by omega), if_neg (by omega), if_neg (by omega), if_neg (by omega), if_neg (by omega), if_neg (by omega)]
theorem Zs.sa {ad : Nat → Nat} {M : zM} (h : Zs ad M) : Sa ad M A0 0 := by
  have hL := h.1
  have hA : ∀ i, i < 582 → 14 ≤ kd i → zA M (ad i) = al i := h.2.2.1
  have hT : ∀ l, l < 3 → Tb ad M (256 + l) [] none := fun l hl => ⟨h.t (by omega) (by decide), by decide, fun i b hb => (by simp at hb), by
    have e := h.2.1 259 (tA (256 + l)) (by unfold tA; omega) (by rw [kd_tA]; decide) (by rw [kd_tA]; decide)
    rw [e]
    unfold ivl
    rw [if_neg (by omega), if_neg (by omega), if_neg (by omega), if_neg (by omega), if_neg (by omega), if_pos (by unfold tA; omega)]
    rfl⟩
  have hLv : ∀ l, l < 3 → Lv ad M l [] := fun l hl => by
    refine ⟨?_, by decide, fun i f hf => (by simp at hf), hT l hl⟩
    rcases (show l = 0 ∨ l = 1 ∨ l = 2 by omega) with e | e | e <;> subst e
    · exact h.i 131 32 0
    · exact h.i 131 33 0
    · exact h.i 131 34 0
  have hM : Msc ad M := ⟨⟨0, by decide, h.i 71 17 0⟩, ⟨0, 0, by decide, by decide, h.i 326 26 0, h.i 327 26 0⟩, fun i _ => by rw [hA 3 (by decide) (by decide)]; rfl, hT⟩
  have hD : ∀ p, zA M (ad 2) p = 0 := fun p => by rw [hA 2 (by decide) (by decide)]; rfl
  have hSto : Sto ad M [] (fun _ => []) := ⟨⟨h.i 162 15 0, by decide, fun i p hp => (by simp at hp)⟩, fun p hp => (by cases hp), List.Pairwise.nil, fun l hl => ⟨hLv l hl, ⟨fun f hf => (by cases hf), List.Pairwise.nil⟩⟩⟩
  have hOm : Om ad M [] (fun _ => []) 0 0 0 0 0 0 0 := ⟨hSto, ⟨[], ⟨⟨fun b hb => (by cases hb), List.nodup_nil⟩, fun i hi => by rw [hA 18 (by decide) (by decide)]; rfl, h.i 69 17 512⟩, List.Perm.nil⟩, ⟨[], ⟨List.nodup_nil, fun j hj => (by cases hj), fun j hj => h.t (by omega) (by decide), h.i 70 17 256⟩, List.Perm.nil⟩, ⟨h.i 68 17 0, by decide, fun i j hj => (by simp at hj)⟩, hM, h.i 163 15 0, h.i 164 15 0, h.i 165 15 0, h.i 166 15 0, h.i 100 30 0, h.i 102 30 0, h.i 366 0 0, by decide, by decide⟩
  have hB : Blk (zA M (ad 2)) 0 0 0 0 1 := ⟨fun _ p _ _ => hD _, fun z => absurd rfl z, by decide, fun p _ _ => hD _⟩
  have hOn : Onn ad M [] (fun _ => []) 0 0 0 1 [] := ⟨0, 0, 0, 0, 0, 0, [], hOm, dur_zero hD, hB⟩
  refine ⟨⟨hL, ⟨h.2.2.2.1, h.2.2.2.2⟩, ⟨h.i 193 4 0, rfl, by decide⟩, ⟨h.i 193 6 0, rfl, by decide⟩, ⟨0, by decide, h.i 193 8 0⟩, ⟨0, by decide, h.i 369 0 0⟩, ⟨0, 0, 0, 0, h.i 34 1 1, h.i 35 1 3, h.i 36 1 0, h.i 37 1 0, h.i 38 1 0, h.i 39 1 0, by decide, by decide, by decide, by decide, by decide, by decide⟩, ⟨List.Pairwise.nil, by decide, fun a ha => (by cases ha)⟩, Nat.le_refl 0⟩, Or.inl ⟨rfl, ⟨[], fun _ => [], 0, fun _ => none, hOn, Nat.le_refl 0, ?_, fun i w hi => (by cases hi), fun i hi => Or.inl ⟨rfl, rfl⟩⟩, h.i 364 0 0, h.i 365 0 0, h.i 4 10 0, Nat.zero_le 1, fun z => (by cases z), fun _ => rfl⟩⟩
  refine ⟨hL.K 13 10, hL.R 288 13 14, hL.K 14 15, hL.N 14 8, fun i hi => ?_, fun i c hc => (by cases hc)⟩
  rw [hA 14 (by decide) (by decide)]
  show (if 14 = 14 ∧ i < 8 then (-1 : Int32) else 0) = -1
  rw [if_pos ⟨rfl, hi⟩]
theorem Zs.ta {ad : Nat → Nat} {M : zM} (h : Zs ad M) : Ta ad M A0 := ⟨h.1, ⟨h.i 386 38 0, Rc.nil _, Nat.zero_le _⟩, ⟨h.i 387 38 0, Rc.nil _, Nat.zero_le _⟩, ⟨h.i 391 38 0, Rc.nil _, List.Pairwise.nil, Nat.zero_le _, fun a ha => (by cases ha)⟩, TaS.nil (h.i 394 38 0), TaB.nil (h.i 398 38 0) (Nat.zero_le _) (h.i 397 38 0) (h.i 396 38 0), h.i 399 38 0, Nat.zero_le _, h.i 400 38 0, h.i 401 38 3, Nat.le_of_ble_eq_true rfl⟩
