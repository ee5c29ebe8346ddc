/-! ===== the plan of all objects and arrays, frames, optional numbers ===== -/
/-- kinds by place: 0 the store, 1 its disk, 2 the disk's cells .. ; 64 + 2 j the table j (256 + l: the one that level l has for none), 65 + 2 j its blocks; 38 to 45 the model, 46 the law's own row -/
def kd (i : Nat) : Nat := if 64 ≤ i then (if i % 2 = 0 then 9 else 15) else match i with | 0 => 12 | 1 => 2 | 2 => 14 | 3 => 14 | 4 => 7 | 5 => 14 | 6 => 7 | 7 => 14 | 8 => 7 | 9 => 14 | 10 => 1 | 11 => 14 | 12 => 15 | 13 => 10 | 14 => 15 | 15 => 6 | 16 => 15 | 17 => 3 | 18 => 16 | 19 => 15 | 20 => 19 | 21 => 19 | 22 => 18 | 23 => 8 | 24 => 15 | 25 => 15 | 26 => 11 | 27 => 14 | 28 => 14 | 29 => 19 | 30 => 4 | 31 => 14 | 32 => 5 | 33 => 5 | 34 => 5 | 35 => 19 | 36 => 19 | 37 => 19 | 38 => 13 | 39 => 14 | 40 => 14 | 41 => 14 | 42 => 14 | 43 => 14 | 44 => 15 | 45 => 14 | 46 => 17 | _ => 0
def ln (i : Nat) : Nat := if 64 ≤ i then 9 else match i with | 2 => 304128 | 3 => 512 | 5 => 32 | 7 => 200 | 9 => 32 | 11 => 15363 | 12 => 64 | 14 => 8 | 16 => 2048 | 18 => 512 | 19 => 512 | 20 => 256 | 21 => 256 | 22 => 3 | 24 => 2048 | 25 => 2048 | 27 => 512 | 28 => 512 | 29 => 256 | 31 => 2048 | 35 => 256 | 36 => 256 | 37 => 256 | 39 => 32 | 40 => 200 | 41 => 16400 | 42 => 70000 | 43 => 131200 | 44 => 8 | 45 => 15360 | 46 => 1 | _ => 0
def rfs : List (Nat × Nat × Nat) := [(32, 1, 2), (33, 1, 3), (192, 4, 5), (192, 6, 7), (192, 8, 9), (0, 10, 11), (1, 10, 12), (288, 13, 14), (160, 15, 1), (161, 15, 16), (64, 17, 18), (65, 17, 19), (66, 17, 20), (67, 17, 21), (224, 23, 1), (225, 23, 24), (226, 23, 25), (320, 26, 1), (321, 26, 17), (322, 26, 27), (323, 26, 28), (324, 26, 29), (96, 30, 1), (97, 30, 31), (352, 0, 1), (353, 0, 4), (354, 0, 6), (355, 0, 8), (356, 0, 10), (357, 0, 13), (358, 0, 15), (359, 0, 17), (360, 0, 22), (361, 0, 23), (362, 0, 26), (363, 0, 30), (384, 38, 39), (385, 38, 40), (388, 38, 41), (389, 38, 42), (390, 38, 43), (393, 38, 44), (395, 38, 45)]
abbrev tA (j : Nat) : Nat := 64 + 2 * j
abbrev tB (j : Nat) : Nat := 65 + 2 * j
def Lay (ad : Nat → Nat) (M : zM) : Prop :=
  (∀ i j, i < 582 → j < 582 → ad i = ad j → i = j) ∧ (∀ i, i < 582 → kd i ≠ 0 → zK M (ad i) = kd i) ∧ (∀ i, i < 582 → 14 ≤ kd i → zN M (ad i) = ln i) ∧
  (∀ q ∈ rfs, zR M q.1 (ad q.2.1) = some (ad q.2.2)) ∧ (∀ j, j < 259 → zR M 256 (ad (tA j)) = some (ad 1) ∧ zR M 257 (ad (tA j)) = some (ad (tB j))) ∧
  (∀ l, l < 3 → zR M 128 (ad (32 + l)) = some (ad 1) ∧ zR M 129 (ad (32 + l)) = some (ad (tA (256 + l))) ∧ zR M 130 (ad (32 + l)) = some (ad (35 + l))) ∧
  (∀ l, l < 3 → zB M (ad 22) l = some (ad (32 + l))) ∧ (∀ j, j < 256 → zB M (ad 20) j = some (ad (tA j)))
section LAY
variable {ad : Nat → Nat} {M : zM}
theorem Lay.ne (h : Lay ad M) {i j : Nat} (e : i ≠ j) (hi : i < 582 := by omega) (hj : j < 582 := by omega) : ad i ≠ ad j := fun z => e (h.1 i j hi hj z)
theorem Lay.K (h : Lay ad M) (i k : Nat) (e : i < 582 ∧ kd i = k ∧ k ≠ 0 := by decide) : zK M (ad i) = k := by
  have := h.2.1 i e.1 (by rw [e.2.1]; exact e.2.2)
  rw [this, e.2.1]
theorem Lay.N (h : Lay ad M) (i n : Nat) (e : i < 582 ∧ 14 ≤ kd i ∧ ln i = n := by decide) : zN M (ad i) = n := by rw [h.2.2.1 i e.1 e.2.1, e.2.2]
theorem Lay.R (h : Lay ad M) (f i j : Nat) (e : (f, i, j) ∈ rfs := by decide) : zR M f (ad i) = some (ad j) := h.2.2.2.1 (f, i, j) e
theorem kd_tA (j : Nat) : kd (tA j) = 9 := by
  unfold kd tA
  rw [if_pos (by omega), if_pos (by omega)]
theorem kd_tB (j : Nat) : kd (tB j) = 15 := by
  unfold kd tB
  rw [if_pos (by omega), if_neg (by omega)]
theorem Lay.Kt (h : Lay ad M) {j : Nat} (hj : j < 259) : zK M (ad (tA j)) = 9 := h.K _ _ ⟨by unfold tA; omega, kd_tA j, by decide⟩
theorem Lay.Kb (h : Lay ad M) {j : Nat} (hj : j < 259) : zK M (ad (tB j)) = 15 := h.K _ _ ⟨by unfold tB; omega, kd_tB j, by decide⟩
theorem Lay.Nb (h : Lay ad M) {j : Nat} (hj : j < 259) : zN M (ad (tB j)) = 9 := h.N _ _ ⟨by unfold tB; omega, by rw [kd_tB]; decide, by unfold ln tB; rw [if_pos (by omega)]⟩
theorem Lay.td (h : Lay ad M) {j : Nat} (hj : j < 259) : zR M 256 (ad (tA j)) = some (ad 1) := (h.2.2.2.2.1 j hj).1
theorem Lay.tb (h : Lay ad M) {j : Nat} (hj : j < 259) : zR M 257 (ad (tA j)) = some (ad (tB j)) := (h.2.2.2.2.1 j hj).2
theorem Lay.Kl (h : Lay ad M) {l : Nat} (hl : l < 3) : zK M (ad (32 + l)) = 5 := by
  rcases l with _ | _ | _ | l
  · exact h.K 32 5
  · exact h.K 33 5
  · exact h.K 34 5
  · omega
theorem Lay.Kla (h : Lay ad M) {l : Nat} (hl : l < 3) : zK M (ad (35 + l)) = 19 := by
  rcases l with _ | _ | _ | l
  · exact h.K 35 19
  · exact h.K 36 19
  · exact h.K 37 19
  · omega
theorem Lay.Nla (h : Lay ad M) {l : Nat} (hl : l < 3) : zN M (ad (35 + l)) = 256 := by
  rcases l with _ | _ | _ | l
  · exact h.N 35 256
  · exact h.N 36 256
  · exact h.N 37 256
  · omega
theorem Lay.ld (h : Lay ad M) {l : Nat} (hl : l < 3) : zR M 128 (ad (32 + l)) = some (ad 1) := (h.2.2.2.2.2.1 l hl).1
theorem Lay.lo (h : Lay ad M) {l : Nat} (hl : l < 3) : zR M 129 (ad (32 + l)) = some (ad (tA (256 + l))) := (h.2.2.2.2.2.1 l hl).2.1
theorem Lay.lt (h : Lay ad M) {l : Nat} (hl : l < 3) : zR M 130 (ad (32 + l)) = some (ad (35 + l)) := (h.2.2.2.2.2.1 l hl).2.2
theorem Lay.lv (h : Lay ad M) {l : Nat} (hl : l < 3) : zB M (ad 22) l = some (ad (32 + l)) := h.2.2.2.2.2.2.1 l hl
theorem Lay.po (h : Lay ad M) {j : Nat} (hj : j < 256) : zB M (ad 20) j = some (ad (tA j)) := h.2.2.2.2.2.2.2 j hj
theorem Lay.dk (h : Lay ad M) : zDk M (ad 1) (ad 2) := ⟨h.K 1 2, h.R 32 1 2, h.K 2 14, h.N 2 304128⟩
theorem Lay.put (h : Lay ad M) (f a : Nat) (v : Int32) : Lay ad (zput M f a v) := h
theorem Lay.setA (h : Lay ad M) (a : Nat) (g : Nat → Int32) : Lay ad (zsetA M a g) := h
theorem Lay.setJ (h : Lay ad M) (a : Nat) (g : Nat → Int64) : Lay ad (zsetJ M a g) := h
theorem Lay.thr (h : Lay ad M) : Lay ad (zthr M) := h
theorem Lay.setB (h : Lay ad M) {i : Nat} (g : Nat → Option Nat) (hi : i < 582) (h1 : i ≠ 20) (h2 : i ≠ 22) : Lay ad (zsetB M (ad i) g) := by
  refine ⟨h.1, h.2.1, h.2.2.1, h.2.2.2.1, h.2.2.2.2.1, h.2.2.2.2.2.1, fun l hl => ?_, fun j hj => ?_⟩
  · rw [zsetB_B, va_up_ne _ _ (h.ne (i := 22) (j := i) (by omega))]; exact h.lv hl
  · rw [zsetB_B, va_up_ne _ _ (h.ne (i := 20) (j := i) (by omega))]; exact h.po hj
end LAY
/-- all is as it was but the fields F, the rows of ints A, the rows of references B; c exceptions were made -/
def Fr (ad : Nat → Nat) (c : Nat) (F : Nat → Nat → Prop) (A B : Nat → Prop) (M M' : zM) : Prop :=
  (∀ f i, i < 582 → ¬ F f i → zI M' f (ad i) = zI M f (ad i)) ∧ (∀ i, i < 582 → ¬ A i → zA M' (ad i) = zA M (ad i)) ∧ (∀ i, i < 582 → ¬ B i → zB M' (ad i) = zB M (ad i)) ∧ zR M' = zR M ∧ zJ M' = zJ M ∧ zK M' = zK M ∧ zN M' = zN M ∧ zC M' = zC M + c ∧ zS M' = zS M + 6 * c
section FR
variable {ad : Nat → Nat} {M M1 M2 : zM} {c c1 c2 : Nat} {F F1 F2 : Nat → Nat → Prop} {A A1 A2 B B1 B2 : Nat → Prop}
theorem Fr.refl (ad : Nat → Nat) (M : zM) (F : Nat → Nat → Prop) (A B : Nat → Prop) : Fr ad 0 F A B M M := ⟨fun _ _ _ _ => rfl, fun _ _ _ => rfl, fun _ _ _ => rfl, rfl, rfl, rfl, rfl, rfl, rfl⟩
theorem Fr.mono (h : Fr ad c F A B M M1) (hF : ∀ f i, F f i → F1 f i) (hA : ∀ i, A i → A1 i) (hB : ∀ i, B i → B1 i) : Fr ad c F1 A1 B1 M M1 :=
  ⟨fun f i hi hn => h.1 f i hi (fun z => hn (hF f i z)), fun i hi hn => h.2.1 i hi (fun z => hn (hA i z)), fun i hi hn => h.2.2.1 i hi (fun z => hn (hB i z)), h.2.2.2⟩
theorem Fr.trans (h : Fr ad c1 F A B M M1) (g : Fr ad c2 F A B M1 M2) : Fr ad (c1 + c2) F A B M M2 := by
  obtain ⟨h1, h2, h3, h4, h5, h6, h7, h8, h9⟩ := h
  obtain ⟨g1, g2, g3, g4, g5, g6, g7, g8, g9⟩ := g
  exact ⟨fun f i hi hn => (g1 f i hi hn).trans (h1 f i hi hn), fun i hi hn => (g2 i hi hn).trans (h2 i hi hn), fun i hi hn => (g3 i hi hn).trans (h3 i hi hn), g4.trans h4, g5.trans h5, g6.trans h6, g7.trans h7, by omega, by omega⟩
theorem Fr.lay (h : Fr ad c F A B M M1) (hL : Lay ad M) (h20 : ¬ B 20) (h22 : ¬ B 22) : Lay ad M1 := by
  obtain ⟨h1, h2, h3, h4, h5, h6, h7, h8, h9⟩ := h
  obtain ⟨l1, l2, l3, l4, l5, l6, l7, l8⟩ := hL
  refine ⟨l1, ?_, ?_, ?_, ?_, ?_, ?_, ?_⟩
  · rw [h6]; exact l2
  · rw [h7]; exact l3
  · rw [h4]; exact l4
  · rw [h4]; exact l5
  · rw [h4]; exact l6
  · rw [h3 22 (by decide) h22]; exact l7
  · rw [h3 20 (by decide) h20]; exact l8
theorem Fr.rI (h : Fr ad c F A B M M1) (f i : Nat) (hn : ¬ F f i) (hi : i < 582 := by decide) : zI M1 f (ad i) = zI M f (ad i) := h.1 f i hi hn
theorem Fr.rA (h : Fr ad c F A B M M1) (i : Nat) (hn : ¬ A i) (hi : i < 582 := by decide) : zA M1 (ad i) = zA M (ad i) := h.2.1 i hi hn
theorem Fr.rB (h : Fr ad c F A B M M1) (i : Nat) (hn : ¬ B i) (hi : i < 582 := by decide) : zB M1 (ad i) = zB M (ad i) := h.2.2.1 i hi hn
theorem Fr.put (h : Fr ad c F A B M M1) (hL : Lay ad M) {f i : Nat} (v : Int32) (hF : F f i) (hi : i < 582 := by decide) : Fr ad c F A B M (zput M1 f (ad i) v) := by
  refine ⟨fun f' i' hi' hn => ?_, h.2⟩
  rw [zput_I, if_neg ?_]
  · exact h.1 f' i' hi' hn
  · rintro ⟨e1, e2⟩
    have := hL.1 i' i hi' hi e2
    exact hn (by rw [e1, this]; exact hF)
theorem Fr.setA (h : Fr ad c F A B M M1) (hL : Lay ad M) {i : Nat} (g : Nat → Int32) (hA : A i) (hi : i < 582 := by decide) : Fr ad c F A B M (zsetA M1 (ad i) g) := by
  refine ⟨h.1, fun i' hi' hn => ?_, h.2.2⟩
  rw [zsetA_A, va_up_ne]
  · exact h.2.1 i' hi' hn
  · intro e
    have := hL.1 i' i hi' hi e
    exact hn (by rw [this]; exact hA)
theorem Fr.setB (h : Fr ad c F A B M M1) (hL : Lay ad M) {i : Nat} (g : Nat → Option Nat) (hB : B i) (hi : i < 582 := by decide) : Fr ad c F A B M (zsetB M1 (ad i) g) := by
  refine ⟨h.1, h.2.1, fun i' hi' hn => ?_, h.2.2.2⟩
  rw [zsetB_B, va_up_ne]
  · exact h.2.2.1 i' hi' hn
  · intro e
    have := hL.1 i' i hi' hi e
    exact hn (by rw [this]; exact hB)
theorem Fr.thr (h : Fr ad 0 F A B M M1) : Fr ad 1 F A B M (zthr M1) := by
  obtain ⟨h1, h2, h3, h4, h5, h6, h7, h8, h9⟩ := h
  exact ⟨h1, h2, h3, h4, h5, h6, h7, by show zC M1 + 1 = _; omega, by show zS M1 + 6 = _; omega⟩
end FR
/-! optional numbers: -1 for none -/
theorem zvi_some (c : Nat) : zvi (some c) = nI c := rfl
section ZOPT
variable {G : zG} {md : zD} {d k0 n0 : Nat} {Q : zOut → zM → Prop} {pc : Nat} {lv : List (Option Value)} {st : List Value} {M : zM}
theorem zr_icmp_eqO {x : Option Nat} {off : Int} (tgt : Nat) (hd : decode md.2.1 pc = .ok (.if_icmp .eq off, 3)) (ht : (pc : Int) + off = (tgt : Int)) (hx : ∀ c, x = some c → c < 2 ^ 31) (k1 : x = none → zw G md d k0 n0 Q tgt lv st M) (k2 : ∀ c, x = some c → zw G md d k0 n0 Q (pc + 3) lv st M) : zw G md d k0 n0 Q pc lv (.int (-1) :: .int (zvi x) :: st) M := by
  cases x with
  | none => exact zr_icmp_eqMM tgt hd ht (k1 rfl)
  | some c => exact zr_icmp_eqM tgt hd ht (hx c rfl) (k2 c rfl)
theorem zr_icmp_neO {x : Option Nat} {off : Int} (tgt : Nat) (hd : decode md.2.1 pc = .ok (.if_icmp .ne off, 3)) (ht : (pc : Int) + off = (tgt : Int)) (hx : ∀ c, x = some c → c < 2 ^ 31) (k1 : ∀ c, x = some c → zw G md d k0 n0 Q tgt lv st M) (k2 : x = none → zw G md d k0 n0 Q (pc + 3) lv st M) : zw G md d k0 n0 Q pc lv (.int (-1) :: .int (zvi x) :: st) M := by
  cases x with
  | none => exact zr_icmp_neMM tgt hd ht (k2 rfl)
  | some c => exact zr_icmp_neM tgt hd ht (hx c rfl) (k1 c rfl)
end ZOPT
/-- the entry p comes before the key k at the view v -/
def bef (D : Nat → Int32) (p : Nat) (k : List Nat) (v : Nat) : Prop := klt (eky D p) k ∨ (eky D p = k ∧ v < ecm D p)
/-- p precedes q -/
def pre (D : Nat → Int32) (p q : Nat) : Prop := klt (eky D p) (eky D q) ∨ (eky D p = eky D q ∧ ecm D q < ecm D p)
theorem bef_lt {D g : Nat → Int32} {p i n v : Nat} (h1 : i < ekl D p) (h2 : i < n) (h3 : ∀ j, j < i → zb (D (p + 8 + j)) = zb (g j)) (h4 : zb (D (p + 8 + i)) < zb (g i)) : bef D p (rwl g n) v := Or.inl (klt_at i h1 h2 h3 h4)
theorem bef_gt {D g : Nat → Int32} {p i n v : Nat} (h1 : i < ekl D p) (h2 : i < n) (h3 : ∀ j, j < i → zb (D (p + 8 + j)) = zb (g j)) (h4 : zb (g i) < zb (D (p + 8 + i))) : ¬ bef D p (rwl g n) v := by
  have h5 : klt (rwl g n) (eky D p) := klt_at i h2 h1 (fun j hj => (h3 j hj).symm) h4
  rintro (h | ⟨h, -⟩)
  · exact klt_irrefl _ (klt_trans _ _ _ h h5)
  · rw [h] at h5; exact klt_irrefl _ h5
theorem bef_end {D g : Nat → Int32} {p n v : Nat} (h3 : ∀ j, j < ekl D p → j < n → zb (D (p + 8 + j)) = zb (g j)) : bef D p (rwl g n) v ↔ (ekl D p < n ∨ (ekl D p = n ∧ v < ecm D p)) := by
  have h1 : klt (eky D p) (rwl g n) ↔ ekl D p < n := klt_all h3
  unfold bef
  rw [h1]
  constructor
  · rintro (h | ⟨h, h2⟩)
    · exact Or.inl h
    · exact Or.inr ⟨(rwl_inj h).1, h2⟩
  · rintro (h | ⟨h, h2⟩)
    · exact Or.inl h
    · exact Or.inr ⟨by unfold eky; rw [h]; exact rwl_congr (fun j hj => h3 j (by omega) hj), h2⟩
theorem bef_pre {D : Nat → Int32} {p q : Nat} {k : List Nat} {v : Nat} (h1 : pre D p q) (h2 : bef D q k v) : bef D p k v := by
  rcases h1 with h1 | ⟨h1, g1⟩ <;> rcases h2 with h2 | ⟨h2, g2⟩
  · exact Or.inl (klt_trans _ _ _ h1 h2)
  · exact Or.inl (by rw [← h2]; exact h1)
  · exact Or.inl (by rw [h1]; exact h2)
  · exact Or.inr ⟨h1.trans h2, by omega⟩
theorem pre_trans {D : Nat → Int32} {p q r : Nat} (h1 : pre D p q) (h2 : pre D q r) : pre D p r := by
  rcases h1 with h1 | ⟨h1, g1⟩ <;> rcases h2 with h2 | ⟨h2, g2⟩
  · exact Or.inl (klt_trans _ _ _ h1 h2)
  · exact Or.inl (by rw [← h2]; exact h1)
  · exact Or.inl (by rw [h1]; exact h2)
  · exact Or.inr ⟨h1.trans h2, by omega⟩
theorem pre_irrefl {D : Nat → Int32} {p : Nat} (h : pre D p p) : False := by
  rcases h with h | ⟨-, h⟩
  · exact klt_irrefl _ h
  · omega
theorem zt_iff {P : Prop} {t : Nat} (h : t = 1 ↔ P) (ht : t ≤ 1) : (t = 0 ↔ ¬ P) := by
  constructor
  · intro e z; have := h.mpr z; omega
  · intro z
    rcases Nat.lt_or_ge t 1 with e | e
    · omega
    · exact absurd (h.mp (by omega)) z
