/-! ===== constructors, in the mirror (3) ===== -/
theorem Iso.upd {ad : Nat → Nat} {M N : zM} {i j : Nat} {v : Int32} (h : Iso ad M N) (hi : zK N i ≠ 0) (h14 : 14 ≤ zK N i) : Iso ad (zsetA M (ad i) (upd (zA M (ad i)) j v)) (zsetA N i (upd (zA N i) j v)) := by
  have e := ((h.2.1 i hi).2.2 h14).2.1
  rw [e]
  exact h.setA hi
/-- a row gets -1 at its first k places, one by one -/
def m1s (N : zM) (b : Nat) : Nat → zM
  | 0 => N
  | k + 1 => zsetA (m1s N b k) b (upd (zA (m1s N b k) b) k (-1))
theorem m1s_K (N : zM) (b : Nat) : ∀ k, zK (m1s N b k) = zK N
  | 0 => rfl
  | k + 1 => (show zK (m1s N b (k + 1)) = zK (m1s N b k) from rfl).trans (m1s_K N b k)
theorem Iso.m1 {ad : Nat → Nat} {M N : zM} {b : Nat} (h : Iso ad M N) (hb : zK N b = 15) : ∀ k, Iso ad (m1s M (ad b) k) (m1s N b k)
  | 0 => h
  | k + 1 => (Iso.m1 h hb k).upd (by rw [m1s_K, hb]; decide) (by rw [m1s_K, hb]; decide)
theorem n_X9 {G : zG} {ad : Nat → Nat} {d a b : Nat} {M N : zM} (hd : 2 ≤ d) (hcb : zC M ≤ 600128 ∧ zS M ≤ 7301098) (hrm : zC M + 20 ≤ 600128 ∧ zS M + 400000 ≤ 7301098) (hI : Iso ad M N) (ha : zK N a = 10) (hb : zK N b = 0) : zMet G mX9_init d [.ref (ad a)] M (fun o M' => o = .inl none ∧ ∃ q, Iso (adp ad b q) M' (zputR (m1s (znewA N b 15 8) b 8) 288 a (some b))) := by
  refine (i_X9 hd hcb hrm (hI.k ha (by decide))).mono (fun o M' h => ?_)
  obtain ⟨e0, q, hq, e⟩ := h
  refine ⟨e0, q, ?_⟩
  have hab : a ≠ b := fun z => by rw [z, hb] at ha; cases ha
  have I1 := hI.newA (n := 8) hq hb (show 14 ≤ 15 by decide)
  have I2 := I1.m1 (b := b) (nkA0 _ _ _ _) 8
  have I3 := I2.putR (i := a) (j := b) (f := 288) (by rw [m1s_K, nkA hb ha (by decide)]; decide) (by rw [m1s_K, nkA0]; decide)
  rw [adp_ne ad hab, adp_hit] at I3
  rw [e]
  exact I3
