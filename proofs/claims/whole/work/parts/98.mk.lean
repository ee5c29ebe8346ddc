/-! ===== constructors, in the mirror ===== -/
theorem Iso.k {ad : Nat → Nat} {M N : zM} {i c : Nat} (h : Iso ad M N) (hi : zK N i = c) (hc : c ≠ 0) : zK M (ad i) = c := (h.2.1 i (by rw [hi]; exact hc)).1.trans hi
theorem n_X8 {G : zG} {ad : Nat → Nat} {d a b dk : Nat} {M N : zM} (hd : 2 ≤ d) (hcb : zC M ≤ 600128 ∧ zS M ≤ 7301098) (hrm : zC M + 20 ≤ 600128 ∧ zS M + 400000 ≤ 7301098) (hI : Iso ad M N) (ha : zK N a = 9) (hb : zK N b = 0) (hdk : zK N dk = 2) : zMet G mX8_init d [.ref (ad a), .ref (ad dk)] M (fun o M' => o = .inl none ∧ ∃ q, Iso (adp ad b q) M' (zputR (zputR (znewA N b 15 9) 257 a (some b)) 256 a (some dk))) := by
  refine (i_X8 hd hcb hrm (hI.k ha (by decide))).mono (fun o M' h => ?_)
  obtain ⟨e0, q, hq, e⟩ := h
  refine ⟨e0, q, ?_⟩
  have hab : a ≠ b := fun z => by rw [z, hb] at ha; cases ha
  have hdb : dk ≠ b := fun z => by rw [z, hb] at hdk; cases hdk
  have I1 := hI.newA (n := 9) hq hb (show 14 ≤ 15 by decide)
  have ka : zK (znewA N b 15 9) a ≠ 0 := by rw [nkA hb ha (by decide)]; decide
  have kd : zK (znewA N b 15 9) dk ≠ 0 := by rw [nkA hb hdk (by decide)]; decide
  have kb : zK (znewA N b 15 9) b ≠ 0 := by rw [nkA0]; decide
  have I2 := I1.putR (i := a) (j := b) (f := 257) ka kb
  rw [adp_ne ad hab, adp_hit] at I2
  have I3 := I2.putR (i := a) (j := dk) (f := 256) ka kd
  rw [adp_ne ad hab, adp_ne ad hdb] at I3
  rw [e]
  exact I3
