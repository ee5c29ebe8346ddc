/-! ===== constructors, in the mirror (2) ===== -/
theorem nk00 {M : zM} {a b κ n : Nat} (h : zK M a = 0) (hn : a ≠ b) : zK (znewA M b κ n) a = 0 := (va_up_ne _ _ hn).trans h
set_option maxRecDepth 100000 in
set_option maxHeartbeats 4000000 in
theorem n_X0 {G : zG} {ad : Nat → Nat} {d a p8 p16 : Nat} {M N : zM} (hd : 2 ≤ d) (hcb : zC M ≤ 600128 ∧ zS M ≤ 7301098) (hrm : zC M + 20 ≤ 600128 ∧ zS M + 400000 ≤ 7301098) (hI : Iso ad M N) (ha : zK N a = 1) (hp8 : zK N p8 = 0) (hp16 : zK N p16 = 0) (d01 : p8 ≠ p16) : zMet G mX0_init d [.ref (ad a)] M (fun o M' => o = .inl none ∧ ∃ b8 b16, Iso (adp (adp ad p8 b8) p16 b16) M' (zputR (znewA (zputR (znewA N p8 14 15363) 0 a (some p8)) p16 15 64) 1 a (some p16))) := by
  refine (i_X0 hd hcb hrm (hI.k ha (by decide))).mono (fun o M' h => ?_)
  obtain ⟨e0, b8, b16, hb8, hb16, e⟩ := h
  refine ⟨e0, b8, b16, ?_⟩
  have nab8 : a ≠ p8 := fun z => by rw [z, hp8] at ha; cases ha
  have nab16 : a ≠ p16 := fun z => by rw [z, hp16] at ha; cases ha
  have I1 := Iso.newA (i := p8) (n := 15363) hI hb8 hp8 (show 14 ≤ 14 by decide)
  have I2 := Iso.putR (i := a) (j := p8) (f := 0) I1 (by rw [show zK (znewA N p8 14 15363) a = 1 from (nkA hp8 ha (by decide))]; decide) (by rw [show zK (znewA N p8 14 15363) p8 = _ from (nkA0 _ _ _ _)]; decide)
  rw [show (adp ad p8 b8) a = ad a from by rw [adp_ne _ nab8], show (adp ad p8 b8) p8 = b8 from by rw [adp_hit]] at I2
  have I3 := Iso.newA (i := p16) (n := 64) I2 hb16 (nk00 hp16 (Ne.symm d01)) (show 14 ≤ 15 by decide)
  have I4 := Iso.putR (i := a) (j := p16) (f := 1) I3 (by rw [show zK (znewA (zputR (znewA N p8 14 15363) 0 a (some p8)) p16 15 64) a = 1 from (nkA (nk00 hp16 (Ne.symm d01)) (nkA hp8 ha (by decide)) (by decide))]; decide) (by rw [show zK (znewA (zputR (znewA N p8 14 15363) 0 a (some p8)) p16 15 64) p16 = _ from (nkA0 _ _ _ _)]; decide)
  rw [show (adp (adp ad p8 b8) p16 b16) a = ad a from by rw [adp_ne _ nab16, adp_ne _ nab8], show (adp (adp ad p8 b8) p16 b16) p16 = b16 from by rw [adp_hit]] at I4
  rw [e]
  exact I4
set_option maxRecDepth 100000 in
set_option maxHeartbeats 4000000 in
theorem n_X1 {G : zG} {ad : Nat → Nat} {d a p7 p16 : Nat} {M N : zM} (hd : 2 ≤ d) (hcb : zC M ≤ 600128 ∧ zS M ≤ 7301098) (hrm : zC M + 20 ≤ 600128 ∧ zS M + 400000 ≤ 7301098) (hI : Iso ad M N) (ha : zK N a = 2) (hp7 : zK N p7 = 0) (hp16 : zK N p16 = 0) (d01 : p7 ≠ p16) : zMet G mX1_init d [.ref (ad a)] M (fun o M' => o = .inl none ∧ ∃ b7 b16, Iso (adp (adp ad p7 b7) p16 b16) M' (zput (zput (zputR (znewA (zputR (znewA N p7 14 304128) 32 a (some p7)) p16 14 512) 33 a (some p16)) 34 a (nI 1)) 35 a (nI 3))) := by
  refine (i_X1 hd hcb hrm (hI.k ha (by decide))).mono (fun o M' h => ?_)
  obtain ⟨e0, b7, b16, hb7, hb16, e⟩ := h
  refine ⟨e0, b7, b16, ?_⟩
  have nab7 : a ≠ p7 := fun z => by rw [z, hp7] at ha; cases ha
  have nab16 : a ≠ p16 := fun z => by rw [z, hp16] at ha; cases ha
  have I1 := Iso.newA (i := p7) (n := 304128) hI hb7 hp7 (show 14 ≤ 14 by decide)
  have I2 := Iso.putR (i := a) (j := p7) (f := 32) I1 (by rw [show zK (znewA N p7 14 304128) a = 2 from (nkA hp7 ha (by decide))]; decide) (by rw [show zK (znewA N p7 14 304128) p7 = _ from (nkA0 _ _ _ _)]; decide)
  rw [show (adp ad p7 b7) a = ad a from by rw [adp_ne _ nab7], show (adp ad p7 b7) p7 = b7 from by rw [adp_hit]] at I2
  have I3 := Iso.newA (i := p16) (n := 512) I2 hb16 (nk00 hp16 (Ne.symm d01)) (show 14 ≤ 14 by decide)
  have I4 := Iso.putR (i := a) (j := p16) (f := 33) I3 (by rw [show zK (znewA (zputR (znewA N p7 14 304128) 32 a (some p7)) p16 14 512) a = 2 from (nkA (nk00 hp16 (Ne.symm d01)) (nkA hp7 ha (by decide)) (by decide))]; decide) (by rw [show zK (znewA (zputR (znewA N p7 14 304128) 32 a (some p7)) p16 14 512) p16 = _ from (nkA0 _ _ _ _)]; decide)
  rw [show (adp (adp ad p7 b7) p16 b16) a = ad a from by rw [adp_ne _ nab16, adp_ne _ nab7], show (adp (adp ad p7 b7) p16 b16) p16 = b16 from by rw [adp_hit]] at I4
  have I5 := Iso.put (i := a) (f := 34) (v := (nI 1)) I4 (by rw [show zK (zputR (znewA (zputR (znewA N p7 14 304128) 32 a (some p7)) p16 14 512) 33 a (some p16)) a = 2 from (nkA (nk00 hp16 (Ne.symm d01)) (nkA hp7 ha (by decide)) (by decide))]; decide)
  rw [show (adp (adp ad p7 b7) p16 b16) a = ad a from by rw [adp_ne _ nab16, adp_ne _ nab7]] at I5
  have I6 := Iso.put (i := a) (f := 35) (v := (nI 3)) I5 (by rw [show zK (zput (zputR (znewA (zputR (znewA N p7 14 304128) 32 a (some p7)) p16 14 512) 33 a (some p16)) 34 a (nI 1)) a = 2 from (nkA (nk00 hp16 (Ne.symm d01)) (nkA hp7 ha (by decide)) (by decide))]; decide)
  rw [show (adp (adp ad p7 b7) p16 b16) a = ad a from by rw [adp_ne _ nab16, adp_ne _ nab7]] at I6
  rw [e]
  exact I6
set_option maxRecDepth 100000 in
set_option maxHeartbeats 4000000 in
theorem n_X3 {G : zG} {ad : Nat → Nat} {d a dk p8 : Nat} {M N : zM} (hd : 2 ≤ d) (hcb : zC M ≤ 600128 ∧ zS M ≤ 7301098) (hrm : zC M + 20 ≤ 600128 ∧ zS M + 400000 ≤ 7301098) (hI : Iso ad M N) (ha : zK N a = 4) (hdk : zK N dk = 2) (hp8 : zK N p8 = 0) : zMet G mX3_init d [.ref (ad a), .ref (ad dk)] M (fun o M' => o = .inl none ∧ ∃ b8, Iso (adp ad p8 b8) M' (zputR (zputR (znewA N p8 14 2048) 97 a (some p8)) 96 a (some dk))) := by
  refine (i_X3 hd hcb hrm (hI.k ha (by decide))).mono (fun o M' h => ?_)
  obtain ⟨e0, b8, hb8, e⟩ := h
  refine ⟨e0, b8, ?_⟩
  have nab8 : a ≠ p8 := fun z => by rw [z, hp8] at ha; cases ha
  have ndkb8 : dk ≠ p8 := fun z => by rw [z, hp8] at hdk; cases hdk
  have I1 := Iso.newA (i := p8) (n := 2048) hI hb8 hp8 (show 14 ≤ 14 by decide)
  have I2 := Iso.putR (i := a) (j := p8) (f := 97) I1 (by rw [show zK (znewA N p8 14 2048) a = 4 from (nkA hp8 ha (by decide))]; decide) (by rw [show zK (znewA N p8 14 2048) p8 = _ from (nkA0 _ _ _ _)]; decide)
  rw [show (adp ad p8 b8) a = ad a from by rw [adp_ne _ nab8], show (adp ad p8 b8) p8 = b8 from by rw [adp_hit]] at I2
  have I3 := Iso.putR (i := a) (j := dk) (f := 96) I2 (by rw [show zK (zputR (znewA N p8 14 2048) 97 a (some p8)) a = 4 from (nkA hp8 ha (by decide))]; decide) (by rw [show zK (zputR (znewA N p8 14 2048) 97 a (some p8)) dk = _ from (nkA hp8 hdk (by decide))]; decide)
  rw [show (adp ad p8 b8) a = ad a from by rw [adp_ne _ nab8], show (adp ad p8 b8) dk = ad dk from by rw [adp_ne _ ndkb8]] at I3
  rw [e]
  exact I3
set_option maxRecDepth 100000 in
set_option maxHeartbeats 4000000 in
theorem n_X5 {G : zG} {ad : Nat → Nat} {d a dk p8 : Nat} {M N : zM} (hd : 2 ≤ d) (hcb : zC M ≤ 600128 ∧ zS M ≤ 7301098) (hrm : zC M + 20 ≤ 600128 ∧ zS M + 400000 ≤ 7301098) (hI : Iso ad M N) (ha : zK N a = 6) (hdk : zK N dk = 2) (hp8 : zK N p8 = 0) : zMet G mX5_init d [.ref (ad a), .ref (ad dk)] M (fun o M' => o = .inl none ∧ ∃ b8, Iso (adp ad p8 b8) M' (zputR (zputR (znewA N p8 15 2048) 161 a (some p8)) 160 a (some dk))) := by
  refine (i_X5 hd hcb hrm (hI.k ha (by decide))).mono (fun o M' h => ?_)
  obtain ⟨e0, b8, hb8, e⟩ := h
  refine ⟨e0, b8, ?_⟩
  have nab8 : a ≠ p8 := fun z => by rw [z, hp8] at ha; cases ha
  have ndkb8 : dk ≠ p8 := fun z => by rw [z, hp8] at hdk; cases hdk
  have I1 := Iso.newA (i := p8) (n := 2048) hI hb8 hp8 (show 14 ≤ 15 by decide)
  have I2 := Iso.putR (i := a) (j := p8) (f := 161) I1 (by rw [show zK (znewA N p8 15 2048) a = 6 from (nkA hp8 ha (by decide))]; decide) (by rw [show zK (znewA N p8 15 2048) p8 = _ from (nkA0 _ _ _ _)]; decide)
  rw [show (adp ad p8 b8) a = ad a from by rw [adp_ne _ nab8], show (adp ad p8 b8) p8 = b8 from by rw [adp_hit]] at I2
  have I3 := Iso.putR (i := a) (j := dk) (f := 160) I2 (by rw [show zK (zputR (znewA N p8 15 2048) 161 a (some p8)) a = 6 from (nkA hp8 ha (by decide))]; decide) (by rw [show zK (zputR (znewA N p8 15 2048) 161 a (some p8)) dk = _ from (nkA hp8 hdk (by decide))]; decide)
  rw [show (adp ad p8 b8) a = ad a from by rw [adp_ne _ nab8], show (adp ad p8 b8) dk = ad dk from by rw [adp_ne _ ndkb8]] at I3
  rw [e]
  exact I3
set_option maxRecDepth 100000 in
set_option maxHeartbeats 4000000 in
theorem n_X7 {G : zG} {ad : Nat → Nat} {d a dk p8 p17 : Nat} {M N : zM} (hd : 2 ≤ d) (hcb : zC M ≤ 600128 ∧ zS M ≤ 7301098) (hrm : zC M + 20 ≤ 600128 ∧ zS M + 400000 ≤ 7301098) (hI : Iso ad M N) (ha : zK N a = 8) (hdk : zK N dk = 2) (hp8 : zK N p8 = 0) (hp17 : zK N p17 = 0) (d01 : p8 ≠ p17) : zMet G mX7_init d [.ref (ad a), .ref (ad dk)] M (fun o M' => o = .inl none ∧ ∃ b8 b17, Iso (adp (adp ad p8 b8) p17 b17) M' (zputR (zputR (znewA (zputR (znewA N p8 15 2048) 225 a (some p8)) p17 15 2048) 226 a (some p17)) 224 a (some dk))) := by
  refine (i_X7 hd hcb hrm (hI.k ha (by decide))).mono (fun o M' h => ?_)
  obtain ⟨e0, b8, b17, hb8, hb17, e⟩ := h
  refine ⟨e0, b8, b17, ?_⟩
  have nab8 : a ≠ p8 := fun z => by rw [z, hp8] at ha; cases ha
  have ndkb8 : dk ≠ p8 := fun z => by rw [z, hp8] at hdk; cases hdk
  have nab17 : a ≠ p17 := fun z => by rw [z, hp17] at ha; cases ha
  have ndkb17 : dk ≠ p17 := fun z => by rw [z, hp17] at hdk; cases hdk
  have I1 := Iso.newA (i := p8) (n := 2048) hI hb8 hp8 (show 14 ≤ 15 by decide)
  have I2 := Iso.putR (i := a) (j := p8) (f := 225) I1 (by rw [show zK (znewA N p8 15 2048) a = 8 from (nkA hp8 ha (by decide))]; decide) (by rw [show zK (znewA N p8 15 2048) p8 = _ from (nkA0 _ _ _ _)]; decide)
  rw [show (adp ad p8 b8) a = ad a from by rw [adp_ne _ nab8], show (adp ad p8 b8) p8 = b8 from by rw [adp_hit]] at I2
  have I3 := Iso.newA (i := p17) (n := 2048) I2 hb17 (nk00 hp17 (Ne.symm d01)) (show 14 ≤ 15 by decide)
  have I4 := Iso.putR (i := a) (j := p17) (f := 226) I3 (by rw [show zK (znewA (zputR (znewA N p8 15 2048) 225 a (some p8)) p17 15 2048) a = 8 from (nkA (nk00 hp17 (Ne.symm d01)) (nkA hp8 ha (by decide)) (by decide))]; decide) (by rw [show zK (znewA (zputR (znewA N p8 15 2048) 225 a (some p8)) p17 15 2048) p17 = _ from (nkA0 _ _ _ _)]; decide)
  rw [show (adp (adp ad p8 b8) p17 b17) a = ad a from by rw [adp_ne _ nab17, adp_ne _ nab8], show (adp (adp ad p8 b8) p17 b17) p17 = b17 from by rw [adp_hit]] at I4
  have I5 := Iso.putR (i := a) (j := dk) (f := 224) I4 (by rw [show zK (zputR (znewA (zputR (znewA N p8 15 2048) 225 a (some p8)) p17 15 2048) 226 a (some p17)) a = 8 from (nkA (nk00 hp17 (Ne.symm d01)) (nkA hp8 ha (by decide)) (by decide))]; decide) (by rw [show zK (zputR (znewA (zputR (znewA N p8 15 2048) 225 a (some p8)) p17 15 2048) 226 a (some p17)) dk = _ from (nkA (nk00 hp17 (Ne.symm d01)) (nkA hp8 hdk (by decide)) (by decide))]; decide)
  rw [show (adp (adp ad p8 b8) p17 b17) a = ad a from by rw [adp_ne _ nab17, adp_ne _ nab8], show (adp (adp ad p8 b8) p17 b17) dk = ad dk from by rw [adp_ne _ ndkb17, adp_ne _ ndkb8]] at I5
  rw [e]
  exact I5
set_option maxRecDepth 100000 in
set_option maxHeartbeats 4000000 in
theorem n_X10 {G : zG} {ad : Nat → Nat} {d a dk fl p8 p17 p26 : Nat} {M N : zM} (hd : 2 ≤ d) (hcb : zC M ≤ 600128 ∧ zS M ≤ 7301098) (hrm : zC M + 20 ≤ 600128 ∧ zS M + 400000 ≤ 7301098) (hI : Iso ad M N) (ha : zK N a = 11) (hdk : zK N dk = 2) (hfl : zK N fl = 3) (hp8 : zK N p8 = 0) (hp17 : zK N p17 = 0) (hp26 : zK N p26 = 0) (d01 : p8 ≠ p17) (d02 : p8 ≠ p26) (d12 : p17 ≠ p26) : zMet G mX10_init d [.ref (ad a), .ref (ad dk), .ref (ad fl)] M (fun o M' => o = .inl none ∧ ∃ b8 b17 b26, Iso (adp (adp (adp ad p8 b8) p17 b17) p26 b26) M' (zputR (zputR (zputR (znewA (zputR (znewA (zputR (znewA N p8 14 512) 322 a (some p8)) p17 14 512) 323 a (some p17)) p26 19 256) 324 a (some p26)) 320 a (some dk)) 321 a (some fl))) := by
  refine (i_X10 hd hcb hrm (hI.k ha (by decide))).mono (fun o M' h => ?_)
  obtain ⟨e0, b8, b17, b26, hb8, hb17, hb26, e⟩ := h
  refine ⟨e0, b8, b17, b26, ?_⟩
  have nab8 : a ≠ p8 := fun z => by rw [z, hp8] at ha; cases ha
  have ndkb8 : dk ≠ p8 := fun z => by rw [z, hp8] at hdk; cases hdk
  have nflb8 : fl ≠ p8 := fun z => by rw [z, hp8] at hfl; cases hfl
  have nab17 : a ≠ p17 := fun z => by rw [z, hp17] at ha; cases ha
  have ndkb17 : dk ≠ p17 := fun z => by rw [z, hp17] at hdk; cases hdk
  have nflb17 : fl ≠ p17 := fun z => by rw [z, hp17] at hfl; cases hfl
  have nab26 : a ≠ p26 := fun z => by rw [z, hp26] at ha; cases ha
  have ndkb26 : dk ≠ p26 := fun z => by rw [z, hp26] at hdk; cases hdk
  have nflb26 : fl ≠ p26 := fun z => by rw [z, hp26] at hfl; cases hfl
  have I1 := Iso.newA (i := p8) (n := 512) hI hb8 hp8 (show 14 ≤ 14 by decide)
  have I2 := Iso.putR (i := a) (j := p8) (f := 322) I1 (by rw [show zK (znewA N p8 14 512) a = 11 from (nkA hp8 ha (by decide))]; decide) (by rw [show zK (znewA N p8 14 512) p8 = _ from (nkA0 _ _ _ _)]; decide)
  rw [show (adp ad p8 b8) a = ad a from by rw [adp_ne _ nab8], show (adp ad p8 b8) p8 = b8 from by rw [adp_hit]] at I2
  have I3 := Iso.newA (i := p17) (n := 512) I2 hb17 (nk00 hp17 (Ne.symm d01)) (show 14 ≤ 14 by decide)
  have I4 := Iso.putR (i := a) (j := p17) (f := 323) I3 (by rw [show zK (znewA (zputR (znewA N p8 14 512) 322 a (some p8)) p17 14 512) a = 11 from (nkA (nk00 hp17 (Ne.symm d01)) (nkA hp8 ha (by decide)) (by decide))]; decide) (by rw [show zK (znewA (zputR (znewA N p8 14 512) 322 a (some p8)) p17 14 512) p17 = _ from (nkA0 _ _ _ _)]; decide)
  rw [show (adp (adp ad p8 b8) p17 b17) a = ad a from by rw [adp_ne _ nab17, adp_ne _ nab8], show (adp (adp ad p8 b8) p17 b17) p17 = b17 from by rw [adp_hit]] at I4
  have I5 := Iso.newA (i := p26) (n := 256) I4 hb26 (nk00 (nk00 hp26 (Ne.symm d02)) (Ne.symm d12)) (show 14 ≤ 19 by decide)
  have I6 := Iso.putR (i := a) (j := p26) (f := 324) I5 (by rw [show zK (znewA (zputR (znewA (zputR (znewA N p8 14 512) 322 a (some p8)) p17 14 512) 323 a (some p17)) p26 19 256) a = 11 from (nkA (nk00 (nk00 hp26 (Ne.symm d02)) (Ne.symm d12)) (nkA (nk00 hp17 (Ne.symm d01)) (nkA hp8 ha (by decide)) (by decide)) (by decide))]; decide) (by rw [show zK (znewA (zputR (znewA (zputR (znewA N p8 14 512) 322 a (some p8)) p17 14 512) 323 a (some p17)) p26 19 256) p26 = _ from (nkA0 _ _ _ _)]; decide)
  rw [show (adp (adp (adp ad p8 b8) p17 b17) p26 b26) a = ad a from by rw [adp_ne _ nab26, adp_ne _ nab17, adp_ne _ nab8], show (adp (adp (adp ad p8 b8) p17 b17) p26 b26) p26 = b26 from by rw [adp_hit]] at I6
  have I7 := Iso.putR (i := a) (j := dk) (f := 320) I6 (by rw [show zK (zputR (znewA (zputR (znewA (zputR (znewA N p8 14 512) 322 a (some p8)) p17 14 512) 323 a (some p17)) p26 19 256) 324 a (some p26)) a = 11 from (nkA (nk00 (nk00 hp26 (Ne.symm d02)) (Ne.symm d12)) (nkA (nk00 hp17 (Ne.symm d01)) (nkA hp8 ha (by decide)) (by decide)) (by decide))]; decide) (by rw [show zK (zputR (znewA (zputR (znewA (zputR (znewA N p8 14 512) 322 a (some p8)) p17 14 512) 323 a (some p17)) p26 19 256) 324 a (some p26)) dk = _ from (nkA (nk00 (nk00 hp26 (Ne.symm d02)) (Ne.symm d12)) (nkA (nk00 hp17 (Ne.symm d01)) (nkA hp8 hdk (by decide)) (by decide)) (by decide))]; decide)
  rw [show (adp (adp (adp ad p8 b8) p17 b17) p26 b26) a = ad a from by rw [adp_ne _ nab26, adp_ne _ nab17, adp_ne _ nab8], show (adp (adp (adp ad p8 b8) p17 b17) p26 b26) dk = ad dk from by rw [adp_ne _ ndkb26, adp_ne _ ndkb17, adp_ne _ ndkb8]] at I7
  have I8 := Iso.putR (i := a) (j := fl) (f := 321) I7 (by rw [show zK (zputR (zputR (znewA (zputR (znewA (zputR (znewA N p8 14 512) 322 a (some p8)) p17 14 512) 323 a (some p17)) p26 19 256) 324 a (some p26)) 320 a (some dk)) a = 11 from (nkA (nk00 (nk00 hp26 (Ne.symm d02)) (Ne.symm d12)) (nkA (nk00 hp17 (Ne.symm d01)) (nkA hp8 ha (by decide)) (by decide)) (by decide))]; decide) (by rw [show zK (zputR (zputR (znewA (zputR (znewA (zputR (znewA N p8 14 512) 322 a (some p8)) p17 14 512) 323 a (some p17)) p26 19 256) 324 a (some p26)) 320 a (some dk)) fl = _ from (nkA (nk00 (nk00 hp26 (Ne.symm d02)) (Ne.symm d12)) (nkA (nk00 hp17 (Ne.symm d01)) (nkA hp8 hfl (by decide)) (by decide)) (by decide))]; decide)
  rw [show (adp (adp (adp ad p8 b8) p17 b17) p26 b26) a = ad a from by rw [adp_ne _ nab26, adp_ne _ nab17, adp_ne _ nab8], show (adp (adp (adp ad p8 b8) p17 b17) p26 b26) fl = ad fl from by rw [adp_ne _ nflb26, adp_ne _ nflb17, adp_ne _ nflb8]] at I8
  rw [e]
  exact I8
set_option maxRecDepth 100000 in
set_option maxHeartbeats 4000000 in
theorem n_X6 {G : zG} {ad : Nat → Nat} {d a n p10 : Nat} {M N : zM} (hd : 2 ≤ d) (hcb : zC M ≤ 600128 ∧ zS M ≤ 7301098) (hrm : zC M + 20 ≤ 600128 ∧ zS M + 400000 ≤ 7301098) (hI : Iso ad M N) (ha : zK N a = 7) (hp10 : zK N p10 = 0) (hn : n ≤ 200) : zMet G mX6_init d [.ref (ad a), .int (nI n)] M (fun o M' => o = .inl none ∧ ∃ b10, Iso (adp ad p10 b10) M' (zputR (znewA N p10 14 n) 192 a (some p10))) := by
  refine (i_X6 hd hcb hrm hn (hI.k ha (by decide))).mono (fun o M' h => ?_)
  obtain ⟨e0, b10, hb10, e⟩ := h
  refine ⟨e0, b10, ?_⟩
  have nab10 : a ≠ p10 := fun z => by rw [z, hp10] at ha; cases ha
  have I1 := Iso.newA (i := p10) (n := n) hI hb10 hp10 (show 14 ≤ 14 by decide)
  have I2 := Iso.putR (i := a) (j := p10) (f := 192) I1 (by rw [show zK (znewA N p10 14 n) a = 7 from (nkA hp10 ha (by decide))]; decide) (by rw [show zK (znewA N p10 14 n) p10 = _ from (nkA0 _ _ _ _)]; decide)
  rw [show (adp ad p10 b10) a = ad a from by rw [adp_ne _ nab10], show (adp ad p10 b10) p10 = b10 from by rw [adp_hit]] at I2
  rw [e]
  exact I2
