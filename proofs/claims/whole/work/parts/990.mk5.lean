/-! ===== constructors, in the mirror (5): levels, files, the store ===== -/
set_option maxRecDepth 100000 in
set_option maxHeartbeats 4000000 in
theorem v_X8 {G : zG} {ad : Nat → Nat} {d a dk b : Nat} {M N : zM} (hd : 2 ≤ d) (hI : Iso ad M N) (hrm : zC N + 20 ≤ 600128 ∧ zS N + 400000 ≤ 7301098) (ha : zK N a = 9) (hdk : zK N dk = 2) (hb : zK N b = 0) : zMet G mX8_init d [.ref (ad a), .ref (ad dk)] M (fun o M' => o = .inl none ∧ Nxt ad N M' (zrun N [(1, b, 15, 9), (3, 257, a, b), (3, 256, a, dk)])) := by
  refine (n_X8 hd (hI.c0 hrm) (hI.c hrm) hI ha hb hdk).mono (fun o M' h => ?_)
  obtain ⟨e0, q0, I⟩ := h
  exact ⟨e0, _, (ag1 hb (fun _ _ => rfl)), I⟩
set_option maxRecDepth 100000 in
set_option maxHeartbeats 4000000 in
theorem v_X0 {G : zG} {ad : Nat → Nat} {d a p8 p16 : Nat} {M N : zM} (hd : 2 ≤ d) (hI : Iso ad M N) (hrm : zC N + 20 ≤ 600128 ∧ zS N + 400000 ≤ 7301098) (ha : zK N a = 1) (hp8 : zK N p8 = 0) (hp16 : zK N p16 = 0) (dp8p16 : p8 ≠ p16) : zMet G mX0_init d [.ref (ad a)] M (fun o M' => o = .inl none ∧ Nxt ad N M' (zrun N [(1, p8, 14, 15363), (3, 0, a, p8), (1, p16, 15, 64), (3, 1, a, p16)])) := by
  refine (n_X0 hd (hI.c0 hrm) (hI.c hrm) hI ha  hp8 hp16 dp8p16).mono (fun o M' h => ?_)
  obtain ⟨e0, q0, q1, I⟩ := h
  exact ⟨e0, _, (ag1 hp16 (ag1 hp8 (fun _ _ => rfl))), I⟩
set_option maxRecDepth 100000 in
set_option maxHeartbeats 4000000 in
theorem v_X1 {G : zG} {ad : Nat → Nat} {d a p7 p16 : Nat} {M N : zM} (hd : 2 ≤ d) (hI : Iso ad M N) (hrm : zC N + 20 ≤ 600128 ∧ zS N + 400000 ≤ 7301098) (ha : zK N a = 2) (hp7 : zK N p7 = 0) (hp16 : zK N p16 = 0) (dp7p16 : p7 ≠ p16) : zMet G mX1_init d [.ref (ad a)] M (fun o M' => o = .inl none ∧ Nxt ad N M' (zrun N [(1, p7, 14, 304128), (3, 32, a, p7), (1, p16, 14, 512), (3, 33, a, p16), (2, 34, a, 1), (2, 35, a, 3)])) := by
  refine (n_X1 hd (hI.c0 hrm) (hI.c hrm) hI ha  hp7 hp16 dp7p16).mono (fun o M' h => ?_)
  obtain ⟨e0, q0, q1, I⟩ := h
  exact ⟨e0, _, (ag1 hp16 (ag1 hp7 (fun _ _ => rfl))), I⟩
set_option maxRecDepth 100000 in
set_option maxHeartbeats 4000000 in
theorem v_X3 {G : zG} {ad : Nat → Nat} {d a dk p8 : Nat} {M N : zM} (hd : 2 ≤ d) (hI : Iso ad M N) (hrm : zC N + 20 ≤ 600128 ∧ zS N + 400000 ≤ 7301098) (ha : zK N a = 4) (hdk : zK N dk = 2) (hp8 : zK N p8 = 0) : zMet G mX3_init d [.ref (ad a), .ref (ad dk)] M (fun o M' => o = .inl none ∧ Nxt ad N M' (zrun N [(1, p8, 14, 2048), (3, 97, a, p8), (3, 96, a, dk)])) := by
  refine (n_X3 hd (hI.c0 hrm) (hI.c hrm) hI ha hdk hp8 ).mono (fun o M' h => ?_)
  obtain ⟨e0, q0, I⟩ := h
  exact ⟨e0, _, (ag1 hp8 (fun _ _ => rfl)), I⟩
set_option maxRecDepth 100000 in
set_option maxHeartbeats 4000000 in
theorem v_X5 {G : zG} {ad : Nat → Nat} {d a dk p8 : Nat} {M N : zM} (hd : 2 ≤ d) (hI : Iso ad M N) (hrm : zC N + 20 ≤ 600128 ∧ zS N + 400000 ≤ 7301098) (ha : zK N a = 6) (hdk : zK N dk = 2) (hp8 : zK N p8 = 0) : zMet G mX5_init d [.ref (ad a), .ref (ad dk)] M (fun o M' => o = .inl none ∧ Nxt ad N M' (zrun N [(1, p8, 15, 2048), (3, 161, a, p8), (3, 160, a, dk)])) := by
  refine (n_X5 hd (hI.c0 hrm) (hI.c hrm) hI ha hdk hp8 ).mono (fun o M' h => ?_)
  obtain ⟨e0, q0, I⟩ := h
  exact ⟨e0, _, (ag1 hp8 (fun _ _ => rfl)), I⟩
set_option maxRecDepth 100000 in
set_option maxHeartbeats 4000000 in
theorem v_X7 {G : zG} {ad : Nat → Nat} {d a dk p8 p17 : Nat} {M N : zM} (hd : 2 ≤ d) (hI : Iso ad M N) (hrm : zC N + 20 ≤ 600128 ∧ zS N + 400000 ≤ 7301098) (ha : zK N a = 8) (hdk : zK N dk = 2) (hp8 : zK N p8 = 0) (hp17 : zK N p17 = 0) (dp8p17 : p8 ≠ p17) : zMet G mX7_init d [.ref (ad a), .ref (ad dk)] M (fun o M' => o = .inl none ∧ Nxt ad N M' (zrun N [(1, p8, 15, 2048), (3, 225, a, p8), (1, p17, 15, 2048), (3, 226, a, p17), (3, 224, a, dk)])) := by
  refine (n_X7 hd (hI.c0 hrm) (hI.c hrm) hI ha hdk hp8 hp17 dp8p17).mono (fun o M' h => ?_)
  obtain ⟨e0, q0, q1, I⟩ := h
  exact ⟨e0, _, (ag1 hp17 (ag1 hp8 (fun _ _ => rfl))), I⟩
set_option maxRecDepth 100000 in
set_option maxHeartbeats 4000000 in
theorem v_X10 {G : zG} {ad : Nat → Nat} {d a dk fl p8 p17 p26 : Nat} {M N : zM} (hd : 2 ≤ d) (hI : Iso ad M N) (hrm : zC N + 20 ≤ 600128 ∧ zS N + 400000 ≤ 7301098) (ha : zK N a = 11) (hdk : zK N dk = 2) (hfl : zK N fl = 3) (hp8 : zK N p8 = 0) (hp17 : zK N p17 = 0) (hp26 : zK N p26 = 0) (dp8p17 : p8 ≠ p17) (dp8p26 : p8 ≠ p26) (dp17p26 : p17 ≠ p26) : zMet G mX10_init d [.ref (ad a), .ref (ad dk), .ref (ad fl)] M (fun o M' => o = .inl none ∧ Nxt ad N M' (zrun N [(1, p8, 14, 512), (3, 322, a, p8), (1, p17, 14, 512), (3, 323, a, p17), (1, p26, 19, 256), (3, 324, a, p26), (3, 320, a, dk), (3, 321, a, fl)])) := by
  refine (n_X10 hd (hI.c0 hrm) (hI.c hrm) hI ha hdk hfl hp8 hp17 hp26 dp8p17 dp8p26 dp17p26).mono (fun o M' h => ?_)
  obtain ⟨e0, q0, q1, q2, I⟩ := h
  exact ⟨e0, _, (ag1 hp26 (ag1 hp17 (ag1 hp8 (fun _ _ => rfl)))), I⟩
set_option maxRecDepth 100000 in
set_option maxHeartbeats 4000000 in
theorem v_X9 {G : zG} {ad : Nat → Nat} {d a b : Nat} {M N : zM} (hd : 2 ≤ d) (hI : Iso ad M N) (hrm : zC N + 20 ≤ 600128 ∧ zS N + 400000 ≤ 7301098) (ha : zK N a = 10) (hb : zK N b = 0) : zMet G mX9_init d [.ref (ad a)] M (fun o M' => o = .inl none ∧ Nxt ad N M' (zrun N [(1, b, 15, 8), (5, b, 8, 0), (3, 288, a, b)])) := by
  refine (n_X9 hd (hI.c0 hrm) (hI.c hrm) hI ha  hb ).mono (fun o M' h => ?_)
  obtain ⟨e0, q0, I⟩ := h
  exact ⟨e0, _, (ag1 hb (fun _ _ => rfl)), I⟩
set_option maxRecDepth 100000 in
set_option maxHeartbeats 4000000 in
theorem v_X6 {G : zG} {ad : Nat → Nat} {d a n b : Nat} {M N : zM} (hd : 2 ≤ d) (hI : Iso ad M N) (hrm : zC N + 20 ≤ 600128 ∧ zS N + 400000 ≤ 7301098) (ha : zK N a = 7) (hb : zK N b = 0) (hn : n ≤ 200) : zMet G mX6_init d [.ref (ad a), .int (nI n)] M (fun o M' => o = .inl none ∧ Nxt ad N M' (zrun N [(1, b, 14, n), (3, 192, a, b)])) := by
  refine (n_X6 hd (hI.c0 hrm) (hI.c hrm) hI ha hb hn).mono (fun o M' h => ?_)
  obtain ⟨e0, q0, I⟩ := h
  exact ⟨e0, _, ag1 hb (fun _ _ => rfl), I⟩
set_option maxRecDepth 100000 in
set_option maxHeartbeats 4000000 in
theorem v_X8s {G : zG} {ad : Nat → Nat} {d a : Nat} {M N : zM} (hI : Iso ad M N) (hrm : zC N + 20 ≤ 600128 ∧ zS N + 400000 ≤ 7301098) (ha : zK N a = 9) : zMet G mX8_start d [.ref (ad a)] M (fun o M' => o = .inl none ∧ Iso ad M' (zrun N [(2, 258, a, 0), (6, 259, a, 0)])) := by
  refine (i_X8s (hI.c0 hrm) (hI.k ha (by decide))).mono (fun o M' h => ?_)
  obtain ⟨e0, e⟩ := h
  rw [e]
  refine ⟨e0, ?_⟩
  have I1 := hI.put (i := a) (f := 258) (v := nI 0) (by omega)
  exact I1.put (i := a) (f := 259) (v := -1) (show zK N a ≠ 0 by omega)
set_option maxRecDepth 100000 in
set_option maxHeartbeats 4000000 in
theorem v_X12 {G : zG} {ad : Nat → Nat} {d : Nat} {M N : zM} (hd : 2 ≤ d) (hI : Iso ad M N) (hrm : zC N + 20 ≤ 600128 ∧ zS N + 400000 ≤ 7301098) (ha : zK N 38 = 13) (h39 : zK N 39 = 0) (h40 : zK N 40 = 0) (h41 : zK N 41 = 0) (h42 : zK N 42 = 0) (h43 : zK N 43 = 0) (h44 : zK N 44 = 0) (h45 : zK N 45 = 0) : zMet G mX12_init d [.ref (ad 38)] M (fun o M' => o = .inl none ∧ Nxt ad N M' (zrun N [(1, 39, 14, 32), (3, 384, 38, 39), (1, 40, 14, 200), (3, 385, 38, 40), (1, 41, 14, 16400), (3, 388, 38, 41), (1, 42, 14, 70000), (3, 389, 38, 42), (1, 43, 14, 131200), (3, 390, 38, 43), (1, 44, 15, 8), (3, 393, 38, 44), (1, 45, 14, 15360), (3, 395, 38, 45), (2, 401, 38, 3)])) := by
  refine (n_X12 hd (hI.c0 hrm) (hI.c hrm) hI ha h39 h40 h41 h42 h43 h44 h45 (by decide) (by decide) (by decide) (by decide) (by decide) (by decide) (by decide) (by decide) (by decide) (by decide) (by decide) (by decide) (by decide) (by decide) (by decide) (by decide) (by decide) (by decide) (by decide) (by decide) (by decide)).mono (fun o M' h => ?_)
  obtain ⟨e0, q1, q2, q3, q4, q5, q6, q7, I⟩ := h
  exact ⟨e0, _, (ag1 h45 (ag1 h44 (ag1 h43 (ag1 h42 (ag1 h41 (ag1 h40 (ag1 h39 (fun _ _ => rfl)))))))), I⟩
set_option maxRecDepth 100000 in
set_option maxHeartbeats 4000000 in
theorem v_X4 {G : zG} {ad : Nat → Nat} {d a dk p t b x y : Nat} {M N : zM} (hd : 4 ≤ d) (hI : Iso ad M N) (hrm : zC N + 40 ≤ 600128 ∧ zS N + 500000 ≤ 7301098) (ha : zK N a = 5) (hdk : zK N dk = 2) (hp : zK N p = 0) (ht : zK N t = 0) (hb : zK N b = 0) (hx : zK N x = 12) (hy : zK N y = 18) (dpt : p ≠ t) (dpb : p ≠ b) (dtb : t ≠ b) : zMet G mX4_init d [.ref (ad a), .ref (ad dk)] M (fun o M' => o = .inl none ∧ ∃ ad', ad' x = ad x ∧ ad' y = ad y ∧ ad' a = ad a ∧ Iso ad' M' (zrun N [(1, p, 19, 256), (3, 130, a, p), (3, 128, a, dk), (0, t, 8, 5), (1, b, 15, 9), (3, 257, t, b), (3, 256, t, dk), (3, 129, a, t), (2, 258, t, 0), (6, 259, t, 0)])) := by
  have dap : a ≠ p := fun z => by have h9 := ha; rw [z, hp] at h9; cases h9
  have dat : a ≠ t := fun z => by have h9 := ha; rw [z, ht] at h9; cases h9
  have dab : a ≠ b := fun z => by have h9 := ha; rw [z, hb] at h9; cases h9
  have ddkp : dk ≠ p := fun z => by have h9 := hdk; rw [z, hp] at h9; cases h9
  have ddkt : dk ≠ t := fun z => by have h9 := hdk; rw [z, ht] at h9; cases h9
  have ddkb : dk ≠ b := fun z => by have h9 := hdk; rw [z, hb] at h9; cases h9
  have dxp : x ≠ p := fun z => by have h9 := hx; rw [z, hp] at h9; cases h9
  have dxt : x ≠ t := fun z => by have h9 := hx; rw [z, ht] at h9; cases h9
  have dxb : x ≠ b := fun z => by have h9 := hx; rw [z, hb] at h9; cases h9
  have dyp : y ≠ p := fun z => by have h9 := hy; rw [z, hp] at h9; cases h9
  have dyt : y ≠ t := fun z => by have h9 := hy; rw [z, ht] at h9; cases h9
  have dyb : y ≠ b := fun z => by have h9 := hy; rw [z, hb] at h9; cases h9
  refine zMet_of (by decide +kernel) (Nat.le_of_ble_eq_true rfl) rfl (by have := hI.c (a := 0) (b := 0) (by omega); omega) ?_
  show zw G mX4_init d _ _ _ 0 [some (.ref (ad a)), some (.ref (ad dk))] [] M
  refine zr_aload_n dX4_init_0 rfl ?_
  refine zr_objInit dX4_init_1 mlX4_3 (Nat.le_of_ble_eq_true rfl) (by omega) ?_
  refine zr_aload_n dX4_init_4 rfl ?_
  refine zr_sipush (v := nI 256) dX4_init_5 (by decide) ?_
  refine zn_newQ (κ := 19) (i := p) hI dX4_init_8 (Or.inr ⟨rfl, rfl, rfl⟩) (by decide +kernel) ao_19 (by decide) hp (show zC N + 1 ≤ 600128 ∧ zS N + 256 ≤ 7301098 by omega) (fun a1 M1 h1 I1 => ?_)
  have q1_a : a1 a = ad a := h1 a (by rw [ha]; decide)
  rw [← q1_a]
  have z1_a : a1 a = ad a := q1_a
  have q1_dk : a1 dk = ad dk := h1 dk (by rw [hdk]; decide)
  rw [← q1_dk]
  have q1_x : a1 x = ad x := h1 x (by rw [hx]; decide)
  have z1_x : a1 x = ad x := q1_x
  have q1_y : a1 y = ad y := h1 y (by rw [hy]; decide)
  have z1_y : a1 y = ad y := q1_y
  obtain ⟨N1, g1⟩ : ∃ z, z = zap N (1, p, 19, 256) := ⟨_, rfl⟩
  have J1 : Iso a1 M1 N1 := by rw [g1]; exact I1
  have f1_a : zK N1 a = 5 := by rw [g1]; exact (kA ha (by first | omega | (unfold tA tB; omega) | (unfold tA; omega) | (unfold tB; omega)))
  have f1_dk : zK N1 dk = 2 := by rw [g1]; exact (kA hdk (by first | omega | (unfold tA tB; omega) | (unfold tA; omega) | (unfold tB; omega)))
  have f1_p : zK N1 p = 19 := by rw [g1]; exact kA0
  have f1_t : zK N1 t = 0 := by rw [g1]; exact (kA ht (by first | omega | (unfold tA tB; omega) | (unfold tA; omega) | (unfold tB; omega)))
  have f1_b : zK N1 b = 0 := by rw [g1]; exact (kA hb (by first | omega | (unfold tA tB; omega) | (unfold tA; omega) | (unfold tB; omega)))
  have f1_x : zK N1 x = 12 := by rw [g1]; exact (kA hx (by first | omega | (unfold tA tB; omega) | (unfold tA; omega) | (unfold tB; omega)))
  have f1_y : zK N1 y = 18 := by rw [g1]; exact (kA hy (by first | omega | (unfold tA tB; omega) | (unfold tA; omega) | (unfold tB; omega)))
  have c1 : zC N1 = zC N + 1 ∧ zS N1 = zS N + 256 := by rw [g1]; exact ⟨rfl, rfl⟩
  refine zn_putR (i := a) (j := p) J1 dX4_init_11 (lkX4_11.elim id (fun h => absurd h (by decide +kernel))) rfl rfl (by decide) (by decide) rfl f1_a (by rw [f1_p]; decide) (fun M2 I2 => ?_)
  obtain ⟨N2, g2⟩ : ∃ z, z = zap N1 (3, 130, a, p) := ⟨_, rfl⟩
  have J2 : Iso a1 M2 N2 := by rw [g2]; exact I2
  have f2_a : zK N2 a = 5 := by rw [g2]; exact f1_a
  have f2_dk : zK N2 dk = 2 := by rw [g2]; exact f1_dk
  have f2_p : zK N2 p = 19 := by rw [g2]; exact f1_p
  have f2_t : zK N2 t = 0 := by rw [g2]; exact f1_t
  have f2_b : zK N2 b = 0 := by rw [g2]; exact f1_b
  have f2_x : zK N2 x = 12 := by rw [g2]; exact f1_x
  have f2_y : zK N2 y = 18 := by rw [g2]; exact f1_y
  have c2 : zC N2 = zC N1 + 0 ∧ zS N2 = zS N1 + 0 := by rw [g2]; exact ⟨rfl, rfl⟩
  refine zr_aload_n dX4_init_14 rfl ?_
  refine zr_aload_n dX4_init_15 rfl ?_
  refine zn_putR (i := a) (j := dk) J2 dX4_init_16 (lkX4_17.elim id (fun h => absurd h (by decide +kernel))) rfl rfl (by decide) (by decide) rfl f2_a (by rw [f2_dk]; decide) (fun M3 I3 => ?_)
  obtain ⟨N3, g3⟩ : ∃ z, z = zap N2 (3, 128, a, dk) := ⟨_, rfl⟩
  have J3 : Iso a1 M3 N3 := by rw [g3]; exact I3
  have f3_a : zK N3 a = 5 := by rw [g3]; exact f2_a
  have f3_dk : zK N3 dk = 2 := by rw [g3]; exact f2_dk
  have f3_p : zK N3 p = 19 := by rw [g3]; exact f2_p
  have f3_t : zK N3 t = 0 := by rw [g3]; exact f2_t
  have f3_b : zK N3 b = 0 := by rw [g3]; exact f2_b
  have f3_x : zK N3 x = 12 := by rw [g3]; exact f2_x
  have f3_y : zK N3 y = 18 := by rw [g3]; exact f2_y
  have c3 : zC N3 = zC N2 + 0 ∧ zS N3 = zS N2 + 0 := by rw [g3]; exact ⟨rfl, rfl⟩
  refine zr_aload_n dX4_init_19 rfl ?_
  refine zn_new (i := t) J3 dX4_init_20 clX4_9 (by decide) f3_t (show zC N3 + 1 ≤ 600128 ∧ zS N3 + 5 ≤ 7301098 by omega) (fun a4 M4 h4 I4 => ?_)
  have q4_a : a4 a = a1 a := h4 a (by rw [f3_a]; decide)
  rw [← q4_a]
  have z4_a : a4 a = ad a := q4_a.trans z1_a
  have q4_dk : a4 dk = a1 dk := h4 dk (by rw [f3_dk]; decide)
  rw [← q4_dk]
  have q4_x : a4 x = a1 x := h4 x (by rw [f3_x]; decide)
  have z4_x : a4 x = ad x := q4_x.trans z1_x
  have q4_y : a4 y = a1 y := h4 y (by rw [f3_y]; decide)
  have z4_y : a4 y = ad y := q4_y.trans z1_y
  obtain ⟨N4, g4⟩ : ∃ z, z = zap N3 (0, t, 8, zn 8) := ⟨_, rfl⟩
  have J4 : Iso a4 M4 N4 := by rw [g4]; exact I4
  have f4_a : zK N4 a = 5 := by rw [g4]; exact (kO f3_a (by first | omega | (unfold tA tB; omega) | (unfold tA; omega) | (unfold tB; omega)))
  have f4_dk : zK N4 dk = 2 := by rw [g4]; exact (kO f3_dk (by first | omega | (unfold tA tB; omega) | (unfold tA; omega) | (unfold tB; omega)))
  have f4_p : zK N4 p = 19 := by rw [g4]; exact (kO f3_p (by first | omega | (unfold tA tB; omega) | (unfold tA; omega) | (unfold tB; omega)))
  have f4_t : zK N4 t = 9 := by rw [g4]; exact kO0
  have f4_b : zK N4 b = 0 := by rw [g4]; exact (kO f3_b (by first | omega | (unfold tA tB; omega) | (unfold tA; omega) | (unfold tB; omega)))
  have f4_x : zK N4 x = 12 := by rw [g4]; exact (kO f3_x (by first | omega | (unfold tA tB; omega) | (unfold tA; omega) | (unfold tB; omega)))
  have f4_y : zK N4 y = 18 := by rw [g4]; exact (kO f3_y (by first | omega | (unfold tA tB; omega) | (unfold tA; omega) | (unfold tB; omega)))
  have c4 : zC N4 = zC N3 + 1 ∧ zS N4 = zS N3 + 5 := by rw [g4]; exact ⟨rfl, rfl⟩
  refine zr_dup dX4_init_23 rfl ?_
  refine zr_aload_n dX4_init_24 rfl ?_
  refine zr_callI (md' := mX8_init) (As := [.ref (a4 dk)]) dX4_init_25 (Or.inl mlX4_21) okX8_init rfl rfl rfl inX8_init rfl (by omega) (Nat.le_of_ble_eq_true rfl) (J4.c0 (by omega)) (v_X8 (d := d - 1) (a := t) (b := b) (dk := dk) (by omega) J4 (by omega) f4_t f4_dk f4_b) (fun k M1 h => by cases h.1) (fun v M5 hq => ?_)
  obtain ⟨e0, a5, h5, I5⟩ := hq
  cases e0
  show zw G mX4_init d _ _ _ 28 [some (.ref (a4 a)), some (.ref (a4 dk))] [.ref (a4 t), .ref (a4 a)] M5
  have q5_a : a5 a = a4 a := h5 a (by rw [f4_a]; decide)
  rw [← q5_a]
  have z5_a : a5 a = ad a := q5_a.trans z4_a
  have q5_dk : a5 dk = a4 dk := h5 dk (by rw [f4_dk]; decide)
  rw [← q5_dk]
  have q5_t : a5 t = a4 t := h5 t (by rw [f4_t]; decide)
  rw [← q5_t]
  have q5_x : a5 x = a4 x := h5 x (by rw [f4_x]; decide)
  have z5_x : a5 x = ad x := q5_x.trans z4_x
  have q5_y : a5 y = a4 y := h5 y (by rw [f4_y]; decide)
  have z5_y : a5 y = ad y := q5_y.trans z4_y
  obtain ⟨N5, g5⟩ : ∃ z, z = zrun N4 [(1, b, 15, 9), (3, 257, t, b), (3, 256, t, dk)] := ⟨_, rfl⟩
  have J5 : Iso a5 M5 N5 := by rw [g5]; exact I5
  have f5_a : zK N5 a = 5 := by rw [g5]; exact (kA f4_a (by first | omega | (unfold tA tB; omega) | (unfold tA; omega) | (unfold tB; omega)))
  have f5_dk : zK N5 dk = 2 := by rw [g5]; exact (kA f4_dk (by first | omega | (unfold tA tB; omega) | (unfold tA; omega) | (unfold tB; omega)))
  have f5_p : zK N5 p = 19 := by rw [g5]; exact (kA f4_p (by first | omega | (unfold tA tB; omega) | (unfold tA; omega) | (unfold tB; omega)))
  have f5_t : zK N5 t = 9 := by rw [g5]; exact (kA f4_t (by first | omega | (unfold tA tB; omega) | (unfold tA; omega) | (unfold tB; omega)))
  have f5_b : zK N5 b = 15 := by rw [g5]; exact kA0
  have f5_x : zK N5 x = 12 := by rw [g5]; exact (kA f4_x (by first | omega | (unfold tA tB; omega) | (unfold tA; omega) | (unfold tB; omega)))
  have f5_y : zK N5 y = 18 := by rw [g5]; exact (kA f4_y (by first | omega | (unfold tA tB; omega) | (unfold tA; omega) | (unfold tB; omega)))
  have c5 : zC N5 = zC N4 + 1 ∧ zS N5 = zS N4 + 9 := by rw [g5]; exact ⟨rfl, rfl⟩
  refine zn_putR (i := a) (j := t) J5 dX4_init_28 (lkX4_24.elim id (fun h => absurd h (by decide +kernel))) rfl rfl (by decide) (by decide) rfl f5_a (by rw [f5_t]; decide) (fun M6 I6 => ?_)
  obtain ⟨N6, g6⟩ : ∃ z, z = zap N5 (3, 129, a, t) := ⟨_, rfl⟩
  have J6 : Iso a5 M6 N6 := by rw [g6]; exact I6
  have f6_a : zK N6 a = 5 := by rw [g6]; exact f5_a
  have f6_dk : zK N6 dk = 2 := by rw [g6]; exact f5_dk
  have f6_p : zK N6 p = 19 := by rw [g6]; exact f5_p
  have f6_t : zK N6 t = 9 := by rw [g6]; exact f5_t
  have f6_b : zK N6 b = 15 := by rw [g6]; exact f5_b
  have f6_x : zK N6 x = 12 := by rw [g6]; exact f5_x
  have f6_y : zK N6 y = 18 := by rw [g6]; exact f5_y
  have c6 : zC N6 = zC N5 + 0 ∧ zS N6 = zS N5 + 0 := by rw [g6]; exact ⟨rfl, rfl⟩
  refine zr_aload_n dX4_init_31 rfl ?_
  refine zn_getR (i := a) (j := t) J6 dX4_init_32 lkX4_24 (by decide) (by decide) rfl f6_a (by rw [g6]; exact if_pos ⟨rfl, rfl⟩) ?_
  refine zr_callV (md' := mX8_start) (As := []) dX4_init_35 mlX4_28 okX8_start rfl inX8_start slX8_start (by decide) (J6.k f6_t (by decide)) rfl (by omega) (Nat.le_of_ble_eq_true rfl) (J6.c0 (by omega)) (v_X8s (d := d - 1) (a := t) J6 (by omega) f6_t) (fun k M1 h => by cases h.1) (fun v M7 hq => ?_)
  obtain ⟨e0, I7⟩ := hq
  cases e0
  show zw G mX4_init d _ _ _ 38 [some (.ref (a5 a)), some (.ref (a5 dk))] [] M7
  obtain ⟨N7, g7⟩ : ∃ z, z = zrun N6 [(2, 258, t, 0), (6, 259, t, 0)] := ⟨_, rfl⟩
  have J7 : Iso a5 M7 N7 := by rw [g7]; exact I7
  have f7_a : zK N7 a = 5 := by rw [g7]; exact f6_a
  have f7_dk : zK N7 dk = 2 := by rw [g7]; exact f6_dk
  have f7_p : zK N7 p = 19 := by rw [g7]; exact f6_p
  have f7_t : zK N7 t = 9 := by rw [g7]; exact f6_t
  have f7_b : zK N7 b = 15 := by rw [g7]; exact f6_b
  have f7_x : zK N7 x = 12 := by rw [g7]; exact f6_x
  have f7_y : zK N7 y = 18 := by rw [g7]; exact f6_y
  have c7 : zC N7 = zC N6 + 0 ∧ zS N7 = zS N6 + 0 := by rw [g7]; exact ⟨rfl, rfl⟩
  refine zr_vret dX4_init_38 rfl ?_
  rw [g7, g6, g5, g4, g3, g2, g1] at J7
  exact ⟨rfl, _, z5_x, z5_y, rfl, J7⟩
def tb (k : Nat) : List (Nat × Nat × Nat × Nat) := [(0, tA k, 8, 5), (1, tB k, 15, 9), (3, 257, tA k, tB k), (3, 256, tA k, 1), (4, 20, k, tA k)]
def tlN (N : zM) : Nat → zM
  | 0 => N
  | k + 1 => zrun (tlN N k) (tb k)
theorem tlK_lo (N : zM) {i : Nat} (hi : i < 64) : ∀ k, zK (tlN N k) i = zK N i
  | 0 => rfl
  | k + 1 => by
    show va_up (va_up (zK (tlN N k)) (tA k) 9) (tB k) 15 i = zK N i
    rw [va_up_ne _ _ (by unfold tB; omega), va_up_ne _ _ (by unfold tA; omega)]
    exact tlK_lo N hi k
theorem tlK_hi (N : zM) {i : Nat} : ∀ k, 64 + 2 * k ≤ i → zK (tlN N k) i = zK N i
  | 0, _ => rfl
  | k + 1, h => by
    show va_up (va_up (zK (tlN N k)) (tA k) 9) (tB k) 15 i = zK N i
    rw [va_up_ne _ _ (by unfold tB; omega), va_up_ne _ _ (by unfold tA; omega)]
    exact tlK_hi N k (by omega)
theorem tlN_lo (N : zM) {i : Nat} (hi : i < 64) : ∀ k, zN (tlN N k) i = zN N i
  | 0 => rfl
  | k + 1 => by
    show va_up (zN (tlN N k)) (tB k) 9 i = zN N i
    rw [va_up_ne _ _ (by unfold tB; omega)]
    exact tlN_lo N hi k
theorem tlR_lo (N : zM) {f i : Nat} (hi : i < 64) : ∀ k, zR (tlN N k) f i = zR N f i
  | 0 => rfl
  | k + 1 => by
    show (if f = 256 ∧ i = tA k then some 1 else if f = 257 ∧ i = tA k then some (tB k) else if i = tA k then none else zR (tlN N k) f i) = zR N f i
    have h : ¬ i = tA k := by unfold tA; omega
    rw [if_neg (fun z => h z.2), if_neg (fun z => h z.2), if_neg h]
    exact tlR_lo N hi k
theorem tlC (N : zM) : ∀ k, zC (tlN N k) = zC N + 2 * k ∧ zS (tlN N k) = zS N + 14 * k
  | 0 => ⟨rfl, rfl⟩
  | k + 1 => by
    have h := tlC N k
    have h1 : zC (tlN N (k + 1)) = zC (tlN N k) + 1 + 1 := rfl
    have h2 : zS (tlN N (k + 1)) = zS (tlN N k) + 5 + 9 := rfl
    omega
def b0 : zM := zap ze (0, 0, 11, 18)
def b1 : zM := zap (zrun (zap b0 (0, 1, 1, 8)) [(1, 2, 14, 304128), (3, 32, 1, 2), (1, 3, 14, 512), (3, 33, 1, 3), (2, 34, 1, 1), (2, 35, 1, 3)]) (3, 352, 0, 1)
def b2 : zM := zap (zrun (zap b1 (0, 4, 6, 2)) [(1, 5, 14, 32), (3, 192, 4, 5)]) (3, 353, 0, 4)
def b3 : zM := zap (zrun (zap b2 (0, 6, 6, 2)) [(1, 7, 14, 200), (3, 192, 6, 7)]) (3, 354, 0, 6)
def b4 : zM := zap (zrun (zap b3 (0, 8, 6, 2)) [(1, 9, 14, 32), (3, 192, 8, 9)]) (3, 355, 0, 8)
def b5 : zM := zap (zrun (zap b4 (0, 10, 0, 5)) [(1, 11, 14, 15363), (3, 0, 10, 11), (1, 12, 15, 64), (3, 1, 10, 12)]) (3, 356, 0, 10)
def b6 : zM := zap (zrun (zap b5 (0, 13, 9, 1)) [(1, 14, 15, 8), (5, 14, 8, 0), (3, 288, 13, 14)]) (3, 357, 0, 13)
def b7 : zM := zap (zrun (zap b6 (0, 15, 5, 7)) [(1, 16, 15, 2048), (3, 161, 15, 16), (3, 160, 15, 1)]) (3, 358, 0, 15)
def b7f : zM := zap b7 (0, 17, 2, 8)
def b7g : zM := zrun b7f [(1, 18, 16, 512), (3, 64, 17, 18), (1, 19, 15, 512), (3, 65, 17, 19), (1, 20, 19, 256), (3, 66, 17, 20), (1, 21, 19, 256), (3, 67, 17, 21), (2, 69, 17, 512), (2, 70, 17, 256)]
def b8 : zM := zap (tlN b7g 256) (3, 359, 0, 17)
def b9 : zM := zap (zap b8 (1, 22, 18, 3)) (3, 360, 0, 22)
def b10 : zM := zap (zrun (zap b9 (0, 23, 7, 5)) [(1, 24, 15, 2048), (3, 225, 23, 24), (1, 25, 15, 2048), (3, 226, 23, 25), (3, 224, 23, 1)]) (3, 361, 0, 23)
def b11 : zM := zap (zrun (zap b10 (0, 26, 10, 8)) [(1, 27, 14, 512), (3, 322, 26, 27), (1, 28, 14, 512), (3, 323, 26, 28), (1, 29, 19, 256), (3, 324, 26, 29), (3, 320, 26, 1), (3, 321, 26, 17)]) (3, 362, 0, 26)
def b12 : zM := zap (zrun (zap b11 (0, 30, 3, 7)) [(1, 31, 14, 2048), (3, 97, 30, 31), (3, 96, 30, 1)]) (3, 363, 0, 30)
def b13 : zM := zap (zrun (zap b12 (0, 32, 4, 6)) [(1, 35, 19, 256), (3, 130, 32, 35), (3, 128, 32, 1), (0, 576, 8, 5), (1, 577, 15, 9), (3, 257, 576, 577), (3, 256, 576, 1), (3, 129, 32, 576), (2, 258, 576, 0), (6, 259, 576, 0)]) (4, 22, 0, 32)
def b14 : zM := zap (zrun (zap b13 (0, 33, 4, 6)) [(1, 36, 19, 256), (3, 130, 33, 36), (3, 128, 33, 1), (0, 578, 8, 5), (1, 579, 15, 9), (3, 257, 578, 579), (3, 256, 578, 1), (3, 129, 33, 578), (2, 258, 578, 0), (6, 259, 578, 0)]) (4, 22, 1, 33)
def b15 : zM := zap (zrun (zap b14 (0, 34, 4, 6)) [(1, 37, 19, 256), (3, 130, 34, 37), (3, 128, 34, 1), (0, 580, 8, 5), (1, 581, 15, 9), (3, 257, 580, 581), (3, 256, 580, 1), (3, 129, 34, 580), (2, 258, 580, 0), (6, 259, 580, 0)]) (4, 22, 2, 34)
def b16 : zM := zrun (zap b15 (0, 38, 12, 19)) [(1, 39, 14, 32), (3, 384, 38, 39), (1, 40, 14, 200), (3, 385, 38, 40), (1, 41, 14, 16400), (3, 388, 38, 41), (1, 42, 14, 70000), (3, 389, 38, 42), (1, 43, 14, 131200), (3, 390, 38, 43), (1, 44, 15, 8), (3, 393, 38, 44), (1, 45, 14, 15360), (3, 395, 38, 45), (2, 401, 38, 3)]
def b17 : zM := zap b16 (1, 46, 17, 1)
theorem bz_hi : ∀ i, i < 582 → 64 ≤ i → zK b7g i = 0 := by decide +kernel
theorem bz_c : zC b7g + 600 ≤ 600128 ∧ zS b7g + 600000 ≤ 7301098 := by decide +kernel
set_option maxRecDepth 100000 in
set_option maxHeartbeats 4000000 in
theorem l_X2 {G : zG} {d k0 n0 : Nat} {Q : zOut → zM → Prop} (hd : 4 ≤ d) : ∀ (m k : Nat) (ad : Nat → Nat) (M : zM), 256 - k = m → k ≤ 256 → Iso ad M (tlN b7g k) → (∀ ad' M', ad' 0 = ad 0 → ad' 17 = ad 17 → Iso ad' M' (tlN b7g 256) → Q (.inl none) M') → zw G mX2_init d k0 n0 Q 58 [some (.ref (ad 17)), some (.ref (ad 1)), some (.int (nI k))] [] M := by
  intro m
  induction m using Nat.strongRecOn with
  | _ m ih =>
    intro k ad M hm hk hI hq
    refine zr_iload_n dX2_init_58 rfl ?_
    refine zr_sipush (v := nI 256) dX2_init_59 (by decide) ?_
    refine zr_icmp_geN 85 dX2_init_62 (by decide) (by omega) (by decide) (fun h62 => ?_) (fun h62 => ?_)
    · refine zr_vret dX2_init_85 rfl ?_
      have e : k = 256 := by omega
      subst e
      exact hq ad M rfl rfl hI
    · obtain ⟨N, gN⟩ : ∃ z, z = tlN b7g k := ⟨_, rfl⟩
      have I0 : Iso ad M N := by rw [gN]; exact hI
      have f17 : zK N 17 = 3 := by rw [gN, tlK_lo _ (by decide)]; decide +kernel
      have f1 : zK N 1 = 2 := by rw [gN, tlK_lo _ (by decide)]; decide +kernel
      have f0 : zK N 0 = 12 := by rw [gN, tlK_lo _ (by decide)]; decide +kernel
      have f20 : zK N 20 = 19 := by rw [gN, tlK_lo _ (by decide)]; decide +kernel
      have ft : zK N (tA k) = 0 := by rw [gN, tlK_hi _ _ (by unfold tA; omega)]; exact bz_hi _ (by unfold tA; omega) (by unfold tA; omega)
      have fb : zK N (tB k) = 0 := by rw [gN, tlK_hi _ _ (by unfold tB; omega)]; exact bz_hi _ (by unfold tB; omega) (by unfold tB; omega)
      have fr : zR N 66 17 = some 20 := by rw [gN, tlR_lo _ (by decide)]; decide +kernel
      have fn : zN N 20 = 256 := by rw [gN, tlN_lo _ (by decide)]; decide +kernel
      have hrm : zC N + 40 ≤ 600128 ∧ zS N + 500000 ≤ 7301098 := by
        have h1 := tlC b7g k
        have h2 := bz_c
        rw [gN]
        omega
      refine zr_aload_n dX2_init_65 rfl ?_
      refine zn_getR (i := 17) (j := 20) I0 dX2_init_66 lkX2_21 (by decide) (by decide) rfl f17 fr ?_
      refine zr_iload_n dX2_init_69 rfl ?_
      refine zn_new (i := (tA k)) I0 dX2_init_70 clX2_19 (by decide) ft (show zC N + 1 ≤ 600128 ∧ zS N + 5 ≤ 7301098 by omega) (fun a1 M1 h1 I1 => ?_)
      have q1_17 : a1 17 = ad 17 := h1 17 (by rw [f17]; decide)
      rw [← q1_17]
      have z1_17 : a1 17 = ad 17 := q1_17
      have q1_1 : a1 1 = ad 1 := h1 1 (by rw [f1]; decide)
      rw [← q1_1]
      have q1_20 : a1 20 = ad 20 := h1 20 (by rw [f20]; decide)
      rw [← q1_20]
      have q1_0 : a1 0 = ad 0 := h1 0 (by rw [f0]; decide)
      have z1_0 : a1 0 = ad 0 := q1_0
      obtain ⟨N1, g1⟩ : ∃ z, z = zap N (0, (tA k), 8, zn 8) := ⟨_, rfl⟩
      have J1 : Iso a1 M1 N1 := by rw [g1]; exact I1
      have f1_17 : zK N1 17 = 3 := by rw [g1]; exact (kO f17 (by first | omega | (unfold tA tB; omega) | (unfold tA; omega) | (unfold tB; omega)))
      have f1_1 : zK N1 1 = 2 := by rw [g1]; exact (kO f1 (by first | omega | (unfold tA tB; omega) | (unfold tA; omega) | (unfold tB; omega)))
      have f1_0 : zK N1 0 = 12 := by rw [g1]; exact (kO f0 (by first | omega | (unfold tA tB; omega) | (unfold tA; omega) | (unfold tB; omega)))
      have f1_20 : zK N1 20 = 19 := by rw [g1]; exact (kO f20 (by first | omega | (unfold tA tB; omega) | (unfold tA; omega) | (unfold tB; omega)))
      have f1__tA_k_ : zK N1 (tA k) = 9 := by rw [g1]; exact kO0
      have f1__tB_k_ : zK N1 (tB k) = 0 := by rw [g1]; exact (kO fb (by first | omega | (unfold tA tB; omega) | (unfold tA; omega) | (unfold tB; omega)))
      have c1 : zC N1 = zC N + 1 ∧ zS N1 = zS N + 5 := by rw [g1]; exact ⟨rfl, rfl⟩
      refine zr_dup dX2_init_73 rfl ?_
      refine zr_aload_n dX2_init_74 rfl ?_
      refine zr_callI (md' := mX8_init) (As := [.ref (a1 1)]) dX2_init_75 (Or.inl mlX2_35) okX8_init rfl rfl rfl inX8_init rfl (by omega) (Nat.le_of_ble_eq_true rfl) (J1.c0 (by omega)) (v_X8 (d := d - 1) (a := tA k) (b := tB k) (dk := 1) (by omega) J1 (by omega) f1__tA_k_ f1_1 f1__tB_k_) (fun k M1 h => by cases h.1) (fun v M2 hq => ?_)
      obtain ⟨e0, a2, h2, I2⟩ := hq
      cases e0
      show zw G mX2_init d _ _ _ 78 [some (.ref (a1 17)), some (.ref (a1 1)), some (.int (nI k))] [.ref (a1 (tA k)), .int (nI k), .ref (a1 20)] M2
      have q2_17 : a2 17 = a1 17 := h2 17 (by rw [f1_17]; decide)
      rw [← q2_17]
      have z2_17 : a2 17 = ad 17 := q2_17.trans z1_17
      have q2_1 : a2 1 = a1 1 := h2 1 (by rw [f1_1]; decide)
      rw [← q2_1]
      have q2__tA_k_ : a2 (tA k) = a1 (tA k) := h2 (tA k) (by rw [f1__tA_k_]; decide)
      rw [← q2__tA_k_]
      have q2_20 : a2 20 = a1 20 := h2 20 (by rw [f1_20]; decide)
      rw [← q2_20]
      have q2_0 : a2 0 = a1 0 := h2 0 (by rw [f1_0]; decide)
      have z2_0 : a2 0 = ad 0 := q2_0.trans z1_0
      obtain ⟨N2, g2⟩ : ∃ z, z = zrun N1 [(1, (tB k), 15, 9), (3, 257, (tA k), (tB k)), (3, 256, (tA k), 1)] := ⟨_, rfl⟩
      have J2 : Iso a2 M2 N2 := by rw [g2]; exact I2
      have f2_17 : zK N2 17 = 3 := by rw [g2]; exact (kA f1_17 (by first | omega | (unfold tA tB; omega) | (unfold tA; omega) | (unfold tB; omega)))
      have f2_1 : zK N2 1 = 2 := by rw [g2]; exact (kA f1_1 (by first | omega | (unfold tA tB; omega) | (unfold tA; omega) | (unfold tB; omega)))
      have f2_0 : zK N2 0 = 12 := by rw [g2]; exact (kA f1_0 (by first | omega | (unfold tA tB; omega) | (unfold tA; omega) | (unfold tB; omega)))
      have f2_20 : zK N2 20 = 19 := by rw [g2]; exact (kA f1_20 (by first | omega | (unfold tA tB; omega) | (unfold tA; omega) | (unfold tB; omega)))
      have f2__tA_k_ : zK N2 (tA k) = 9 := by rw [g2]; exact (kA f1__tA_k_ (by first | omega | (unfold tA tB; omega) | (unfold tA; omega) | (unfold tB; omega)))
      have f2__tB_k_ : zK N2 (tB k) = 15 := by rw [g2]; exact kA0
      have c2 : zC N2 = zC N1 + 1 ∧ zS N2 = zS N1 + 9 := by rw [g2]; exact ⟨rfl, rfl⟩
      refine zn_aast (i := 20) (j := (tA k)) (n := 256) (y := k) J2 dX2_init_78 (Or.inr ⟨f2_20, f2__tA_k_⟩) (by rw [g2, g1]; show va_up (zN N) (tB k) 9 20 = 256; exact (va_up_ne _ _ (by unfold tB; omega)).trans fn) (by omega) (by decide) (fun M3 I3 => ?_)
      obtain ⟨N3, g3⟩ : ∃ z, z = zap N2 (4, 20, k, (tA k)) := ⟨_, rfl⟩
      have J3 : Iso a2 M3 N3 := by rw [g3]; exact I3
      have f3_17 : zK N3 17 = 3 := by rw [g3]; exact f2_17
      have f3_1 : zK N3 1 = 2 := by rw [g3]; exact f2_1
      have f3_0 : zK N3 0 = 12 := by rw [g3]; exact f2_0
      have f3_20 : zK N3 20 = 19 := by rw [g3]; exact f2_20
      have f3__tA_k_ : zK N3 (tA k) = 9 := by rw [g3]; exact f2__tA_k_
      have f3__tB_k_ : zK N3 (tB k) = 15 := by rw [g3]; exact f2__tB_k_
      have c3 : zC N3 = zC N2 + 0 ∧ zS N3 = zS N2 + 0 := by rw [g3]; exact ⟨rfl, rfl⟩
      refine zr_iincN (n := 1) (lv' := [some (.ref (a2 17)), some (.ref (a2 1)), some (.int (nI (k + 1)))]) dX2_init_79 (Nat.le_of_ble_eq_true rfl) (Nat.le_of_ble_eq_true rfl) rfl rfl rfl ?_
      refine zr_goto 58 dX2_init_82 (by decide) ?_
      rw [g3, g2, g1, gN] at J3
      exact ih (256 - (k + 1)) (by omega) (k + 1) a2 M3 rfl (by omega) J3 (fun ad9 M9 e0 e1 I9 => hq ad9 M9 (e0.trans z2_0) (e1.trans z2_17) I9)
set_option maxRecDepth 100000 in
set_option maxHeartbeats 4000000 in
theorem v_X2 {G : zG} {ad : Nat → Nat} {d : Nat} {M : zM} (hd : 4 ≤ d) (hI : Iso ad M b7f) : zMet G mX2_init d [.ref (ad 17), .ref (ad 1)] M (fun o M' => o = .inl none ∧ ∃ ad', ad' 0 = ad 0 ∧ ad' 17 = ad 17 ∧ Iso ad' M' (tlN b7g 256)) := by
  refine zMet_of (by decide +kernel) (Nat.le_of_ble_eq_true rfl) rfl (hI.c0 (by decide +kernel)) ?_
  show zw G mX2_init d _ _ _ 0 [some (.ref (ad 17)), some (.ref (ad 1)), none] [] M
  refine zr_aload_n dX2_init_0 rfl ?_
  refine zr_objInit dX2_init_1 mlX2_3 (Nat.le_of_ble_eq_true rfl) (by omega) ?_
  refine zr_aload_n dX2_init_4 rfl ?_
  refine zr_sipush (v := nI 512) dX2_init_5 (by decide) ?_
  refine zn_newP (κ := 16) (i := 18) hI dX2_init_8 rfl (Or.inr (Or.inr (Or.inl ⟨rfl, rfl, rfl⟩))) ac_boolean (by decide) (by decide +kernel) (by decide +kernel) (fun a1 M1 h1 I1 => ?_)
  have q1_17 : a1 17 = ad 17 := h1 17 (by decide +kernel)
  rw [← q1_17]
  have z1_17 : a1 17 = ad 17 := q1_17
  have q1_1 : a1 1 = ad 1 := h1 1 (by decide +kernel)
  rw [← q1_1]
  have q1_0 : a1 0 = ad 0 := h1 0 (by decide +kernel)
  have z1_0 : a1 0 = ad 0 := q1_0
  refine zn_putR (i := 17) (j := 18) I1 dX2_init_10 (lkX2_9.elim id (fun h => absurd h (by decide +kernel))) rfl rfl (by decide) (by decide) rfl (by decide +kernel) (by decide +kernel) (fun M2 I2 => ?_)
  refine zr_aload_n dX2_init_13 rfl ?_
  refine zr_sipush (v := nI 512) dX2_init_14 (by decide) ?_
  refine zn_newP (κ := 15) (i := 19) I2 dX2_init_17 rfl (Or.inr (Or.inl ⟨rfl, rfl, rfl⟩)) ac_int (by decide) (by decide +kernel) (by decide +kernel) (fun a3 M3 h3 I3 => ?_)
  have q3_17 : a3 17 = a1 17 := h3 17 (by decide +kernel)
  rw [← q3_17]
  have z3_17 : a3 17 = ad 17 := q3_17.trans z1_17
  have q3_1 : a3 1 = a1 1 := h3 1 (by decide +kernel)
  rw [← q3_1]
  have q3_0 : a3 0 = a1 0 := h3 0 (by decide +kernel)
  have z3_0 : a3 0 = ad 0 := q3_0.trans z1_0
  refine zn_putR (i := 17) (j := 19) I3 dX2_init_19 (lkX2_15.elim id (fun h => absurd h (by decide +kernel))) rfl rfl (by decide) (by decide) rfl (by decide +kernel) (by decide +kernel) (fun M4 I4 => ?_)
  refine zr_aload_n dX2_init_22 rfl ?_
  refine zr_sipush (v := nI 256) dX2_init_23 (by decide) ?_
  refine zn_newQ (κ := 19) (i := 20) I4 dX2_init_26 (Or.inr ⟨rfl, rfl, rfl⟩) (by decide +kernel) ao_19 (by decide) (by decide +kernel) (by decide +kernel) (fun a5 M5 h5 I5 => ?_)
  have q5_17 : a5 17 = a3 17 := h5 17 (by decide +kernel)
  rw [← q5_17]
  have z5_17 : a5 17 = ad 17 := q5_17.trans z3_17
  have q5_1 : a5 1 = a3 1 := h5 1 (by decide +kernel)
  rw [← q5_1]
  have q5_0 : a5 0 = a3 0 := h5 0 (by decide +kernel)
  have z5_0 : a5 0 = ad 0 := q5_0.trans z3_0
  refine zn_putR (i := 17) (j := 20) I5 dX2_init_29 (lkX2_21.elim id (fun h => absurd h (by decide +kernel))) rfl rfl (by decide) (by decide) rfl (by decide +kernel) (by decide +kernel) (fun M6 I6 => ?_)
  refine zr_aload_n dX2_init_32 rfl ?_
  refine zr_sipush (v := nI 256) dX2_init_33 (by decide) ?_
  refine zn_newQ (κ := 19) (i := 21) I6 dX2_init_36 (Or.inr ⟨rfl, rfl, rfl⟩) (by decide +kernel) ao_19 (by decide) (by decide +kernel) (by decide +kernel) (fun a7 M7 h7 I7 => ?_)
  have q7_17 : a7 17 = a5 17 := h7 17 (by decide +kernel)
  rw [← q7_17]
  have z7_17 : a7 17 = ad 17 := q7_17.trans z5_17
  have q7_1 : a7 1 = a5 1 := h7 1 (by decide +kernel)
  rw [← q7_1]
  have q7_0 : a7 0 = a5 0 := h7 0 (by decide +kernel)
  have z7_0 : a7 0 = ad 0 := q7_0.trans z5_0
  refine zn_putR (i := 17) (j := 21) I7 dX2_init_39 (lkX2_25.elim id (fun h => absurd h (by decide +kernel))) rfl rfl (by decide) (by decide) rfl (by decide +kernel) (by decide +kernel) (fun M8 I8 => ?_)
  refine zr_aload_n dX2_init_42 rfl ?_
  refine zr_sipush (v := nI 512) dX2_init_43 (by decide) ?_
  refine zn_putI (i := 17) (v := 512) I8 dX2_init_46 lkX2_28 (by decide) (by decide) rfl rfl (by decide +kernel) (fun M9 I9 => ?_)
  refine zr_aload_n dX2_init_49 rfl ?_
  refine zr_sipush (v := nI 256) dX2_init_50 (by decide) ?_
  refine zn_putI (i := 17) (v := 256) I9 dX2_init_53 lkX2_32 (by decide) (by decide) rfl rfl (by decide +kernel) (fun M10 I10 => ?_)
  refine zr_iconst (v := nI 0) dX2_init_56 (by decide) ?_
  refine zr_istore_n (lv' := [some (.ref (a7 17)), some (.ref (a7 1)), some (.int (nI 0))]) dX2_init_57 (Nat.le_of_ble_eq_true rfl) (Nat.le_of_ble_eq_true rfl) rfl rfl ?_
  have I9 : Iso a7 M10 (tlN b7g 0) := I10
  exact l_X2 hd 256 0 a7 M10 rfl (by decide) I9 (fun ad9 M9 e0 e1 I => ⟨rfl, ad9, e0.trans z7_0, (by first | exact e1 | exact e1.trans z7_17), I⟩)
set_option maxRecDepth 100000 in
set_option maxHeartbeats 4000000 in
theorem v_X11 {G : zG} {ad : Nat → Nat} {d : Nat} {M : zM} (hd : 6 ≤ d) (hI : Iso ad M b0) : zMet G mX11_init d [.ref (ad 0)] M (fun o M' => o = .inl none ∧ ∃ ad', ad' 0 = ad 0 ∧ Iso ad' M' b15) := by
  refine zMet_of (by decide +kernel) (Nat.le_of_ble_eq_true rfl) rfl (hI.c0 (by decide +kernel)) ?_
  show zw G mX11_init d _ _ _ 0 [some (.ref (ad 0)), none] [] M
  refine zr_aload_n dX11_init_0 rfl ?_
  refine zr_objInit dX11_init_1 mlX11_3 (Nat.le_of_ble_eq_true rfl) (by omega) ?_
  refine zr_aload_n dX11_init_4 rfl ?_
  refine zn_new (i := 1) hI dX11_init_5 clX11_9 (by decide) (by decide +kernel) (by decide +kernel) (fun a1 M1 h1 I1 => ?_)
  have q1_0 : a1 0 = ad 0 := h1 0 (by decide +kernel)
  rw [← q1_0]
  have z1_0 : a1 0 = ad 0 := q1_0
  refine zr_dup dX11_init_8 rfl ?_
  refine zr_callI (md' := mX1_init) (As := []) dX11_init_9 (Or.inr mlX11_11) okX1_init rfl rfl rfl inX1_init rfl (by omega) (Nat.le_of_ble_eq_true rfl) (I1.c0 (by decide +kernel)) (v_X1 (d := d - 1) (a := 1) (p7 := 2) (p16 := 3) (by omega) I1 (by decide +kernel) (by decide +kernel) (by decide +kernel) (by decide +kernel) (by decide)) (fun k M1 h => by cases h.1) (fun v M2 hq => ?_)
  obtain ⟨e0, a2, h2, I2⟩ := hq
  cases e0
  show zw G mX11_init d _ _ _ 12 [some (.ref (a1 0)), none] [.ref (a1 1), .ref (a1 0)] M2
  have q2_0 : a2 0 = a1 0 := h2 0 (by decide +kernel)
  rw [← q2_0]
  have z2_0 : a2 0 = ad 0 := q2_0.trans z1_0
  have q2_1 : a2 1 = a1 1 := h2 1 (by decide +kernel)
  rw [← q2_1]
  refine zn_putR (i := 0) (j := 1) I2 dX11_init_12 (lkX11_12.elim id (fun h => absurd h (by decide +kernel))) rfl rfl (by decide) (by decide) rfl (by decide +kernel) (by decide +kernel) (fun M3 I3 => ?_)
  have J4 : Iso a2 M3 b1 := I3
  refine zr_aload_n dX11_init_15 rfl ?_
  refine zn_new (i := 4) J4 dX11_init_16 clX11_16 (by decide) (by decide +kernel) (by decide +kernel) (fun a5 M5 h5 I5 => ?_)
  have q5_0 : a5 0 = a2 0 := h5 0 (by decide +kernel)
  rw [← q5_0]
  have z5_0 : a5 0 = ad 0 := q5_0.trans z2_0
  refine zr_dup dX11_init_19 rfl ?_
  refine zr_bipush (v := nI 32) dX11_init_20 (by decide) ?_
  refine zr_callI (md' := mX6_init) (As := [.int (nI 32)]) dX11_init_22 (Or.inl mlX11_18) okX6_init rfl rfl rfl inX6_init rfl (by omega) (Nat.le_of_ble_eq_true rfl) (I5.c0 (by decide +kernel)) (v_X6 (d := d - 1) (a := 4) (b := 5) (by omega) I5 (by decide +kernel) (by decide +kernel) (by decide +kernel) (by decide)) (fun k M1 h => by cases h.1) (fun v M6 hq => ?_)
  obtain ⟨e0, a6, h6, I6⟩ := hq
  cases e0
  show zw G mX11_init d _ _ _ 25 [some (.ref (a5 0)), none] [.ref (a5 4), .ref (a5 0)] M6
  have q6_0 : a6 0 = a5 0 := h6 0 (by decide +kernel)
  rw [← q6_0]
  have z6_0 : a6 0 = ad 0 := q6_0.trans z5_0
  have q6_4 : a6 4 = a5 4 := h6 4 (by decide +kernel)
  rw [← q6_4]
  refine zn_putR (i := 0) (j := 4) I6 dX11_init_25 (lkX11_21.elim id (fun h => absurd h (by decide +kernel))) rfl rfl (by decide) (by decide) rfl (by decide +kernel) (by decide +kernel) (fun M7 I7 => ?_)
  have J8 : Iso a6 M7 b2 := I7
  refine zr_aload_n dX11_init_28 rfl ?_
  refine zn_new (i := 6) J8 dX11_init_29 clX11_16 (by decide) (by decide +kernel) (by decide +kernel) (fun a9 M9 h9 I9 => ?_)
  have q9_0 : a9 0 = a6 0 := h9 0 (by decide +kernel)
  rw [← q9_0]
  have z9_0 : a9 0 = ad 0 := q9_0.trans z6_0
  refine zr_dup dX11_init_32 rfl ?_
  refine zr_sipush (v := nI 200) dX11_init_33 (by decide) ?_
  refine zr_callI (md' := mX6_init) (As := [.int (nI 200)]) dX11_init_36 (Or.inl mlX11_18) okX6_init rfl rfl rfl inX6_init rfl (by omega) (Nat.le_of_ble_eq_true rfl) (I9.c0 (by decide +kernel)) (v_X6 (d := d - 1) (a := 6) (b := 7) (by omega) I9 (by decide +kernel) (by decide +kernel) (by decide +kernel) (by decide)) (fun k M1 h => by cases h.1) (fun v M10 hq => ?_)
  obtain ⟨e0, a10, h10, I10⟩ := hq
  cases e0
  show zw G mX11_init d _ _ _ 39 [some (.ref (a9 0)), none] [.ref (a9 6), .ref (a9 0)] M10
  have q10_0 : a10 0 = a9 0 := h10 0 (by decide +kernel)
  rw [← q10_0]
  have z10_0 : a10 0 = ad 0 := q10_0.trans z9_0
  have q10_6 : a10 6 = a9 6 := h10 6 (by decide +kernel)
  rw [← q10_6]
  refine zn_putR (i := 0) (j := 6) I10 dX11_init_39 (lkX11_25.elim id (fun h => absurd h (by decide +kernel))) rfl rfl (by decide) (by decide) rfl (by decide +kernel) (by decide +kernel) (fun M11 I11 => ?_)
  have J12 : Iso a10 M11 b3 := I11
  refine zr_aload_n dX11_init_42 rfl ?_
  refine zn_new (i := 8) J12 dX11_init_43 clX11_16 (by decide) (by decide +kernel) (by decide +kernel) (fun a13 M13 h13 I13 => ?_)
  have q13_0 : a13 0 = a10 0 := h13 0 (by decide +kernel)
  rw [← q13_0]
  have z13_0 : a13 0 = ad 0 := q13_0.trans z10_0
  refine zr_dup dX11_init_46 rfl ?_
  refine zr_bipush (v := nI 32) dX11_init_47 (by decide) ?_
  refine zr_callI (md' := mX6_init) (As := [.int (nI 32)]) dX11_init_49 (Or.inl mlX11_18) okX6_init rfl rfl rfl inX6_init rfl (by omega) (Nat.le_of_ble_eq_true rfl) (I13.c0 (by decide +kernel)) (v_X6 (d := d - 1) (a := 8) (b := 9) (by omega) I13 (by decide +kernel) (by decide +kernel) (by decide +kernel) (by decide)) (fun k M1 h => by cases h.1) (fun v M14 hq => ?_)
  obtain ⟨e0, a14, h14, I14⟩ := hq
  cases e0
  show zw G mX11_init d _ _ _ 52 [some (.ref (a13 0)), none] [.ref (a13 8), .ref (a13 0)] M14
  have q14_0 : a14 0 = a13 0 := h14 0 (by decide +kernel)
  rw [← q14_0]
  have z14_0 : a14 0 = ad 0 := q14_0.trans z13_0
  have q14_8 : a14 8 = a13 8 := h14 8 (by decide +kernel)
  rw [← q14_8]
  refine zn_putR (i := 0) (j := 8) I14 dX11_init_52 (lkX11_28.elim id (fun h => absurd h (by decide +kernel))) rfl rfl (by decide) (by decide) rfl (by decide +kernel) (by decide +kernel) (fun M15 I15 => ?_)
  have J16 : Iso a14 M15 b4 := I15
  refine zr_aload_n dX11_init_55 rfl ?_
  refine zn_new (i := 10) J16 dX11_init_56 clX11_31 (by decide) (by decide +kernel) (by decide +kernel) (fun a17 M17 h17 I17 => ?_)
  have q17_0 : a17 0 = a14 0 := h17 0 (by decide +kernel)
  rw [← q17_0]
  have z17_0 : a17 0 = ad 0 := q17_0.trans z14_0
  refine zr_dup dX11_init_59 rfl ?_
  refine zr_callI (md' := mX0_init) (As := []) dX11_init_60 (Or.inr mlX11_33) okX0_init rfl rfl rfl inX0_init rfl (by omega) (Nat.le_of_ble_eq_true rfl) (I17.c0 (by decide +kernel)) (v_X0 (d := d - 1) (a := 10) (p8 := 11) (p16 := 12) (by omega) I17 (by decide +kernel) (by decide +kernel) (by decide +kernel) (by decide +kernel) (by decide)) (fun k M1 h => by cases h.1) (fun v M18 hq => ?_)
  obtain ⟨e0, a18, h18, I18⟩ := hq
  cases e0
  show zw G mX11_init d _ _ _ 63 [some (.ref (a17 0)), none] [.ref (a17 10), .ref (a17 0)] M18
  have q18_0 : a18 0 = a17 0 := h18 0 (by decide +kernel)
  rw [← q18_0]
  have z18_0 : a18 0 = ad 0 := q18_0.trans z17_0
  have q18_10 : a18 10 = a17 10 := h18 10 (by decide +kernel)
  rw [← q18_10]
  refine zn_putR (i := 0) (j := 10) I18 dX11_init_63 (lkX11_34.elim id (fun h => absurd h (by decide +kernel))) rfl rfl (by decide) (by decide) rfl (by decide +kernel) (by decide +kernel) (fun M19 I19 => ?_)
  have J20 : Iso a18 M19 b5 := I19
  refine zr_aload_n dX11_init_66 rfl ?_
  refine zn_new (i := 13) J20 dX11_init_67 clX11_38 (by decide) (by decide +kernel) (by decide +kernel) (fun a21 M21 h21 I21 => ?_)
  have q21_0 : a21 0 = a18 0 := h21 0 (by decide +kernel)
  rw [← q21_0]
  have z21_0 : a21 0 = ad 0 := q21_0.trans z18_0
  refine zr_dup dX11_init_70 rfl ?_
  refine zr_callI (md' := mX9_init) (As := []) dX11_init_71 (Or.inr mlX11_40) okX9_init rfl rfl rfl inX9_init rfl (by omega) (Nat.le_of_ble_eq_true rfl) (I21.c0 (by decide +kernel)) (v_X9 (d := d - 1) (a := 13) (b := 14) (by omega) I21 (by decide +kernel) (by decide +kernel) (by decide +kernel)) (fun k M1 h => by cases h.1) (fun v M22 hq => ?_)
  obtain ⟨e0, a22, h22, I22⟩ := hq
  cases e0
  show zw G mX11_init d _ _ _ 74 [some (.ref (a21 0)), none] [.ref (a21 13), .ref (a21 0)] M22
  have q22_0 : a22 0 = a21 0 := h22 0 (by decide +kernel)
  rw [← q22_0]
  have z22_0 : a22 0 = ad 0 := q22_0.trans z21_0
  have q22_13 : a22 13 = a21 13 := h22 13 (by decide +kernel)
  rw [← q22_13]
  refine zn_putR (i := 0) (j := 13) I22 dX11_init_74 (lkX11_41.elim id (fun h => absurd h (by decide +kernel))) rfl rfl (by decide) (by decide) rfl (by decide +kernel) (by decide +kernel) (fun M23 I23 => ?_)
  have J24 : Iso a22 M23 b6 := I23
  refine zr_aload_n dX11_init_77 rfl ?_
  refine zn_new (i := 15) J24 dX11_init_78 clX11_45 (by decide) (by decide +kernel) (by decide +kernel) (fun a25 M25 h25 I25 => ?_)
  have q25_0 : a25 0 = a22 0 := h25 0 (by decide +kernel)
  rw [← q25_0]
  have z25_0 : a25 0 = ad 0 := q25_0.trans z22_0
  refine zr_dup dX11_init_81 rfl ?_
  refine zr_aload_n dX11_init_82 rfl ?_
  refine zn_getR (i := 0) (j := 1) I25 dX11_init_83 lkX11_12 (by decide) (by decide) rfl (by decide +kernel) (by decide +kernel) ?_
  refine zr_callI (md' := mX5_init) (As := [.ref (a25 1)]) dX11_init_86 (Or.inl mlX11_47) okX5_init rfl rfl rfl inX5_init rfl (by omega) (Nat.le_of_ble_eq_true rfl) (I25.c0 (by decide +kernel)) (v_X5 (d := d - 1) (a := 15) (dk := 1) (p8 := 16) (by omega) I25 (by decide +kernel) (by decide +kernel) (by decide +kernel) (by decide +kernel)) (fun k M1 h => by cases h.1) (fun v M26 hq => ?_)
  obtain ⟨e0, a26, h26, I26⟩ := hq
  cases e0
  show zw G mX11_init d _ _ _ 89 [some (.ref (a25 0)), none] [.ref (a25 15), .ref (a25 0)] M26
  have q26_0 : a26 0 = a25 0 := h26 0 (by decide +kernel)
  rw [← q26_0]
  have z26_0 : a26 0 = ad 0 := q26_0.trans z25_0
  have q26_15 : a26 15 = a25 15 := h26 15 (by decide +kernel)
  rw [← q26_15]
  refine zn_putR (i := 0) (j := 15) I26 dX11_init_89 (lkX11_50.elim id (fun h => absurd h (by decide +kernel))) rfl rfl (by decide) (by decide) rfl (by decide +kernel) (by decide +kernel) (fun M27 I27 => ?_)
  have J28 : Iso a26 M27 b7 := I27
  refine zr_aload_n dX11_init_92 rfl ?_
  refine zn_new (i := 17) J28 dX11_init_93 clX11_54 (by decide) (by decide +kernel) (by decide +kernel) (fun a29 M29 h29 I29 => ?_)
  have q29_0 : a29 0 = a26 0 := h29 0 (by decide +kernel)
  rw [← q29_0]
  have z29_0 : a29 0 = ad 0 := q29_0.trans z26_0
  refine zr_dup dX11_init_96 rfl ?_
  refine zr_aload_n dX11_init_97 rfl ?_
  refine zn_getR (i := 0) (j := 1) I29 dX11_init_98 lkX11_12 (by decide) (by decide) rfl (by decide +kernel) (by decide +kernel) ?_
  refine zr_callI (md' := mX2_init) (As := [.ref (a29 1)]) dX11_init_101 (Or.inl mlX11_56) okX2_init rfl rfl rfl inX2_init rfl (by omega) (Nat.le_of_ble_eq_true rfl) (I29.c0 (by decide +kernel)) (v_X2 (d := d - 1) (by omega) (show Iso a29 M29 b7f from I29)) (fun k M1 h => by cases h.1) (fun v M30 hq => ?_)
  obtain ⟨e0, a30, u30_0, u30_1, I30⟩ := hq
  cases e0
  show zw G mX11_init d _ _ _ 104 [some (.ref (a29 0)), none] [.ref (a29 17), .ref (a29 0)] M30
  have q30_0 : a30 0 = a29 0 := u30_0
  rw [← q30_0]
  have z30_0 : a30 0 = ad 0 := q30_0.trans z29_0
  have q30_17 : a30 17 = a29 17 := u30_1
  rw [← q30_17]
  refine zn_putR (i := 0) (j := 17) I30 dX11_init_104 (lkX11_57.elim id (fun h => absurd h (by decide +kernel))) rfl rfl (by decide) (by decide) rfl (by decide +kernel) (by decide +kernel) (fun M31 I31 => ?_)
  have J32 : Iso a30 M31 b8 := I31
  refine zr_aload_n dX11_init_107 rfl ?_
  refine zr_iconst (v := nI 3) dX11_init_108 (by decide) ?_
  refine zn_newQ (κ := 18) (i := 22) J32 dX11_init_109 (Or.inl ⟨rfl, rfl, rfl⟩) (by decide +kernel) ao_18 (by decide) (by decide +kernel) (by decide +kernel) (fun a33 M33 h33 I33 => ?_)
  have q33_0 : a33 0 = a30 0 := h33 0 (by decide +kernel)
  rw [← q33_0]
  have z33_0 : a33 0 = ad 0 := q33_0.trans z30_0
  refine zn_putR (i := 0) (j := 22) I33 dX11_init_112 (lkX11_63.elim id (fun h => absurd h (by decide +kernel))) rfl rfl (by decide) (by decide) rfl (by decide +kernel) (by decide +kernel) (fun M34 I34 => ?_)
  have J35 : Iso a33 M34 b9 := I34
  refine zr_aload_n dX11_init_115 rfl ?_
  refine zn_new (i := 23) J35 dX11_init_116 clX11_67 (by decide) (by decide +kernel) (by decide +kernel) (fun a36 M36 h36 I36 => ?_)
  have q36_0 : a36 0 = a33 0 := h36 0 (by decide +kernel)
  rw [← q36_0]
  have z36_0 : a36 0 = ad 0 := q36_0.trans z33_0
  refine zr_dup dX11_init_119 rfl ?_
  refine zr_aload_n dX11_init_120 rfl ?_
  refine zn_getR (i := 0) (j := 1) I36 dX11_init_121 lkX11_12 (by decide) (by decide) rfl (by decide +kernel) (by decide +kernel) ?_
  refine zr_callI (md' := mX7_init) (As := [.ref (a36 1)]) dX11_init_124 (Or.inl mlX11_69) okX7_init rfl rfl rfl inX7_init rfl (by omega) (Nat.le_of_ble_eq_true rfl) (I36.c0 (by decide +kernel)) (v_X7 (d := d - 1) (a := 23) (dk := 1) (p8 := 24) (p17 := 25) (by omega) I36 (by decide +kernel) (by decide +kernel) (by decide +kernel) (by decide +kernel) (by decide +kernel) (by decide)) (fun k M1 h => by cases h.1) (fun v M37 hq => ?_)
  obtain ⟨e0, a37, h37, I37⟩ := hq
  cases e0
  show zw G mX11_init d _ _ _ 127 [some (.ref (a36 0)), none] [.ref (a36 23), .ref (a36 0)] M37
  have q37_0 : a37 0 = a36 0 := h37 0 (by decide +kernel)
  rw [← q37_0]
  have z37_0 : a37 0 = ad 0 := q37_0.trans z36_0
  have q37_23 : a37 23 = a36 23 := h37 23 (by decide +kernel)
  rw [← q37_23]
  refine zn_putR (i := 0) (j := 23) I37 dX11_init_127 (lkX11_70.elim id (fun h => absurd h (by decide +kernel))) rfl rfl (by decide) (by decide) rfl (by decide +kernel) (by decide +kernel) (fun M38 I38 => ?_)
  have J39 : Iso a37 M38 b10 := I38
  refine zr_aload_n dX11_init_130 rfl ?_
  refine zn_new (i := 26) J39 dX11_init_131 clX11_74 (by decide) (by decide +kernel) (by decide +kernel) (fun a40 M40 h40 I40 => ?_)
  have q40_0 : a40 0 = a37 0 := h40 0 (by decide +kernel)
  rw [← q40_0]
  have z40_0 : a40 0 = ad 0 := q40_0.trans z37_0
  refine zr_dup dX11_init_134 rfl ?_
  refine zr_aload_n dX11_init_135 rfl ?_
  refine zn_getR (i := 0) (j := 1) I40 dX11_init_136 lkX11_12 (by decide) (by decide) rfl (by decide +kernel) (by decide +kernel) ?_
  refine zr_aload_n dX11_init_139 rfl ?_
  refine zn_getR (i := 0) (j := 17) I40 dX11_init_140 lkX11_57 (by decide) (by decide) rfl (by decide +kernel) (by decide +kernel) ?_
  refine zr_callI (md' := mX10_init) (As := [.ref (a40 1), .ref (a40 17)]) dX11_init_143 (Or.inl mlX11_76) okX10_init rfl rfl rfl inX10_init rfl (by omega) (Nat.le_of_ble_eq_true rfl) (I40.c0 (by decide +kernel)) (v_X10 (d := d - 1) (a := 26) (dk := 1) (fl := 17) (p8 := 27) (p17 := 28) (p26 := 29) (by omega) I40 (by decide +kernel) (by decide +kernel) (by decide +kernel) (by decide +kernel) (by decide +kernel) (by decide +kernel) (by decide +kernel) (by decide) (by decide) (by decide)) (fun k M1 h => by cases h.1) (fun v M41 hq => ?_)
  obtain ⟨e0, a41, h41, I41⟩ := hq
  cases e0
  show zw G mX11_init d _ _ _ 146 [some (.ref (a40 0)), none] [.ref (a40 26), .ref (a40 0)] M41
  have q41_0 : a41 0 = a40 0 := h41 0 (by decide +kernel)
  rw [← q41_0]
  have z41_0 : a41 0 = ad 0 := q41_0.trans z40_0
  have q41_26 : a41 26 = a40 26 := h41 26 (by decide +kernel)
  rw [← q41_26]
  refine zn_putR (i := 0) (j := 26) I41 dX11_init_146 (lkX11_79.elim id (fun h => absurd h (by decide +kernel))) rfl rfl (by decide) (by decide) rfl (by decide +kernel) (by decide +kernel) (fun M42 I42 => ?_)
  have J43 : Iso a41 M42 b11 := I42
  refine zr_aload_n dX11_init_149 rfl ?_
  refine zn_new (i := 30) J43 dX11_init_150 clX11_83 (by decide) (by decide +kernel) (by decide +kernel) (fun a44 M44 h44 I44 => ?_)
  have q44_0 : a44 0 = a41 0 := h44 0 (by decide +kernel)
  rw [← q44_0]
  have z44_0 : a44 0 = ad 0 := q44_0.trans z41_0
  refine zr_dup dX11_init_153 rfl ?_
  refine zr_aload_n dX11_init_154 rfl ?_
  refine zn_getR (i := 0) (j := 1) I44 dX11_init_155 lkX11_12 (by decide) (by decide) rfl (by decide +kernel) (by decide +kernel) ?_
  refine zr_callI (md' := mX3_init) (As := [.ref (a44 1)]) dX11_init_158 (Or.inl mlX11_85) okX3_init rfl rfl rfl inX3_init rfl (by omega) (Nat.le_of_ble_eq_true rfl) (I44.c0 (by decide +kernel)) (v_X3 (d := d - 1) (a := 30) (dk := 1) (p8 := 31) (by omega) I44 (by decide +kernel) (by decide +kernel) (by decide +kernel) (by decide +kernel)) (fun k M1 h => by cases h.1) (fun v M45 hq => ?_)
  obtain ⟨e0, a45, h45, I45⟩ := hq
  cases e0
  show zw G mX11_init d _ _ _ 161 [some (.ref (a44 0)), none] [.ref (a44 30), .ref (a44 0)] M45
  have q45_0 : a45 0 = a44 0 := h45 0 (by decide +kernel)
  rw [← q45_0]
  have z45_0 : a45 0 = ad 0 := q45_0.trans z44_0
  have q45_30 : a45 30 = a44 30 := h45 30 (by decide +kernel)
  rw [← q45_30]
  refine zn_putR (i := 0) (j := 30) I45 dX11_init_161 (lkX11_86.elim id (fun h => absurd h (by decide +kernel))) rfl rfl (by decide) (by decide) rfl (by decide +kernel) (by decide +kernel) (fun M46 I46 => ?_)
  have J47 : Iso a45 M46 b12 := I46
  refine zr_iconst (v := nI 0) dX11_init_164 (by decide) ?_
  refine zr_istore_n (lv' := [some (.ref (a45 0)), some (.int (nI 0))]) dX11_init_165 (Nat.le_of_ble_eq_true rfl) (Nat.le_of_ble_eq_true rfl) rfl rfl ?_
  refine zr_iload_n dX11_init_166 rfl ?_
  refine zr_iconst (v := nI 3) dX11_init_167 (by decide) ?_
  refine zr_icmp_geN 194 dX11_init_168 (by decide) (by decide) (by decide) (fun h168 => absurd h168 (by decide)) (fun h168 => ?_)
  refine zr_aload_n dX11_init_171 rfl ?_
  refine zn_getR (i := 0) (j := 22) J47 dX11_init_172 lkX11_63 (by decide) (by decide) rfl (by decide +kernel) (by decide +kernel) ?_
  refine zr_iload_n dX11_init_175 rfl ?_
  refine zn_new (i := 32) J47 dX11_init_176 clX11_61 (by decide) (by decide +kernel) (by decide +kernel) (fun a49 M49 h49 I49 => ?_)
  have q49_0 : a49 0 = a45 0 := h49 0 (by decide +kernel)
  rw [← q49_0]
  have z49_0 : a49 0 = ad 0 := q49_0.trans z45_0
  have q49_22 : a49 22 = a45 22 := h49 22 (by decide +kernel)
  rw [← q49_22]
  refine zr_dup dX11_init_179 rfl ?_
  refine zr_aload_n dX11_init_180 rfl ?_
  refine zn_getR (i := 0) (j := 1) I49 dX11_init_181 lkX11_12 (by decide) (by decide) rfl (by decide +kernel) (by decide +kernel) ?_
  refine zr_callI (md' := mX4_init) (As := [.ref (a49 1)]) dX11_init_184 (Or.inl mlX11_90) okX4_init rfl rfl rfl inX4_init rfl (by omega) (Nat.le_of_ble_eq_true rfl) (I49.c0 (by decide +kernel)) (v_X4 (d := d - 1) (a := 32) (dk := 1) (p := 35) (t := 576) (b := 577) (x := 0) (y := 22) (by omega) I49 (by decide +kernel) (by decide +kernel) (by decide +kernel) (by decide +kernel) (by decide +kernel) (by decide +kernel) (by decide +kernel) (by decide +kernel) (by decide) (by decide) (by decide)) (fun k M1 h => by cases h.1) (fun v M50 hq => ?_)
  obtain ⟨e0, a50, u50_0, u50_1, u50_2, I50⟩ := hq
  cases e0
  show zw G mX11_init d _ _ _ 187 [some (.ref (a49 0)), some (.int (nI 0))] [.ref (a49 32), .int (nI 0), .ref (a49 22)] M50
  have q50_0 : a50 0 = a49 0 := u50_0
  rw [← q50_0]
  have z50_0 : a50 0 = ad 0 := q50_0.trans z49_0
  have q50_32 : a50 32 = a49 32 := u50_2
  rw [← q50_32]
  have q50_22 : a50 22 = a49 22 := u50_1
  rw [← q50_22]
  refine zn_aast (i := 22) (j := 32) (n := 3) (y := 0) I50 dX11_init_187 (Or.inl ⟨(by decide +kernel), (by decide +kernel)⟩) (by decide +kernel) (by decide) (by decide) (fun M51 I51 => ?_)
  have J52 : Iso a50 M51 b13 := I51
  refine zr_iincN (n := 1) (lv' := [some (.ref (a50 0)), some (.int (nI 1))]) dX11_init_188 (Nat.le_of_ble_eq_true rfl) (Nat.le_of_ble_eq_true rfl) rfl rfl rfl ?_
  refine zr_goto 166 dX11_init_191 (by decide) ?_
  refine zr_iload_n dX11_init_166 rfl ?_
  refine zr_iconst (v := nI 3) dX11_init_167 (by decide) ?_
  refine zr_icmp_geN 194 dX11_init_168 (by decide) (by decide) (by decide) (fun h168 => absurd h168 (by decide)) (fun h168 => ?_)
  refine zr_aload_n dX11_init_171 rfl ?_
  refine zn_getR (i := 0) (j := 22) J52 dX11_init_172 lkX11_63 (by decide) (by decide) rfl (by decide +kernel) (by decide +kernel) ?_
  refine zr_iload_n dX11_init_175 rfl ?_
  refine zn_new (i := 33) J52 dX11_init_176 clX11_61 (by decide) (by decide +kernel) (by decide +kernel) (fun a54 M54 h54 I54 => ?_)
  have q54_0 : a54 0 = a50 0 := h54 0 (by decide +kernel)
  rw [← q54_0]
  have z54_0 : a54 0 = ad 0 := q54_0.trans z50_0
  have q54_22 : a54 22 = a50 22 := h54 22 (by decide +kernel)
  rw [← q54_22]
  refine zr_dup dX11_init_179 rfl ?_
  refine zr_aload_n dX11_init_180 rfl ?_
  refine zn_getR (i := 0) (j := 1) I54 dX11_init_181 lkX11_12 (by decide) (by decide) rfl (by decide +kernel) (by decide +kernel) ?_
  refine zr_callI (md' := mX4_init) (As := [.ref (a54 1)]) dX11_init_184 (Or.inl mlX11_90) okX4_init rfl rfl rfl inX4_init rfl (by omega) (Nat.le_of_ble_eq_true rfl) (I54.c0 (by decide +kernel)) (v_X4 (d := d - 1) (a := 33) (dk := 1) (p := 36) (t := 578) (b := 579) (x := 0) (y := 22) (by omega) I54 (by decide +kernel) (by decide +kernel) (by decide +kernel) (by decide +kernel) (by decide +kernel) (by decide +kernel) (by decide +kernel) (by decide +kernel) (by decide) (by decide) (by decide)) (fun k M1 h => by cases h.1) (fun v M55 hq => ?_)
  obtain ⟨e0, a55, u55_0, u55_1, u55_2, I55⟩ := hq
  cases e0
  show zw G mX11_init d _ _ _ 187 [some (.ref (a54 0)), some (.int (nI 1))] [.ref (a54 33), .int (nI 1), .ref (a54 22)] M55
  have q55_0 : a55 0 = a54 0 := u55_0
  rw [← q55_0]
  have z55_0 : a55 0 = ad 0 := q55_0.trans z54_0
  have q55_33 : a55 33 = a54 33 := u55_2
  rw [← q55_33]
  have q55_22 : a55 22 = a54 22 := u55_1
  rw [← q55_22]
  refine zn_aast (i := 22) (j := 33) (n := 3) (y := 1) I55 dX11_init_187 (Or.inl ⟨(by decide +kernel), (by decide +kernel)⟩) (by decide +kernel) (by decide) (by decide) (fun M56 I56 => ?_)
  have J57 : Iso a55 M56 b14 := I56
  refine zr_iincN (n := 1) (lv' := [some (.ref (a55 0)), some (.int (nI 2))]) dX11_init_188 (Nat.le_of_ble_eq_true rfl) (Nat.le_of_ble_eq_true rfl) rfl rfl rfl ?_
  refine zr_goto 166 dX11_init_191 (by decide) ?_
  refine zr_iload_n dX11_init_166 rfl ?_
  refine zr_iconst (v := nI 3) dX11_init_167 (by decide) ?_
  refine zr_icmp_geN 194 dX11_init_168 (by decide) (by decide) (by decide) (fun h168 => absurd h168 (by decide)) (fun h168 => ?_)
  refine zr_aload_n dX11_init_171 rfl ?_
  refine zn_getR (i := 0) (j := 22) J57 dX11_init_172 lkX11_63 (by decide) (by decide) rfl (by decide +kernel) (by decide +kernel) ?_
  refine zr_iload_n dX11_init_175 rfl ?_
  refine zn_new (i := 34) J57 dX11_init_176 clX11_61 (by decide) (by decide +kernel) (by decide +kernel) (fun a59 M59 h59 I59 => ?_)
  have q59_0 : a59 0 = a55 0 := h59 0 (by decide +kernel)
  rw [← q59_0]
  have z59_0 : a59 0 = ad 0 := q59_0.trans z55_0
  have q59_22 : a59 22 = a55 22 := h59 22 (by decide +kernel)
  rw [← q59_22]
  refine zr_dup dX11_init_179 rfl ?_
  refine zr_aload_n dX11_init_180 rfl ?_
  refine zn_getR (i := 0) (j := 1) I59 dX11_init_181 lkX11_12 (by decide) (by decide) rfl (by decide +kernel) (by decide +kernel) ?_
  refine zr_callI (md' := mX4_init) (As := [.ref (a59 1)]) dX11_init_184 (Or.inl mlX11_90) okX4_init rfl rfl rfl inX4_init rfl (by omega) (Nat.le_of_ble_eq_true rfl) (I59.c0 (by decide +kernel)) (v_X4 (d := d - 1) (a := 34) (dk := 1) (p := 37) (t := 580) (b := 581) (x := 0) (y := 22) (by omega) I59 (by decide +kernel) (by decide +kernel) (by decide +kernel) (by decide +kernel) (by decide +kernel) (by decide +kernel) (by decide +kernel) (by decide +kernel) (by decide) (by decide) (by decide)) (fun k M1 h => by cases h.1) (fun v M60 hq => ?_)
  obtain ⟨e0, a60, u60_0, u60_1, u60_2, I60⟩ := hq
  cases e0
  show zw G mX11_init d _ _ _ 187 [some (.ref (a59 0)), some (.int (nI 2))] [.ref (a59 34), .int (nI 2), .ref (a59 22)] M60
  have q60_0 : a60 0 = a59 0 := u60_0
  rw [← q60_0]
  have z60_0 : a60 0 = ad 0 := q60_0.trans z59_0
  have q60_34 : a60 34 = a59 34 := u60_2
  rw [← q60_34]
  have q60_22 : a60 22 = a59 22 := u60_1
  rw [← q60_22]
  refine zn_aast (i := 22) (j := 34) (n := 3) (y := 2) I60 dX11_init_187 (Or.inl ⟨(by decide +kernel), (by decide +kernel)⟩) (by decide +kernel) (by decide) (by decide) (fun M61 I61 => ?_)
  have J62 : Iso a60 M61 b15 := I61
  refine zr_iincN (n := 1) (lv' := [some (.ref (a60 0)), some (.int (nI 3))]) dX11_init_188 (Nat.le_of_ble_eq_true rfl) (Nat.le_of_ble_eq_true rfl) rfl rfl rfl ?_
  refine zr_goto 166 dX11_init_191 (by decide) ?_
  refine zr_iload_n dX11_init_166 rfl ?_
  refine zr_iconst (v := nI 3) dX11_init_167 (by decide) ?_
  refine zr_icmp_geN 194 dX11_init_168 (by decide) (by decide) (by decide) (fun h168 => ?_) (fun h168 => absurd h168 (by decide))
  refine zr_vret dX11_init_194 rfl ?_
  first | exact ⟨rfl, _, z60_0, J62⟩ | exact ⟨rfl, _, rfl, J62⟩
