/-! ===== LsmStore.weigh ===== -/
/-- the kind of an entry that may not be there -/
def kdO (D : Nat → Int32) (y : Option Nat) : Nat := match y with
  | none => 0
  | some p => zb (D p)
theorem kdO_lt (D : Nat → Int32) (y : Option Nat) : kdO D y < 256 := by
  cases y with
  | none => show 0 < 256; decide
  | some p => exact zb_lt _
theorem c_Disk_kindO {G : zG} {d a b : Nat} {y : Option Nat} {M : zM} (hcb : zC M ≤ 600128 ∧ zS M ≤ 7301098) (hv : zDk M a b) (hy : ∀ p, y = some p → p < 303104) : zMet G mX1_kind d [.ref a, .int (zvi y)] M (fun o M' => o = .inl (some (.int (nI (kdO (zA M b) y)))) ∧ M' = M) := by
  cases y with
  | none => exact c_Disk_kindM hcb hv
  | some p => exact c_Disk_kind hcb hv (hy p rfl)
theorem Bt.fl {ad : Nat → Nat} {c : Nat} {LF LA LB : List Nat} {M M1 : zM} {offs : List Nat} {len : Nat} (h : Bt ad M offs len) (hF : Fl ad c LF LA LB M M1) (h1 : 2 ∉ LF ∧ 3 ∉ LF := by decide) (h2 : 11 ∉ LA ∧ 12 ∉ LA := by decide) : Bt ad M1 offs len := by
  obtain ⟨a1, a2, a3, a4, a5, a6⟩ := h
  have e11 : zA M1 (ad 11) = zA M (ad 11) := hF.rA (i := 11) h2.1 (by decide)
  exact ⟨(hF.rI h1.1 (by decide)).trans a1, a2, (hF.rI h1.2 (by decide)).trans a3, fun i q hi => (congrFun (hF.rA (i := 12) h2.2 (by decide)) i).trans (a4 i q hi), by rw [e11]; exact a5, by rw [e11]; exact a6⟩
/-- frame: the probe and the two sums change -/
def Fw (ad : Nat → Nat) (M M' : zM) : Prop := Fr ad 0 (fun f i => (f = 193 ∧ i = 8) ∨ f = 367 ∨ f = 368) (fun i => i = 9) (fun _ => False) M M'
theorem Fw.fl {ad : Nat → Nat} {M M1 : zM} (h : Fw ad M M1) : Fl ad 0 [193, 367, 368] [9] [] M M1 := Fr.mono h (fun f i z => by rcases z with ⟨z, -⟩ | z | z <;> subst z <;> decide) (fun i z => by subst z; decide) (fun i z => z.elim)
theorem Fw.trans {ad : Nat → Nat} {M M1 M2 : zM} (h : Fw ad M M1) (g : Fw ad M1 M2) : Fw ad M M2 := Fr.trans (c1 := 0) (c2 := 0) h g
theorem Fp.fw {ad : Nat → Nat} {M M1 : zM} (h : Fp ad M M1) : Fw ad M M1 := Fr.mono h.1 (fun f i z => Or.inl z) (fun i z => z) (fun i z => z)
theorem Fw.put {ad : Nat → Nat} {M M1 : zM} (h : Fw ad M M1) (hL : Lay ad M) {f : Nat} {v : Int32} (hf : f = 367 ∨ f = 368) : Fw ad M (zput M1 f (ad 0) v) := Fr.put h hL v (Or.inr hf) (by decide)
theorem Fw.refl (ad : Nat → Nat) (M : zM) : Fw ad M M := Fr.refl _ _ _ _ _
/-- what the entries of a store say of a key -/
theorem hit_map {D : Nat → Int32} {U : List Nat} {m : Mp} {k : List Nat} {y : Option Nat} (hu : Ud D U) (hv : ∀ k v, vw (U.map (ent D)) 2147483647 k v ↔ (k, v) ∈ m) (h : Hit D U k 2147483647 y) : (∀ s, y = some s → zb (D s) = 1 → (k, eva D s) ∈ m) ∧ (kdO D y ≠ 1 → ∀ v, (k, v) ∉ m) := by
  constructor
  · intro s hs h1
    obtain ⟨a1, a2, a3, a4⟩ := h.1 s hs
    refine (hv k _).mp ⟨ent D s, List.mem_map_of_mem a1, a2, a3, h1, rfl, fun f hf hk hw => ?_⟩
    obtain ⟨q, hq, rfl⟩ := List.mem_map.mp hf
    exact a4 q hq hk hw
  · intro hn v hx
    obtain ⟨e, h1, h2, h3, h4, h5, h6⟩ := (hv k v).mpr hx
    obtain ⟨q, hq, rfl⟩ := List.mem_map.mp h1
    cases y with
    | none =>
      have h7 := h.2 rfl q hq h2
      have h8 : ecm D q ≤ 2147483647 := h3
      omega
    | some s =>
      obtain ⟨a1, a2, a3, a4⟩ := h.1 s rfl
      have b1 := a4 q hq h2 h3
      have b2 := h6 (ent D s) (List.mem_map_of_mem a1) a2 a3
      have e : s = q := hu.2 s a1 q hq (a2.trans (Eq.symm h2)) (Nat.le_antisymm b2 b1)
      subst e
      exact hn h4
theorem MSets.app1 {m m1 m2 : Mp} {ss : List Sp} {s : Sp} (h : MSets m ss m1) (g : MSet m1 s.2.1 (spo s) m2) : MSets m (ss ++ [s]) m2 := h.snoc g
set_option maxRecDepth 100000 in
set_option maxHeartbeats 4000000 in
theorem t_weigh102 {G : zG} {ad : Nat → Nat} {d k0 n0 i q0 a9 b9 : Nat} {M3 : zM} {Q : zOut → zM → Prop} {offs : List Nat} {len : Nat} {od : Int32} (hcb3 : zC M3 ≤ 600128 ∧ zS M3 ≤ 7301098) (hd : 1 ≤ d) (hL3 : Lay ad M3) (hB3 : Bt ad M3 offs len) (hi3 : offs[i]? = some q0) (ha : zI M3 367 (ad 0) = nI a9) (hb : zI M3 368 (ad 0) = nI b9) (hk : ∀ M4 : zM, Fw ad M3 M4 → zI M4 193 (ad 8) = zI M3 193 (ad 8) → zI M4 367 (ad 0) = nI (a9 + (if zb (zA M3 (ad 11) q0) = 1 then eln (zA M3 (ad 11)) q0 else 0)) → zI M4 368 (ad 0) = nI (b9 + (if zb (zA M3 (ad 11) q0) = 1 then 1 else 0)) → zw G mX11_weigh d k0 n0 Q 18 [some (.ref ((ad 0))), some (.int (nI (i + 1))), none] [] M4) : zw G mX11_weigh d k0 n0 Q 102 [some (.ref ((ad 0))), some (.int (nI i)), some (.int od)] [] M3 := by
  refine zr_aload_n dX11_weigh_102 rfl ?_
  refine zr_getR dX11_weigh_103 lkX11_34 (by decide) (by decide) rfl (hL3.K 0 12) (hL3.R 356 0 10) ?_
  refine zr_iload_n dX11_weigh_106 rfl ?_
  refine zr_callV (md' := mX0_kind) (As := [.int (nI i)]) dX11_weigh_107 mlX11_310 okX0_kind rfl inX0_kind slX0_kind (by decide) (hL3.K 10 1) rfl (by omega) (Nat.le_of_ble_eq_true rfl) hcb3 (c_Batch_kind (d := d - 1) hcb3 hL3 hB3 hi3) (fun k M1 h => by cases h.1) (fun v M9 hq => ?_)
  obtain ⟨e0, e9⟩ := hq
  cases e0
  rw [e9]
  refine zr_iconst (v := nI 1) dX11_weigh_110 (by decide) ?_
  refine zr_icmp_neN 141 dX11_weigh_111 (by decide) (by have := zb_lt (zA M3 (ad 11) q0); omega) (by decide) (fun h111 => ?_) (fun h111 => ?_)
  · refine zr_iincN (n := 1) (lv' := [some (.ref ((ad 0))), some (.int (nI (i + 1))), some (.int od)]) dX11_weigh_141 (Nat.le_of_ble_eq_true rfl) (Nat.le_of_ble_eq_true rfl) rfl rfl rfl ?_
    refine zr_goto 18 dX11_weigh_144 (by decide) ?_
    refine zr_drop 2 rfl ?_
    exact hk M3 (Fw.refl _ _) rfl (by rw [if_neg h111, Nat.add_zero]; exact ha) (by rw [if_neg h111, Nat.add_zero]; exact hb)
  · have hcb4 := hcb3
    have hL4 := hL3
    have hB4 := hB3
    refine zr_aload_n dX11_weigh_114 rfl ?_
    refine zr_dup dX11_weigh_115 rfl ?_
    refine zr_getI dX11_weigh_116 lkX11_281 (by decide) (by decide) rfl (hL3.K 0 12) ?_
    refine zr_as (y := (nI a9)) ha ?_
    refine zr_aload_n dX11_weigh_119 rfl ?_
    refine zr_getR dX11_weigh_120 lkX11_34 (by decide) (by decide) rfl (hL3.K 0 12) (hL3.R 356 0 10) ?_
    refine zr_iload_n dX11_weigh_123 rfl ?_
    refine zr_callV (md' := mX0_entryLength) (As := [.int (nI i)]) dX11_weigh_124 mlX11_311 okX0_entryLength rfl inX0_entryLength slX0_entryLength (by decide) (hL3.K 10 1) rfl (by omega) (Nat.le_of_ble_eq_true rfl) hcb3 (c_Batch_entryLength (d := d - 1) hcb4 hL4 hB4 hi3) (fun k M1 h => by cases h.1) (fun v M9 hq => ?_)
    obtain ⟨e0, e9⟩ := hq
    cases e0
    rw [e9]
    refine zr_iaddN dX11_weigh_127 ?_
    refine zr_putI dX11_weigh_128 lkX11_281 (by decide) (by decide) rfl rfl (hL3.K 0 12) ?_
    refine zr_aload_n dX11_weigh_131 rfl ?_
    refine zr_dup dX11_weigh_132 rfl ?_
    refine zr_getI dX11_weigh_133 lkX11_298 (by decide) (by decide) rfl (hL3.K 0 12) ?_
    refine zr_as (y := (nI b9)) (zput_ms (by decide) hb) ?_
    refine zr_iconst (v := nI 1) dX11_weigh_136 (by decide) ?_
    refine zr_iaddN dX11_weigh_137 ?_
    refine zr_putI dX11_weigh_138 lkX11_298 (by decide) (by decide) rfl rfl (hL3.K 0 12) ?_
    refine zr_iincN (n := 1) (lv' := [some (.ref ((ad 0))), some (.int (nI (i + 1))), some (.int od)]) dX11_weigh_141 (Nat.le_of_ble_eq_true rfl) (Nat.le_of_ble_eq_true rfl) rfl rfl rfl ?_
    refine zr_goto 18 dX11_weigh_144 (by decide) ?_
    refine zr_drop 2 rfl ?_
    exact hk _ ((Fw.refl ad M3).put hL3 (Or.inl rfl) |>.put hL3 (Or.inr rfl)) (zput_ms (f := 368) (by decide) (zput_ms (f := 367) (by decide) rfl)) (by rw [if_pos h111]; exact zput_ms (f := 368) (by decide) (zput_hit _ _ _ _)) (by rw [if_pos h111]; exact zput_hit _ _ _ _)
def WG (ad : Nat → Nat) (M M1 : zM) (m : Mp) (offs : List Nat) (i : Nat) : Prop := Fw ad M M1 ∧ ∃ (mi : Mp) (pl : Nat), MSets m (lsts (offs.map (esp (zA M (ad 11)))) i) mi ∧ zI M1 367 (ad 0) = nI (msz mi) ∧ zI M1 368 (ad 0) = nI mi.length ∧ pl ≤ 32 ∧ zI M1 193 (ad 8) = nI pl
set_option maxRecDepth 100000 in
set_option maxHeartbeats 4000000 in
theorem l_weigh {G : zG} {ad : Nat → Nat} {d k0 n0 : Nat} {M : zM} {Q : zOut → zM → Prop} {offs : List Nat} {len : Nat} {E : List Nat} {Ls : Nat → List zF} {m : Mp} (hd : 5 ≤ d) (hcb : zC M ≤ 600128 ∧ zS M ≤ 7301098) (hL : Lay ad M) (hB : Bt ad M offs len) (hS : Sto ad M E Ls) (hN : Nwr (zA M (ad 2)) E Ls) (hu : Ud (zA M (ad 2)) (up E Ls 3)) (hv : ∀ k v, vw ((up E Ls 3).map (ent (zA M (ad 2)))) 2147483647 k v ↔ (k, v) ∈ m) (hsm : Srt m) (hwf : ∀ q ∈ up E Ls 3, Ewf (zA M (ad 2)) q) (hq0 : ∀ M1 : zM, WG ad M M1 m offs offs.length → Q (.inl none) M1) : ∀ (z i : Nat) (M1 : zM), offs.length - i = z → i ≤ offs.length → WG ad M M1 m offs i → zw G mX11_weigh d k0 n0 Q 18 [some (.ref ((ad 0))), some (.int (nI i)), none] [] M1 := by
  intro z
  induction z using Nat.strongRecOn with
  | _ z ih =>
    intro i M1 hz hi hW
    obtain ⟨hF1, mi, pl, hmi, h367, h368, hpl, hpr⟩ := id hW
    have hL1 := hF1.fl.lay hL
    have hcb1 := hF1.fl.cb hcb
    have hB1 := hB.fl hF1.fl
    have hS1 := hS.fl hF1.fl
    have eD1 : zA M1 (ad 2) = zA M (ad 2) := hF1.fl.rA (by decide) (by decide)
    have eR1 : zA M1 (ad 11) = zA M (ad 11) := hF1.fl.rA (by decide) (by decide)
    have hw1 : zRw M1 (ad 8) (ad 9) pl 32 := ⟨hL1.K 8 7, hL1.R 192 8 9, hL1.K 9 14, hL1.N 9 32, hpr, hpl, by decide⟩
    refine zr_iload_n dX11_weigh_18 rfl ?_
    refine zr_aload_n dX11_weigh_19 rfl ?_
    refine zr_getR dX11_weigh_20 lkX11_34 (by decide) (by decide) rfl (hL1.K 0 12) (hL1.R 356 0 10) ?_
    refine zr_getI dX11_weigh_23 lkX11_126 (by decide) (by decide) rfl (hL1.K 10 1) ?_
    refine zr_as (y := (nI offs.length)) hB1.1 ?_
    refine zr_icmp_geN 147 dX11_weigh_26 (by decide) (by have := hB.2.1; omega) (by have := hB.2.1; omega) (fun h26 => ?_) (fun h26 => ?_)
    · refine zr_vret dX11_weigh_147 rfl ?_
      have e9 : i = offs.length := by omega
      subst e9
      exact hq0 M1 hW
    · obtain ⟨q0, hi9⟩ : ∃ q0, offs[i]? = some q0 := ⟨_, List.getElem?_eq_getElem (by omega)⟩
      refine zr_aload_n dX11_weigh_29 rfl ?_
      refine zr_getR dX11_weigh_30 lkX11_34 (by decide) (by decide) rfl (hL1.K 0 12) (hL1.R 356 0 10) ?_
      refine zr_iload_n dX11_weigh_33 rfl ?_
      refine zr_callV (md' := mX0_isLastOfItsKey) (As := [.int (nI i)]) dX11_weigh_34 mlX11_301 okX0_isLastOfItsKey rfl inX0_isLastOfItsKey slX0_isLastOfItsKey (by decide) (hL1.K 10 1) rfl (by omega) (Nat.le_of_ble_eq_true rfl) hcb1 (c_Batch_last (d := d - 1) (by omega) hcb1 hL1 hB1 hi9) (fun k M9 h => by obtain ⟨-, t, -, h, -⟩ := h; cases h) (fun v M9 hq => ?_)
      obtain ⟨e9, t, ht1, e0, hlast⟩ := hq
      cases e0
      rw [e9]
      rw [eR1] at hlast
      refine zr_if_eqN 141 dX11_weigh_37 (by decide) (by omega) (fun h37 => ?_) (fun h37 => ?_)
      · refine zr_iincN (n := 1) (lv' := [some (.ref ((ad 0))), some (.int (nI (i + 1))), none]) dX11_weigh_141 (Nat.le_of_ble_eq_true rfl) (Nat.le_of_ble_eq_true rfl) rfl rfl rfl ?_
        refine zr_goto 18 dX11_weigh_144 (by decide) ?_
        refine ih _ (by omega) (i + 1) M1 rfl (by omega) ⟨hF1, mi, pl, ?_, h367, h368, hpl, hpr⟩
        rw [(lsts_succ (ss := offs.map (esp (zA M (ad 11)))) (n := i) (s := esp (zA M (ad 11)) q0) (by rw [List.getElem?_map, hi9]; rfl)).2 (fun hall => ?_)]
        · exact hmi
        · have ht9 : t = 1 := hlast.mpr (fun x q hx hq => hall x (esp (zA M (ad 11)) q) hx (by rw [List.getElem?_map, hq]; rfl))
          omega
      · refine zr_aload_n dX11_weigh_40 rfl ?_
        refine zr_getR dX11_weigh_41 lkX11_34 (by decide) (by decide) rfl (hL1.K 0 12) (hL1.R 356 0 10) ?_
        refine zr_iload_n dX11_weigh_44 rfl ?_
        refine zr_aload_n dX11_weigh_45 rfl ?_
        refine zr_getR dX11_weigh_46 lkX11_28 (by decide) (by decide) rfl (hL1.K 0 12) (hL1.R 355 0 8) ?_
        refine zr_callV (md' := mX0_copyKey) (As := [.int (nI i), .ref ((ad 8))]) dX11_weigh_49 mlX11_304 okX0_copyKey rfl inX0_copyKey slX0_copyKey (by decide) (hL1.K 10 1) rfl (by omega) (Nat.le_of_ble_eq_true rfl) hcb1 (c_Batch_copyKey (d := d - 1) (by omega) hcb1 hL1 hB1 hi9 hw1 (by decide) (by decide)) (fun k M1 h => by cases h.1) (fun v M2 hq => ?_)
        obtain ⟨e0, e2⟩ := hq
        cases e0
        rw [eR1] at e2
        obtain ⟨hF2, hw2, hk2⟩ := pr_copy hL1 (hB.2.2.2.2.2 q0 (List.mem_of_getElem? hi9)).2.2.1 e2
        have hL2 := hF2.lay hL1
        have hcb2 := hF2.cb hcb1
        have hS2 := hS1.fl hF2.fl
        have eD2 : zA M2 (ad 2) = zA M (ad 2) := (hF2.fl.rA (by decide) (by decide)).trans eD1
        have eR2 : zA M2 (ad 11) = zA M (ad 11) := (hF2.fl.rA (by decide) (by decide)).trans eR1
        have hk3 : rwl (zA M2 (ad 9)) (ekl (zA M (ad 11)) q0) = eky (zA M (ad 11)) q0 := hk2
        have h367b : zI M2 367 (ad 0) = nI (msz mi) := (hF2.fl.rI (by decide) (by decide)).trans h367
        have h368b : zI M2 368 (ad 0) = nI mi.length := (hF2.fl.rI (by decide) (by decide)).trans h368
        refine zr_aload_n dX11_weigh_52 rfl ?_
        refine zr_aload_n dX11_weigh_53 rfl ?_
        refine zr_getR dX11_weigh_54 lkX11_28 (by decide) (by decide) rfl (hL2.K 0 12) (hL2.R 355 0 8) ?_
        refine zr_ldc dX11_weigh_57 ctX11_175 ?_
        refine zr_as (y := nI 2147483647) (by decide) ?_
        refine zr_callV (md' := mX11_find) (As := [.ref ((ad 8)), .int (nI 2147483647)]) dX11_weigh_59 mlX11_161 okX11_find rfl inX11_find slX11_find (by decide) (hL2.K 0 12) rfl (by omega) (Nat.le_of_ble_eq_true rfl) hcb2 (c_find (d := d - 1) (by omega) hcb2 hL2 hS2 hw2 (by decide) (by rw [eD2]; exact hN)) (fun k M9 h => by obtain ⟨-, t, h, -⟩ := h; cases h) (fun v M9 hq => ?_)
        obtain ⟨e9, y, e0, hy⟩ := hq
        cases e0
        rw [e9]
        rw [eD2, hk3] at hy
        obtain ⟨y1, y2⟩ := hit_map hu hv hy
        have hkm : ∀ v, (eky (zA M (ad 11)) q0, v) ∈ mi ↔ (eky (zA M (ad 11)) q0, v) ∈ m := fun v => by
          rw [hmi.mem]
          constructor
          · rintro (⟨s9, ⟨i9, a1, a2, -⟩, -⟩ | z)
            · exact absurd a2 (lsts_key (ss := offs.map (esp (zA M (ad 11)))) (n := i) (s := esp (zA M (ad 11)) q0) (by rw [List.getElem?_map, hi9]; rfl) (List.mem_of_getElem? a1))
            · exact z.2
          · exact fun z => Or.inr ⟨fun s9 h9 => lsts_key (ss := offs.map (esp (zA M (ad 11)))) (n := i) (s := esp (zA M (ad 11)) q0) (by rw [List.getElem?_map, hi9]; rfl) h9, z⟩
        have hsi := hmi.srt hsm
        obtain ⟨mj, hmj⟩ := MSet.ex hsi (eky (zA M (ad 11)) q0) (spo (esp (zA M (ad 11)) q0))
        obtain ⟨xx, yy, z1, z2, z3, z4, z5, z6⟩ := hmj.sz hsi
        have hlj : lsts (offs.map (esp (zA M (ad 11)))) (i + 1) = lsts (offs.map (esp (zA M (ad 11)))) i ++ [esp (zA M (ad 11)) q0] := (lsts_succ (by rw [List.getElem?_map, hi9]; rfl)).1 (fun j u hj hu => by
          rw [List.getElem?_map] at hu
          obtain ⟨q9, hq9, e9⟩ := Option.map_eq_some_iff.mp hu
          rw [← e9]
          exact hlast.mp (by omega) j q9 hj hq9)
        have hyy : yy = if zb ((zA M (ad 11)) q0) = 1 then eln (zA M (ad 11)) q0 else 0 := by
          by_cases h1 : zb ((zA M (ad 11)) q0) = 1
          · rw [if_pos h1, z5 (eva (zA M (ad 11)) q0) (by unfold spo esp; rw [if_pos h1])]
            unfold eln eky eva
            rw [rwl_len, rwl_len]
          · rw [if_neg h1]
            exact z6 (by unfold spo esp; rw [if_neg h1])
        have hel : 8 ≤ eln (zA M (ad 11)) q0 := by unfold eln; omega
        have hfin : ∀ (M3 M4 : zM) (a9 b9 : Nat), Fw ad M1 M3 → Fw ad M3 M4 → zI M3 193 (ad 8) = nI (ekl (zA M (ad 11)) q0) → a9 + xx = msz mi → b9 + (if xx = 0 then 0 else 1) = mi.length → zI M4 193 (ad 8) = zI M3 193 (ad 8) → zI M4 367 (ad 0) = nI (a9 + (if zb (zA M (ad 11) q0) = 1 then eln (zA M (ad 11)) q0 else 0)) → zI M4 368 (ad 0) = nI (b9 + (if zb (zA M (ad 11) q0) = 1 then 1 else 0)) → WG ad M M4 m offs (i + 1) := by
          intro M3 M4 a9 b9 f1 f2 g1 g2 g3 g4 g5 g6
          refine ⟨(hF1.trans f1).trans f2, mj, _, by rw [hlj]; exact hmi.snoc hmj, ?_, ?_, (hB.2.2.2.2.2 q0 (List.mem_of_getElem? hi9)).2.2.1, g4.trans g1⟩
          · rw [g5, ← hyy]; congr 1; omega
          · rw [g6]; congr 1
            by_cases h1 : zb ((zA M (ad 11)) q0) = 1
            · rw [if_pos h1] at hyy ⊢; rw [if_neg (show ¬ yy = 0 by omega)] at z2; omega
            · rw [if_neg h1] at hyy ⊢; rw [if_pos hyy] at z2; omega
        refine zr_istore_n (lv' := [some (.ref ((ad 0))), some (.int (nI i)), some (.int (zvi y))]) dX11_weigh_62 (Nat.le_of_ble_eq_true rfl) (Nat.le_of_ble_eq_true rfl) rfl rfl ?_
        refine zr_aload_n dX11_weigh_63 rfl ?_
        refine zr_getR dX11_weigh_64 lkX11_12 (by decide) (by decide) rfl (hL2.K 0 12) (hL2.R 352 0 1) ?_
        refine zr_iload_n dX11_weigh_67 rfl ?_
        refine zr_callV (md' := mX1_kind) (As := [.int (zvi y)]) dX11_weigh_68 mlX11_165 okX1_kind rfl inX1_kind slX1_kind (by decide) (hL2.K 1 2) rfl (by omega) (Nat.le_of_ble_eq_true rfl) hcb2 (c_Disk_kindO (d := d - 1) (y := y) hcb2 (Lay.dk hL2) (fun q hq => by have := (up_eb hS (Nat.le_refl 3) (hy.1 q hq).1).1; omega)) (fun k M1 h => by cases h.1) (fun v M9 hq => ?_)
        obtain ⟨e0, e9⟩ := hq
        cases e0
        rw [e9, eD2]
        refine zr_iconst (v := nI 1) dX11_weigh_71 (by decide) ?_
        refine zr_icmp_neN 102 dX11_weigh_72 (by decide) (Nat.lt_trans (kdO_lt _ _) (by decide)) (by decide) (fun h72 => ?_) (fun h72 => ?_)
        · have hx0 : xx = 0 := z4 (fun v hv9 => y2 h72 v ((hkm v).mp hv9))
          refine t_weigh102 (od := zvi y) hcb2 (by omega) hL2 (hB1.fl hF2.fl) hi9 h367b h368b (fun M4 f4 g0 g1 g2 => ?_)
          rw [eR2] at g1 g2
          refine ih _ (by omega) (i + 1) M4 rfl (by omega) (hfin M2 M4 (msz mi) mi.length hF2.fw f4 hw2.2.2.2.2.1 (by omega) (by rw [if_pos hx0]; rfl) g0 g1 g2)
        · obtain ⟨s9, rfl⟩ : ∃ s, y = some s := by
            cases y with
            | none => exact absurd h72 (show ¬ (0 = 1) by decide)
            | some s => exact ⟨s, rfl⟩
          refine zr_asL (lv' := [some (.ref ((ad 0))), some (.int (nI i)), some (.int (nI s9))]) rfl ?_
          have hin := (hkm _).mpr (y1 s9 rfl h72)
          have hxx := z3 _ hin
          have hee : eln (zA M (ad 2)) s9 = xx := by rw [hxx, ← (hy.1 s9 rfl).2.1]; unfold eln eky eva; rw [rwl_len, rwl_len]
          rw [if_neg (show ¬ xx = 0 by omega)] at z2
          have hml : 1 ≤ mi.length := List.length_pos_of_mem hin
          have hmz : xx ≤ msz mi := by
            obtain ⟨A9, B9, e9⟩ := List.append_of_mem hin
            rw [hxx, e9, msz_append, msz_cons]; dsimp only; omega
          refine zr_aload_n dX11_weigh_75 rfl ?_
          refine zr_dup dX11_weigh_76 rfl ?_
          refine zr_getI dX11_weigh_77 lkX11_281 (by decide) (by decide) rfl (hL2.K 0 12) ?_
          refine zr_as (y := (nI (msz mi))) h367b ?_
          refine zr_aload_n dX11_weigh_80 rfl ?_
          refine zr_getR dX11_weigh_81 lkX11_12 (by decide) (by decide) rfl (hL2.K 0 12) (hL2.R 352 0 1) ?_
          refine zr_iload_n dX11_weigh_84 rfl ?_
          refine zr_callV (md' := mX1_entryLength) (As := [.int (nI s9)]) dX11_weigh_85 mlX11_307 okX1_entryLength rfl inX1_entryLength slX1_entryLength (by decide) (hL2.K 1 2) rfl (by omega) (Nat.le_of_ble_eq_true rfl) hcb2 (c_Disk_entryLength (d := d - 1) hcb2 (Lay.dk hL2) (by have := (up_eb hS (Nat.le_refl 3) (hy.1 s9 rfl).1).1; omega)) (fun k M1 h => by cases h.1) (fun v M9 hq => ?_)
          obtain ⟨e0, e9⟩ := hq
          cases e0
          rw [e9, eD2]
          refine zr_isubN dX11_weigh_88 (by omega) ?_
          refine zr_putI dX11_weigh_89 lkX11_281 (by decide) (by decide) rfl rfl (hL2.K 0 12) ?_
          refine zr_aload_n dX11_weigh_92 rfl ?_
          refine zr_dup dX11_weigh_93 rfl ?_
          refine zr_getI dX11_weigh_94 lkX11_298 (by decide) (by decide) rfl (hL2.K 0 12) ?_
          refine zr_as (y := (nI mi.length)) (zput_ms (by decide) h368b) ?_
          refine zr_iconst (v := nI 1) dX11_weigh_97 (by decide) ?_
          refine zr_isubN dX11_weigh_98 (by omega) ?_
          refine zr_putI dX11_weigh_99 lkX11_298 (by decide) (by decide) rfl rfl (hL2.K 0 12) ?_
          obtain ⟨M3, e3⟩ : ∃ z, z = (zput (zput M2 367 (ad 0) (nI ((msz mi) - (eln (zA M (ad 2)) s9)))) 368 (ad 0) (nI (mi.length - 1))) := ⟨_, rfl⟩
          rw [← e3]
          have hF3 : Fw ad M2 M3 := by rw [e3]; exact ((Fw.refl ad M2).put hL2 (Or.inl rfl)).put hL2 (Or.inr rfl)
          have hL3 := hF3.fl.lay hL2
          have hcb3 := hF3.fl.cb hcb2
          have eR3 : zA M3 (ad 11) = zA M (ad 11) := (hF3.fl.rA (by decide) (by decide)).trans eR2
          refine t_weigh102 (od := nI s9) hcb3 (by omega) hL3 ((hB1.fl hF2.fl).fl hF3.fl) hi9 (by rw [e3]; exact zput_ms (f := 368) (by decide) (zput_hit _ _ _ _)) (by rw [e3]; exact zput_hit _ _ _ _) (fun M4 f4 g0 g1 g2 => ?_)
          rw [eR3] at g1 g2
          refine ih _ (by omega) (i + 1) M4 rfl (by omega) (hfin M3 M4 _ _ (hF2.fw.trans hF3) f4 ?_ (by omega) (by rw [if_neg (show ¬ xx = 0 by omega)]; omega) g0 g1 g2)
          rw [e3]; exact zput_ms (f := 368) (by decide) (zput_ms (f := 367) (by decide) hw2.2.2.2.2.1)
set_option maxRecDepth 100000 in
set_option maxHeartbeats 4000000 in
theorem c_weigh {G : zG} {ad : Nat → Nat} {d pl : Nat} {M : zM} {offs : List Nat} {len : Nat} {E : List Nat} {Ls : Nat → List zF} {m : Mp} (hd : 5 ≤ d) (hcb : zC M ≤ 600128 ∧ zS M ≤ 7301098) (hL : Lay ad M) (hB : Bt ad M offs len) (hS : Sto ad M E Ls) (hN : Nwr (zA M (ad 2)) E Ls) (hu : Ud (zA M (ad 2)) (up E Ls 3)) (hv : ∀ k v, vw ((up E Ls 3).map (ent (zA M (ad 2)))) 2147483647 k v ↔ (k, v) ∈ m) (hsm : Srt m) (hwf : ∀ q ∈ up E Ls 3, Ewf (zA M (ad 2)) q) (h364 : zI M 364 (ad 0) = nI (msz m)) (h365 : zI M 365 (ad 0) = nI m.length) (hpl : pl ≤ 32) (hpr : zI M 193 (ad 8) = nI pl)  : zMet G mX11_weigh d [.ref ((ad 0))] M (fun o M' => o = .inl none ∧ WG ad M M' m offs offs.length) := by
  refine zMet_of (by decide +kernel) (Nat.le_of_ble_eq_true rfl) rfl hcb ?_
  show zw G mX11_weigh d _ _ _ 0 [some (.ref ((ad 0))), none, none] [] M
  refine zr_aload_n dX11_weigh_0 rfl ?_
  refine zr_aload_n dX11_weigh_1 rfl ?_
  refine zr_getI dX11_weigh_2 lkX11_227 (by decide) (by decide) rfl (hL.K 0 12) ?_
  refine zr_as (y := (nI (msz m))) h364 ?_
  refine zr_putI dX11_weigh_5 lkX11_281 (by decide) (by decide) rfl rfl (hL.K 0 12) ?_
  refine zr_aload_n dX11_weigh_8 rfl ?_
  refine zr_aload_n dX11_weigh_9 rfl ?_
  refine zr_getI dX11_weigh_10 lkX11_230 (by decide) (by decide) rfl (hL.K 0 12) ?_
  refine zr_as (y := (nI m.length)) (zput_ms (by decide) h365) ?_
  refine zr_putI dX11_weigh_13 lkX11_298 (by decide) (by decide) rfl rfl (hL.K 0 12) ?_
  refine zr_iconst (v := nI 0) dX11_weigh_16 (by decide) ?_
  refine zr_istore_n (lv' := [some (.ref ((ad 0))), some (.int (nI 0)), none]) dX11_weigh_17 (Nat.le_of_ble_eq_true rfl) (Nat.le_of_ble_eq_true rfl) rfl rfl ?_
  obtain ⟨M1, e1⟩ : ∃ z, z = (zput (zput M 367 (ad 0) (nI (msz m))) 368 (ad 0) (nI m.length)) := ⟨_, rfl⟩
  rw [← e1]
  refine l_weigh hd hcb hL hB hS hN hu hv hsm hwf (fun M' h => ⟨rfl, h⟩) _ 0 M1 rfl (by omega) ⟨by rw [e1]; exact ((Fw.refl ad M).put hL (Or.inl rfl)).put hL (Or.inr rfl), m, pl, rfl, by rw [e1]; exact zput_ms (f := 368) (by decide) (zput_hit _ _ _ _), by rw [e1]; exact zput_hit _ _ _ _, hpl, by rw [e1]; exact zput_ms (f := 368) (by decide) (zput_ms (f := 367) (by decide) hpr)⟩
