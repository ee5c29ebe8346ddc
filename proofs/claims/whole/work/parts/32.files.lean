/-! ===== LsmStore$Files; frames by lists ===== -/
/-- what a piece of work changed: the fields of these numbers, these rows of numbers (64: all of the tables'), these rows of references -/
def Fl (ad : Nat → Nat) (c : Nat) (LF LA LB : List Nat) (M M' : zM) : Prop := Fr ad c (fun f _ => f ∈ LF) (fun i => min i 64 ∈ LA) (fun i => i ∈ LB) M M'
theorem Fl.refl (ad : Nat → Nat) (LF LA LB : List Nat) (M : zM) : Fl ad 0 LF LA LB M M := Fr.refl ad M _ _ _
section fl
variable {ad : Nat → Nat} {c c1 c2 : Nat} {LF LA LB LF1 LA1 LB1 : List Nat} {M M1 M2 : zM}
theorem Fl.mono (h : Fl ad c LF LA LB M M1) (hF : LF ⊆ LF1 := by decide) (hA : LA ⊆ LA1 := by decide) (hB : LB ⊆ LB1 := by decide) : Fl ad c LF1 LA1 LB1 M M1 :=
  Fr.mono h (fun f _ h => hF h) (fun i h => hA h) (fun i h => hB h)
theorem Fl.trans (h : Fl ad c1 LF LA LB M M1) (g : Fl ad c2 LF LA LB M1 M2) : Fl ad (c1 + c2) LF LA LB M M2 := Fr.trans h g
theorem Fl.trans0 (h : Fl ad 0 LF LA LB M M1) (g : Fl ad c LF LA LB M1 M2) : Fl ad c LF LA LB M M2 := by
  have := Fr.trans h g
  rw [Nat.zero_add] at this
  exact this
theorem Fl.lay (h : Fl ad c LF LA LB M M1) (hL : Lay ad M) (h20 : 20 ∉ LB := by decide) (h22 : 22 ∉ LB := by decide) : Lay ad M1 := Fr.lay h hL h20 h22
theorem Fl.rI (h : Fl ad c LF LA LB M M1) {f i : Nat} (hn : f ∉ LF) (hi : i < 582) : zI M1 f (ad i) = zI M f (ad i) := Fr.rI h f i hn hi
theorem Fl.rA (h : Fl ad c LF LA LB M M1) {i : Nat} (hn : min i 64 ∉ LA) (hi : i < 582) : zA M1 (ad i) = zA M (ad i) := Fr.rA h i hn hi
theorem Fl.rB (h : Fl ad c LF LA LB M M1) {i : Nat} (hn : i ∉ LB) (hi : i < 582) : zB M1 (ad i) = zB M (ad i) := Fr.rB h i hn hi
theorem Fl.put (h : Fl ad c LF LA LB M M1) (hL : Lay ad M) {f i : Nat} {v : Int32} (hF : f ∈ LF := by decide) (hi : i < 582 := by decide) : Fl ad c LF LA LB M (zput M1 f (ad i) v) := Fr.put h hL v hF hi
theorem Fl.setA (h : Fl ad c LF LA LB M M1) (hL : Lay ad M) {i : Nat} {g : Nat → Int32} (hA : min i 64 ∈ LA := by decide) (hi : i < 582 := by decide) : Fl ad c LF LA LB M (zsetA M1 (ad i) g) := Fr.setA h hL g hA hi
theorem Fl.setB (h : Fl ad c LF LA LB M M1) (hL : Lay ad M) {i : Nat} {g : Nat → Option Nat} (hB : i ∈ LB := by decide) (hi : i < 582 := by decide) : Fl ad c LF LA LB M (zsetB M1 (ad i) g) := Fr.setB h hL g hB hi
theorem Fl.cs (h : Fl ad c LF LA LB M M1) : zC M1 = zC M + c ∧ zS M1 = zS M + 6 * c := h.2.2.2.2.2.2.2
theorem Fl.cb (h : Fl ad 0 LF LA LB M M1) (hcb : zC M ≤ 600128 ∧ zS M ≤ 7301098) : zC M1 ≤ 600128 ∧ zS M1 ≤ 7301098 := by
  have := h.cs
  omega
end fl
theorem sub_len : ∀ {l m : List Nat}, l.Nodup → l ⊆ m → l.length ≤ m.length
  | [], m, _, _ => Nat.zero_le _
  | x :: l, m, h, hs => by
    have h1 := List.nodup_cons.mp h
    have hx : x ∈ m := hs List.mem_cons_self
    have := sub_len (m := m.erase x) h1.2 (fun y hy => (List.mem_erase_of_ne (fun (e : y = x) => h1.1 (by rw [← e]; exact hy))).mpr (hs (List.mem_cons_of_mem _ hy)))
    rw [List.length_erase_of_mem hx] at this
    have : 0 < m.length := List.length_pos_of_mem hx
    rw [List.length_cons]
    omega
/-- the blocks in use -/
def Tk (ad : Nat → Nat) (M : zM) (tk : List Nat) : Prop := Br tk ∧ (∀ i, i < 512 → zA M (ad 18) i = nI (if 80 + i ∈ tk then 1 else 0)) ∧ zI M 69 (ad 17) = nI (512 - tk.length)
/-- the tables in use -/
def Us (ad : Nat → Nat) (M : zM) (us : List Nat) : Prop := us.Nodup ∧ (∀ j ∈ us, j < 256) ∧ (∀ j, j < 256 → zI M 260 (ad (tA j)) = nI (if j ∈ us then 1 else 0)) ∧ zI M 70 (ad 17) = nI (256 - us.length)
/-- the tables that go -/
def Rt (ad : Nat → Nat) (M : zM) (rt : List Nat) : Prop := zI M 68 (ad 17) = nI rt.length ∧ rt.length ≤ 256 ∧ ∀ i j, rt[i]? = some j → j < 256 ∧ zB M (ad 21) i = some (ad (tA j))
theorem Br.len {l : List Nat} (h : Br l) : l.length ≤ 512 := by
  have := sub_len (m := (List.range 512).map (80 + ·)) h.2 (fun b hb => List.mem_map.mpr ⟨b - 80, List.mem_range.mpr (by have := h.1 b hb; omega), by have := h.1 b hb; show 80 + (b - 80) = b; omega⟩)
  simpa using this
theorem us_len {us : List Nat} (h : us.Nodup) (h2 : ∀ j ∈ us, j < 256) : us.length ≤ 256 := by
  have := sub_len (m := List.range 256) h (fun b hb => List.mem_range.mpr (h2 b hb))
  simpa using this
theorem Tk.at {ad : Nat → Nat} {M : zM} {tk : List Nat} (h : Tk ad M tk) {i : Nat} (hi : i < 512) : ∃ t : Nat, t ≤ 1 ∧ zA M (ad 18) i = nI t ∧ (t = 1 ↔ 80 + i ∈ tk) := by
  have := h.2.1 i hi
  by_cases hb : 80 + i ∈ tk
  · rw [if_pos hb] at this; exact ⟨1, by decide, this, fun _ => hb, fun _ => rfl⟩
  · rw [if_neg hb] at this; exact ⟨0, by decide, this, fun z => absurd z (by decide), fun z => absurd z hb⟩
theorem Us.at {ad : Nat → Nat} {M : zM} {us : List Nat} (h : Us ad M us) {j : Nat} (hj : j < 256) : ∃ t : Nat, t ≤ 1 ∧ zI M 260 (ad (tA j)) = nI t ∧ (t = 1 ↔ j ∈ us) := by
  have := h.2.2.1 j hj
  by_cases hb : j ∈ us
  · rw [if_pos hb] at this; exact ⟨1, by decide, this, fun _ => hb, fun _ => rfl⟩
  · rw [if_neg hb] at this; exact ⟨0, by decide, this, fun z => absurd z (by decide), fun z => absurd z hb⟩
theorem Tk.full {ad : Nat → Nat} {M : zM} {tk : List Nat} (h : Tk ad M tk) (hl : tk.length < 512) (ha : ∀ x, x < 512 → 80 + x ∈ tk) : False := by
  have := sub_len (l := (List.range 512).map (80 + ·)) (m := tk) (List.Pairwise.map _ (fun a b (e : a ≠ b) z => e (Nat.add_left_cancel z)) List.nodup_range) (fun b hb => by
    obtain ⟨x, hx, rfl⟩ := List.mem_map.mp hb
    exact ha x (List.mem_range.mp hx))
  rw [List.length_map, List.length_range] at this
  omega
theorem Us.full {ad : Nat → Nat} {M : zM} {us : List Nat} (h : Us ad M us) (hl : us.length < 256) (ha : ∀ x, x < 256 → x ∈ us) : False := by
  have := sub_len (l := List.range 256) (m := us) List.nodup_range (fun b hb => ha b (List.mem_range.mp hb))
  rw [List.length_range] at this
  omega
/-- a block is taken -/
def mkM (ad : Nat → Nat) (M : zM) (b n : Nat) : zM := zput (zsetA M (ad 18) (upd (zA M (ad 18)) (b - 80) (nI 1))) 69 (ad 17) (nI n)
theorem Tk.add {ad : Nat → Nat} {M : zM} {tk : List Nat} {b n : Nat} (h : Tk ad M tk) (hb : b ∉ tk) (h1 : 80 ≤ b) (h2 : b < 592) (hn : n = 512 - tk.length - 1) : Tk ad (mkM ad M b n) (b :: tk) := by
  refine ⟨⟨fun x hx => ?_, List.nodup_cons.mpr ⟨hb, h.1.2⟩⟩, fun i hi => ?_, ?_⟩
  · rcases List.mem_cons.mp hx with rfl | hx
    · exact ⟨h1, h2⟩
    · exact h.1.1 x hx
  · show zA (zsetA M (ad 18) _) (ad 18) i = _
    rw [zsetA_hit]
    unfold upd
    by_cases e : i = b - 80
    · rw [if_pos e, if_pos (by rw [show 80 + i = b by omega]; exact List.mem_cons_self)]
    · rw [if_neg e, h.2.1 i hi]
      congr 2
      simp only [List.mem_cons, eq_iff_iff]
      constructor
      · exact Or.inr
      · rintro (z | z)
        · omega
        · exact z
  · rw [hn]; exact (zput_hit _ _ _ _).trans (by rw [List.length_cons, Nat.sub_sub])
theorem mkM_fl {ad : Nat → Nat} {M : zM} (hL : Lay ad M) (b n : Nat) : Fl ad 0 [69] [18] [] M (mkM ad M b n) := ((Fl.refl ad _ _ _ M).setA hL (i := 18)).put hL (i := 17)

set_option maxRecDepth 100000 in
set_option maxHeartbeats 4000000 in
theorem c_Files_mark {G : zG} {ad : Nat → Nat} {d b : Nat} {tk : List Nat} {M : zM} (hcb : zC M ≤ 600128 ∧ zS M ≤ 7301098) (hL : Lay ad M) (hT : Tk ad M tk) (hb : b ∉ tk) (h1 : 80 ≤ b) (h2 : b < 592) (hl : tk.length < 512)  : zMet G mX2_mark d [.ref ((ad 17)), .int (nI (b - 80))] M (fun o M' => o = .inl none ∧ M' = mkM ad M b (512 - tk.length - 1)) := by
  refine zMet_of (by decide +kernel) (Nat.le_of_ble_eq_true rfl) rfl hcb ?_
  show zw G mX2_mark d _ _ _ 0 [some (.ref ((ad 17))), some (.int (nI (b - 80)))] [] M
  refine zr_aload_n dX2_mark_0 rfl ?_
  refine zr_getR dX2_mark_1 lkX2_9 (by decide) (by decide) rfl (hL.K 17 3) (hL.R 64 17 18) ?_
  refine zr_iload_n dX2_mark_4 rfl ?_
  refine zr_zaldN dX2_mark_5 (hL.K 18 16) (hL.N 18 512) (by omega) (by omega) ?_
  refine zr_as (y := (nI 0)) ((hT.2.1 (b - 80) (by omega)).trans (by rw [if_neg (by rw [show 80 + (b - 80) = b by omega]; exact hb)])) ?_
  refine zr_if_ne 26 dX2_mark_6 (by decide) (fun h6 => absurd rfl h6) (fun h6 => ?_)
  refine zr_aload_n dX2_mark_9 rfl ?_
  refine zr_getR dX2_mark_10 lkX2_9 (by decide) (by decide) rfl (hL.K 17 3) (hL.R 64 17 18) ?_
  refine zr_iload_n dX2_mark_13 rfl ?_
  refine zr_iconst (v := nI 1) dX2_mark_14 (by decide) ?_
  refine zr_zastN dX2_mark_15 (hL.K 18 16) (hL.N 18 512) (by omega) (by omega) (Or.inr rfl) ?_
  refine zr_aload_n dX2_mark_16 rfl ?_
  refine zr_dup dX2_mark_17 rfl ?_
  refine zr_getI dX2_mark_18 lkX2_28 (by decide) (by decide) rfl (hL.K 17 3) ?_
  refine zr_as (y := (nI (512 - tk.length))) hT.2.2 ?_
  refine zr_iconst (v := nI 1) dX2_mark_21 (by decide) ?_
  refine zr_isubN dX2_mark_22 (by omega) ?_
  refine zr_putI dX2_mark_23 lkX2_28 (by decide) (by decide) rfl rfl (hL.K 17 3) ?_
  refine zr_vret dX2_mark_26 rfl ?_
  exact ⟨rfl, rfl⟩
set_option maxRecDepth 100000 in
set_option maxHeartbeats 4000000 in
theorem c_Files_takeThis {G : zG} {ad : Nat → Nat} {d b : Nat} {tk : List Nat} {M : zM} (hd : 1 ≤ d) (hcb : zC M ≤ 600128 ∧ zS M ≤ 7301098) (hL : Lay ad M) (hT : Tk ad M tk) (hb : b ∉ tk) (h1 : 80 ≤ b) (h2 : b < 592) (hl : tk.length < 512)  : zMet G mX2_takeThis d [.ref ((ad 17)), .int (nI b)] M (fun o M' => o = .inl (some (.int (nI 1))) ∧ M' = mkM ad M b (512 - tk.length - 1)) := by
  refine zMet_of (by decide +kernel) (Nat.le_of_ble_eq_true rfl) rfl hcb ?_
  show zw G mX2_takeThis d _ _ _ 0 [some (.ref ((ad 17))), some (.int (nI b)), none] [] M
  refine zr_iload_n dX2_takeThis_0 rfl ?_
  refine zr_bipush (v := nI 80) dX2_takeThis_1 (by decide) ?_
  refine zr_isubN dX2_takeThis_3 (by omega) ?_
  refine zr_istore_n (lv' := [some (.ref ((ad 17))), some (.int (nI b)), some (.int (nI (b - 80)))]) dX2_takeThis_4 (Nat.le_of_ble_eq_true rfl) (Nat.le_of_ble_eq_true rfl) rfl rfl ?_
  refine zr_iload_n dX2_takeThis_5 rfl ?_
  refine zr_if_ltN 16 dX2_takeThis_6 (by decide) (by omega) ?_
  refine zr_iload_n dX2_takeThis_9 rfl ?_
  refine zr_sipush (v := nI 512) dX2_takeThis_10 (by decide) ?_
  refine zr_icmp_ltN 18 dX2_takeThis_13 (by decide) (by omega) (by omega) (fun h13 => ?_) (fun h13 => ?_)
  · refine zr_aload_n dX2_takeThis_18 rfl ?_
    refine zr_iload_n dX2_takeThis_19 rfl ?_
    refine zr_callV (md' := mX2_mark) (As := [.int (nI (b - 80))]) dX2_takeThis_20 mlX2_54 okX2_mark rfl inX2_mark slX2_mark (by decide) (hL.K 17 3) rfl (by omega) (Nat.le_of_ble_eq_true rfl) hcb (c_Files_mark (d := d - 1) hcb hL hT hb h1 h2 hl) (fun k M1 h => by cases h.1) (fun v M1 hq => ?_)
    obtain ⟨e0, e1⟩ := hq
    cases e0
    rw [e1]
    refine zr_iconst (v := nI 1) dX2_takeThis_23 (by decide) ?_
    refine zr_zret dX2_takeThis_24 rfl (Or.inr rfl) ?_
    first | (exfalso; omega) | exact ⟨rfl, rfl⟩
  · refine zr_iconst (v := nI 0) dX2_takeThis_16 (by decide) ?_
    refine zr_zret dX2_takeThis_17 rfl (Or.inl rfl) ?_
    first | (exfalso; omega) | exact ⟨rfl, rfl⟩
theorem Tk.put {ad : Nat → Nat} {M : zM} {tk : List Nat} {f a : Nat} {v : Int32} (h : Tk ad M tk) (hf : f ≠ 69) : Tk ad (zput M f a v) tk := ⟨h.1, h.2.1, zput_ms (Ne.symm hf) h.2.2⟩
def tbM (ad : Nat → Nat) (M : zM) (b n : Nat) : zM := mkM ad (zput M 71 (ad 17) (nI (b - 80 + 1))) b n
theorem tbM_fl {ad : Nat → Nat} {M : zM} (hL : Lay ad M) (b n : Nat) : Fl ad 0 [69, 71] [18] [] M (tbM ad M b n) := (((Fl.refl ad _ _ _ M).put hL (f := 71) (i := 17)).setA hL (i := 18)).put hL (i := 17)
set_option maxRecDepth 100000 in
set_option maxHeartbeats 4000000 in
theorem l_Files_takeBlock {G : zG} {ad : Nat → Nat} {d k0 n0 nx : Nat} {tk : List Nat} {M : zM} {Q : zOut → zM → Prop} (hd : 1 ≤ d) (hcb : zC M ≤ 600128 ∧ zS M ≤ 7301098) (hL : Lay ad M) (hT : Tk ad M tk) (hl : tk.length < 512) (hnx : zI M 71 (ad 17) = nI nx) (hn2 : nx ≤ 512) (hq0 : ∀ b M', b ∉ tk → 80 ≤ b → b < 592 → M' = tbM ad M b (512 - tk.length - 1) → Q (.inl (some (.int (nI b)))) M') : ∀ (m i : Nat) , 512 - i = m → i ≤ 512 → (∀ x, x < i → 80 + (nx + x) % 512 ∈ tk) → zw G mX2_takeBlock d k0 n0 Q 2 [some (.ref ((ad 17))), some (.int (nI i)), none] [] M := by
  intro m
  induction m using Nat.strongRecOn with
  | _ m ih =>
    intro i hm hi ha
    refine zr_iload_n dX2_takeBlock_2 rfl ?_
    refine zr_sipush (v := nI 512) dX2_takeBlock_3 (by decide) ?_
    refine zr_icmp_geN 54 dX2_takeBlock_6 (by decide) (by omega) (by omega) (fun h6 => ?_) (fun h6 => ?_)
    · refine zr_iconst (v := -1) dX2_takeBlock_54 (by decide) ?_
      refine zr_iret dX2_takeBlock_55 rfl ?_
      exfalso
      refine hT.full hl (fun x hx => ?_)
      have h9 := ha ((x + 512 - nx) % 512) (by omega)
      rw [show (nx + (x + 512 - nx) % 512) % 512 = x by omega] at h9
      exact h9
    · refine zr_aload_n dX2_takeBlock_9 rfl ?_
      refine zr_getI dX2_takeBlock_10 lkX2_45 (by decide) (by decide) rfl (hL.K 17 3) ?_
      refine zr_as (y := (nI nx)) hnx ?_
      refine zr_iload_n dX2_takeBlock_13 rfl ?_
      refine zr_iaddN dX2_takeBlock_14 ?_
      refine zr_sipush (v := nI 512) dX2_takeBlock_15 (by decide) ?_
      refine zr_callS (md' := mJ9_floorMod_7cf53) (As := [.int (nI (nx + i)), .int (nI 512)]) dX2_takeBlock_18 mlX2_48 okJ9_floorMod_7cf53 rfl stJ9_floorMod_7cf53 rfl (by omega) (Nat.le_of_ble_eq_true rfl) hcb (c_floorMod (d := d - 1) hcb (by omega) (by decide) (by decide)) (fun k M1 h => by cases h.1) (fun v M1 hq => ?_)
      obtain ⟨e0, e1⟩ := hq
      cases e0
      rw [e1]
      refine zr_istore_n (lv' := [some (.ref ((ad 17))), some (.int (nI i)), some (.int (nI ((nx + i) % 512)))]) dX2_takeBlock_21 (Nat.le_of_ble_eq_true rfl) (Nat.le_of_ble_eq_true rfl) rfl rfl ?_
      obtain ⟨t, ht, hta, htk⟩ := hT.at (i := (nx + i) % 512) (by omega)
      refine zr_aload_n dX2_takeBlock_22 rfl ?_
      refine zr_getR dX2_takeBlock_23 lkX2_9 (by decide) (by decide) rfl (hL.K 17 3) (hL.R 64 17 18) ?_
      refine zr_iload_n dX2_takeBlock_26 rfl ?_
      refine zr_zaldN dX2_takeBlock_27 (hL.K 18 16) (hL.N 18 512) (by omega) (by omega) ?_
      refine zr_as (y := (nI t)) hta ?_
      refine zr_if_neN 48 dX2_takeBlock_28 (by decide) (by omega) (fun h28 => ?_) (fun h28 => ?_)
      · refine zr_iincN (n := 1) (lv' := [some (.ref ((ad 17))), some (.int (nI (i + 1))), some (.int (nI ((nx + i) % 512)))]) dX2_takeBlock_48 (Nat.le_of_ble_eq_true rfl) (Nat.le_of_ble_eq_true rfl) rfl rfl rfl ?_
        refine zr_goto 2 dX2_takeBlock_51 (by decide) ?_
        refine zr_drop 2 rfl ?_
        exact ih _ (by omega) (i + 1) rfl (by omega) (fun x hx => (Nat.lt_or_ge x i).elim (fun z => ha x z) (fun z => by rw [show x = i by omega]; exact htk.mp (by omega)))
      · refine zr_aload_n dX2_takeBlock_31 rfl ?_
        refine zr_iload_n dX2_takeBlock_32 rfl ?_
        refine zr_iconst (v := nI 1) dX2_takeBlock_33 (by decide) ?_
        refine zr_iaddN dX2_takeBlock_34 ?_
        refine zr_putI dX2_takeBlock_35 lkX2_45 (by decide) (by decide) rfl rfl (hL.K 17 3) ?_
        refine zr_aload_n dX2_takeBlock_38 rfl ?_
        refine zr_iload_n dX2_takeBlock_39 rfl ?_
        refine zr_as (y := nI (80 + (nx + i) % 512 - 80)) (by rw [Nat.add_sub_cancel_left]) ?_
        refine zr_callV (md' := mX2_mark) (As := [.int (nI (80 + (nx + i) % 512 - 80))]) dX2_takeBlock_40 mlX2_54 okX2_mark rfl inX2_mark slX2_mark (by decide) (hL.K 17 3) rfl (by omega) (Nat.le_of_ble_eq_true rfl) hcb (c_Files_mark (d := d - 1) (b := 80 + (nx + i) % 512) hcb (hL.put _ _ _) (hT.put (by decide)) (fun z => by have := htk.mpr z; omega) (by omega) (by omega) hl) (fun k M1 h => by cases h.1) (fun v M1 hq => ?_)
        obtain ⟨e0, e1⟩ := hq
        cases e0
        rw [e1]
        refine zr_bipush (v := nI 80) dX2_takeBlock_43 (by decide) ?_
        refine zr_iload_n dX2_takeBlock_45 rfl ?_
        refine zr_iaddN dX2_takeBlock_46 ?_
        refine zr_iret dX2_takeBlock_47 rfl ?_
        exact hq0 (80 + (nx + i) % 512) _ (fun z => by have := htk.mpr z; omega) (by omega) (by omega) (by unfold tbM; rw [Nat.add_sub_cancel_left])
set_option maxRecDepth 100000 in
set_option maxHeartbeats 4000000 in
theorem c_Files_takeBlock {G : zG} {ad : Nat → Nat} {d nx : Nat} {tk : List Nat} {M : zM} (hd : 1 ≤ d) (hcb : zC M ≤ 600128 ∧ zS M ≤ 7301098) (hL : Lay ad M) (hT : Tk ad M tk) (hl : tk.length < 512) (hnx : zI M 71 (ad 17) = nI nx) (hn2 : nx ≤ 512)  : zMet G mX2_takeBlock d [.ref ((ad 17))] M (fun o M' => ∃ b, o = .inl (some (.int (nI b))) ∧ b ∉ tk ∧ 80 ≤ b ∧ b < 592 ∧ M' = tbM ad M b (512 - tk.length - 1)) := by
  refine zMet_of (by decide +kernel) (Nat.le_of_ble_eq_true rfl) rfl hcb ?_
  show zw G mX2_takeBlock d _ _ _ 0 [some (.ref ((ad 17))), none, none] [] M
  refine zr_iconst (v := nI 0) dX2_takeBlock_0 (by decide) ?_
  refine zr_istore_n (lv' := [some (.ref ((ad 17))), some (.int (nI 0)), none]) dX2_takeBlock_1 (Nat.le_of_ble_eq_true rfl) (Nat.le_of_ble_eq_true rfl) rfl rfl ?_
  exact l_Files_takeBlock hd hcb hL hT hl hnx hn2 (fun b M' h1 h2 h3 h4 => ⟨b, rfl, h1, h2, h3, h4⟩) _ 0 rfl (by omega) (fun x hx => by omega)
def ttM (ad : Nat → Nat) (M : zM) (j n : Nat) : zM := zput (zput (zput (zput M 260 (ad (tA j)) (nI 1)) 258 (ad (tA j)) (nI 0)) 259 (ad (tA j)) (-1)) 70 (ad 17) (nI n)
theorem Us.add {ad : Nat → Nat} {M : zM} {us : List Nat} {j n : Nat} (hL : Lay ad M) (h : Us ad M us) (hj : j ∉ us) (h1 : j < 256) (hn : n = 256 - us.length - 1) : Us ad (ttM ad M j n) (j :: us) := by
  refine ⟨List.nodup_cons.mpr ⟨hj, h.1⟩, fun x hx => ?_, fun i hi => ?_, ?_⟩
  · rcases List.mem_cons.mp hx with rfl | hx
    · exact h1
    · exact h.2.1 x hx
  · refine zput_ms (by decide) (zput_ms (by decide) (zput_ms (by decide) ?_))
    by_cases e : i = j
    · rw [e, zput_hit, if_pos List.mem_cons_self]
    · refine zput_ma (hL.ne (by unfold tA; omega) (by unfold tA; omega) (by unfold tA; omega)) ?_
      rw [h.2.2.1 i hi]
      congr 2
      simp only [List.mem_cons, eq_iff_iff]
      exact ⟨Or.inr, fun z => z.elim (fun y => absurd y e) id⟩
  · rw [hn]; exact (zput_hit _ _ _ _).trans (by rw [List.length_cons, Nat.sub_sub])
set_option maxRecDepth 100000 in
set_option maxHeartbeats 4000000 in
theorem l_Files_takeTable {G : zG} {ad : Nat → Nat} {d k0 n0 : Nat} {us : List Nat} {M : zM} {Q : zOut → zM → Prop} (hd : 1 ≤ d) (hcb : zC M ≤ 600128 ∧ zS M ≤ 7301098) (hL : Lay ad M) (hU : Us ad M us) (hl : us.length < 256) (hq0 : ∀ j M', j ∉ us → j < 256 → M' = ttM ad M j (256 - us.length - 1) → Q (.inl (some (.ref (ad (tA j))))) M') : ∀ (m i : Nat) , 256 - i = m → i ≤ 256 → (∀ x, x < i → x ∈ us) → zw G mX2_takeTable d k0 n0 Q 2 [some (.ref ((ad 17))), some (.int (nI i))] [] M := by
  intro m
  induction m using Nat.strongRecOn with
  | _ m ih =>
    intro i hm hi ha
    refine zr_iload_n dX2_takeTable_2 rfl ?_
    refine zr_sipush (v := nI 256) dX2_takeTable_3 (by decide) ?_
    refine zr_icmp_geN 63 dX2_takeTable_6 (by decide) (by omega) (by omega) (fun h6 => ?_) (fun h6 => ?_)
    · refine zr_null dX2_takeTable_63 ?_
      refine zr_aret dX2_takeTable_64 rfl (Or.inl ⟨_, rfl⟩) (Or.inl rfl) ?_
      exact (hU.full hl (fun x hx => ha x (by omega))).elim
    · obtain ⟨t, ht, hta, htk⟩ := hU.at (j := i) (by omega)
      refine zr_aload_n dX2_takeTable_9 rfl ?_
      refine zr_getR dX2_takeTable_10 lkX2_21 (by decide) (by decide) rfl (hL.K 17 3) (hL.R 66 17 20) ?_
      refine zr_iload_n dX2_takeTable_13 rfl ?_
      refine zr_aaldK dX2_takeTable_14 (Or.inr (hL.K 20 19)) (hL.N 20 256) (by omega) (by omega) (hL.po (by omega)) ?_
      refine zr_getI dX2_takeTable_15 lkX2_38 (by decide) (by decide) rfl (hL.Kt (by omega)) ?_
      refine zr_as (y := (nI t)) hta ?_
      refine zr_if_neN 57 dX2_takeTable_18 (by decide) (by omega) (fun h18 => ?_) (fun h18 => ?_)
      · refine zr_iincN (n := 1) (lv' := [some (.ref ((ad 17))), some (.int (nI (i + 1)))]) dX2_takeTable_57 (Nat.le_of_ble_eq_true rfl) (Nat.le_of_ble_eq_true rfl) rfl rfl rfl ?_
        refine zr_goto 2 dX2_takeTable_60 (by decide) ?_
        exact ih _ (by omega) (i + 1) rfl (by omega) (fun x hx => (Nat.lt_or_ge x i).elim (fun z => ha x z) (fun z => by rw [show x = i by omega]; exact htk.mp (by omega)))
      · refine zr_aload_n dX2_takeTable_21 rfl ?_
        refine zr_getR dX2_takeTable_22 lkX2_21 (by decide) (by decide) rfl (hL.K 17 3) (hL.R 66 17 20) ?_
        refine zr_iload_n dX2_takeTable_25 rfl ?_
        refine zr_aaldK dX2_takeTable_26 (Or.inr (hL.K 20 19)) (hL.N 20 256) (by omega) (by omega) (hL.po (by omega)) ?_
        refine zr_iconst (v := nI 1) dX2_takeTable_27 (by decide) ?_
        refine zr_putZ dX2_takeTable_28 lkX2_38 (by decide) (by decide) rfl rfl (Or.inr rfl) (hL.Kt (by omega)) ?_
        refine zr_aload_n dX2_takeTable_31 rfl ?_
        refine zr_getR dX2_takeTable_32 lkX2_21 (by decide) (by decide) rfl (hL.K 17 3) (hL.R 66 17 20) ?_
        refine zr_iload_n dX2_takeTable_35 rfl ?_
        refine zr_aaldK dX2_takeTable_36 (Or.inr (hL.K 20 19)) (hL.N 20 256) (by omega) (by omega) (hL.po (by omega)) ?_
        refine zr_callV (md' := mX8_start) (As := []) dX2_takeTable_37 mlX2_58 okX8_start rfl inX8_start slX8_start (by decide) (hL.Kt (by omega)) rfl (by omega) (Nat.le_of_ble_eq_true rfl) hcb (c_Table_start (d := d - 1) hcb (hL.put _ _ _) (by omega)) (fun k M1 h => by cases h.1) (fun v M1 hq => ?_)
        obtain ⟨e0, e1⟩ := hq
        cases e0
        rw [e1]
        refine zr_aload_n dX2_takeTable_40 rfl ?_
        refine zr_dup dX2_takeTable_41 rfl ?_
        refine zr_getI dX2_takeTable_42 lkX2_32 (by decide) (by decide) rfl (hL.K 17 3) ?_
        refine zr_as (y := (nI (256 - us.length))) (zput_ms (by decide) hU.2.2.2) ?_
        refine zr_iconst (v := nI 1) dX2_takeTable_45 (by decide) ?_
        refine zr_isubN dX2_takeTable_46 (by omega) ?_
        refine zr_putI dX2_takeTable_47 lkX2_32 (by decide) (by decide) rfl rfl (hL.K 17 3) ?_
        refine zr_aload_n dX2_takeTable_50 rfl ?_
        refine zr_getR dX2_takeTable_51 lkX2_21 (by decide) (by decide) rfl (hL.K 17 3) (hL.R 66 17 20) ?_
        refine zr_iload_n dX2_takeTable_54 rfl ?_
        refine zr_aaldK dX2_takeTable_55 (Or.inr (hL.K 20 19)) (hL.N 20 256) (by omega) (by omega) (hL.po (by omega)) ?_
        refine zr_aret dX2_takeTable_56 rfl (Or.inl ⟨_, rfl⟩) (Or.inr ⟨_, rfl⟩) ?_
        exact hq0 i _ (fun z => by have := htk.mpr z; omega) (by omega) rfl
set_option maxRecDepth 100000 in
set_option maxHeartbeats 4000000 in
theorem c_Files_takeTable {G : zG} {ad : Nat → Nat} {d : Nat} {us : List Nat} {M : zM} (hd : 1 ≤ d) (hcb : zC M ≤ 600128 ∧ zS M ≤ 7301098) (hL : Lay ad M) (hU : Us ad M us) (hl : us.length < 256)  : zMet G mX2_takeTable d [.ref ((ad 17))] M (fun o M' => ∃ j, o = .inl (some (.ref (ad (tA j)))) ∧ j ∉ us ∧ j < 256 ∧ M' = ttM ad M j (256 - us.length - 1)) := by
  refine zMet_of (by decide +kernel) (Nat.le_of_ble_eq_true rfl) rfl hcb ?_
  show zw G mX2_takeTable d _ _ _ 0 [some (.ref ((ad 17))), none] [] M
  refine zr_iconst (v := nI 0) dX2_takeTable_0 (by decide) ?_
  refine zr_istore_n (lv' := [some (.ref ((ad 17))), some (.int (nI 0))]) dX2_takeTable_1 (Nat.le_of_ble_eq_true rfl) (Nat.le_of_ble_eq_true rfl) rfl rfl ?_
  exact l_Files_takeTable hd hcb hL hU hl (fun j M' h1 h2 h3 => ⟨j, rfl, h1, h2, h3⟩) _ 0 rfl (by omega) (fun x hx => by omega)
def rtM (ad : Nat → Nat) (M : zM) (n j : Nat) : zM := zput (zsetB M (ad 21) (va_up (zB M (ad 21)) n (some (ad (tA j))))) 68 (ad 17) (nI (n + 1))
theorem zsetB_hit (M : zM) (a : Nat) (g : Nat → Option Nat) : zB (zsetB M a g) a = g := va_up_self _ _ _
theorem Rt.add {ad : Nat → Nat} {M : zM} {rt : List Nat} {j : Nat} (h : Rt ad M rt) (hl : rt.length < 256) (hj : j < 256) : Rt ad (rtM ad M rt.length j) (rt ++ [j]) := by
  refine ⟨(zput_hit _ _ _ _).trans (by rw [List.length_append]; rfl), by rw [List.length_append]; exact hl, fun i x hx => ?_⟩
  show x < 256 ∧ zB (zsetB M (ad 21) _) (ad 21) i = _
  rw [zsetB_hit]
  rcases Nat.lt_or_ge i rt.length with e | e
  · rw [List.getElem?_append_left e] at hx
    rw [va_up_ne _ _ (Nat.ne_of_lt e)]
    exact h.2.2 i x hx
  · rw [List.getElem?_append_right e] at hx
    have h0 : i - rt.length = 0 := by
      have := (List.getElem?_eq_some_iff.mp hx).1
      simp at this
      omega
    rw [h0] at hx
    cases hx
    rw [show i = rt.length by omega, va_up_self]
    exact ⟨hj, rfl⟩
set_option maxRecDepth 100000 in
set_option maxHeartbeats 4000000 in
theorem c_Files_retire {G : zG} {ad : Nat → Nat} {d j : Nat} {rt : List Nat} {M : zM} (hcb : zC M ≤ 600128 ∧ zS M ≤ 7301098) (hL : Lay ad M) (hR : Rt ad M rt) (hl : rt.length < 256) (hj : j < 256)  : zMet G mX2_retire d [.ref ((ad 17)), .ref ((ad (tA j)))] M (fun o M' => o = .inl none ∧ M' = rtM ad M rt.length j) := by
  refine zMet_of (by decide +kernel) (Nat.le_of_ble_eq_true rfl) rfl hcb ?_
  show zw G mX2_retire d _ _ _ 0 [some (.ref ((ad 17))), some (.ref ((ad (tA j))))] [] M
  refine zr_aload_n dX2_retire_0 rfl ?_
  refine zr_getI dX2_retire_1 lkX2_42 (by decide) (by decide) rfl (hL.K 17 3) ?_
  refine zr_as (y := (nI rt.length)) hR.1 ?_
  refine zr_sipush (v := nI 256) dX2_retire_4 (by decide) ?_
  refine zr_icmp_geN 30 dX2_retire_7 (by decide) (by omega) (by omega) (fun h7 => ?_) (fun h7 => ?_)
  · refine zr_vret dX2_retire_30 rfl ?_
    first | (exfalso; omega) | exact ⟨rfl, rfl⟩
  · refine zr_aload_n dX2_retire_10 rfl ?_
    refine zr_getR dX2_retire_11 lkX2_25 (by decide) (by decide) rfl (hL.K 17 3) (hL.R 67 17 21) ?_
    refine zr_aload_n dX2_retire_14 rfl ?_
    refine zr_getI dX2_retire_15 lkX2_42 (by decide) (by decide) rfl (hL.K 17 3) ?_
    refine zr_as (y := (nI rt.length)) hR.1 ?_
    refine zr_aload_n dX2_retire_18 rfl ?_
    refine zr_aastN dX2_retire_19 (Or.inr ⟨hL.K 21 19, hL.Kt (by omega)⟩) (hL.N 21 256) (by omega) (by omega) ?_
    refine zr_aload_n dX2_retire_20 rfl ?_
    refine zr_dup dX2_retire_21 rfl ?_
    refine zr_getI dX2_retire_22 lkX2_42 (by decide) (by decide) rfl (hL.K 17 3) ?_
    refine zr_as (y := (nI rt.length)) hR.1 ?_
    refine zr_iconst (v := nI 1) dX2_retire_25 (by decide) ?_
    refine zr_iaddN dX2_retire_26 ?_
    refine zr_putI dX2_retire_27 lkX2_42 (by decide) (by decide) rfl rfl (hL.K 17 3) ?_
    refine zr_vret dX2_retire_30 rfl ?_
    first | (exfalso; omega) | exact ⟨rfl, rfl⟩
