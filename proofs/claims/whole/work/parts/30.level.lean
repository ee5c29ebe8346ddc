/-! ===== LsmStore$Level: reading ===== -/
/-- a file: its table's number, its blocks, the entries of its data blocks -/
abbrev zF : Type := Nat × List Nat × List (List Nat)
def fE (f : zF) : List Nat := f.2.2.flatten
/-- a level in the memory -/
def Lv (ad : Nat → Nat) (M : zM) (l : Nat) (fs : List zF) : Prop := zI M 131 (ad (32 + l)) = nI fs.length ∧ fs.length ≤ 256 ∧ (∀ (i : Nat) (f : zF), fs[i]? = some f → f.1 < 256 ∧ zB M (ad (35 + l)) i = some (ad (tA f.1)) ∧ Tb ad M f.1 f.2.1 (fE f).getLast?) ∧ Tb ad M (256 + l) [] none
/-- what a level holds -/
def LC (D : Nat → Int32) (fs : List zF) : Prop := (∀ f ∈ fs, TC D f.2.1 f.2.2) ∧ fs.Pairwise (fun f g => ∀ p ∈ fE f, ∀ q ∈ fE g, klt (eky D p) (eky D q))
def lvE (fs : List zF) : List Nat := (fs.map fE).flatten
theorem TC.lst {D : Nat → Int32} {bl : List Nat} {css : List (List Nat)} (h : TC D bl css) : ∃ la, css.flatten.getLast? = some la ∧ la ∈ css.flatten ∧ la < 303096 ∧ ecm D la < 2 ^ 31 ∧ (∀ q ∈ css.flatten, q = la ∨ pre D q la) ∧ css.flatten[css.flatten.length - 1]? = some la ∧ 1 ≤ css.flatten.length := by
  have hf := h.first
  obtain ⟨h1, h2, h3, h4, h5, h6, h7, h8, h9⟩ := h
  have hne : css.flatten ≠ [] := by
    intro e
    obtain ⟨b, hb⟩ : ∃ b, bl[0]? = some b := ⟨_, List.getElem?_eq_getElem (by omega)⟩
    unfold sOf at hf
    rw [if_pos (by omega), hb, e] at hf
    cases hf
  have hlen : 1 ≤ css.flatten.length := Nat.pos_of_ne_zero (fun z => hne (List.length_eq_zero_iff.mp z))
  obtain ⟨la, hla⟩ : ∃ la, css.flatten[css.flatten.length - 1]? = some la := ⟨_, List.getElem?_eq_getElem (by omega)⟩
  refine ⟨la, by rw [List.getLast?_eq_getElem?]; exact hla, List.mem_of_getElem? hla, (h6 la (List.mem_of_getElem? hla)).1, (h6 la (List.mem_of_getElem? hla)).2, fun q hq => ?_, hla, hlen⟩
  obtain ⟨j, hj⟩ := List.getElem?_of_mem hq
  have a1 := (List.getElem?_eq_some_iff.mp hj).1
  rcases Nat.lt_or_ge j (css.flatten.length - 1) with e | e
  · exact Or.inr (pw_get h8 e hj hla)
  · rw [show j = css.flatten.length - 1 by omega, hla] at hj; exact Or.inl (Option.some.inj hj).symm
theorem TC.fst {D : Nat → Int32} {bl : List Nat} {css : List (List Nat)} (h : TC D bl css) : ∃ fi, sOf bl 0 = some fi ∧ css.flatten[0]? = some fi ∧ fi ∈ css.flatten ∧ fi < 303096 ∧ ecm D fi < 2 ^ 31 ∧ (∀ q ∈ css.flatten, q = fi ∨ pre D fi q) := by
  have hf := h.first
  obtain ⟨la, -, -, -, -, -, -, hlen⟩ := h.lst
  obtain ⟨h1, h2, h3, h4, h5, h6, h7, h8, h9⟩ := h
  obtain ⟨fi, hfi⟩ : ∃ fi, css.flatten[0]? = some fi := ⟨_, List.getElem?_eq_getElem (by omega)⟩
  refine ⟨fi, hf.trans hfi, hfi, List.mem_of_getElem? hfi, (h6 fi (List.mem_of_getElem? hfi)).1, (h6 fi (List.mem_of_getElem? hfi)).2, fun q hq => ?_⟩
  obtain ⟨j, hj⟩ := List.getElem?_of_mem hq
  rcases Nat.eq_zero_or_pos j with e | e
  · rw [e, hfi] at hj; exact Or.inl (Option.some.inj hj).symm
  · exact Or.inr (pw_get h8 e hfi hj)
theorem pre_klt {D : Nat → Int32} {p q : Nat} (h : pre D p q) : klt (eky D q) (eky D p) → False := by
  intro z
  rcases h with h | ⟨h, -⟩
  · exact klt_irrefl _ (klt_trans _ _ _ h z)
  · rw [h] at z; exact klt_irrefl _ z
theorem LC.srt {D : Nat → Int32} : ∀ {fs : List zF}, LC D fs → (lvE fs).Pairwise (pre D)
  | [], _ => List.Pairwise.nil
  | f :: fs, h => by
    have h2 := List.pairwise_cons.mp h.2
    show (fE f ++ lvE fs).Pairwise (pre D)
    rw [List.pairwise_append]
    refine ⟨(h.1 f List.mem_cons_self).2.2.2.2.2.2.2.1, LC.srt ⟨fun g hg => h.1 g (List.mem_cons_of_mem _ hg), h2.2⟩, fun p hp q hq => ?_⟩
    obtain ⟨c, hc, hq⟩ := List.mem_flatten.mp hq
    obtain ⟨g, hg, rfl⟩ := List.mem_map.mp hc
    exact Or.inl (h2.1 g hg p hp q hq)
theorem lvE_mem {fs : List zF} {q : Nat} : q ∈ lvE fs ↔ ∃ (i : Nat) (f : zF), fs[i]? = some f ∧ q ∈ fE f := by
  unfold lvE
  rw [List.mem_flatten]
  constructor
  · rintro ⟨c, hc, hq⟩
    obtain ⟨g, hg, rfl⟩ := List.mem_map.mp hc
    obtain ⟨i, hi⟩ := List.getElem?_of_mem hg
    exact ⟨i, g, hi, hq⟩
  · rintro ⟨i, f, hf, hq⟩
    exact ⟨fE f, List.mem_map.mpr ⟨f, List.mem_of_getElem? hf, rfl⟩, hq⟩
/-- those of the files whose last entry is before (k, v) are the first n -/
def spt (D : Nat → Int32) (fs : List zF) (k : List Nat) (v n : Nat) : Prop := n ≤ fs.length ∧ ∀ (i : Nat) (f : zF) (la : Nat), fs[i]? = some f → (fE f).getLast? = some la → (bef D la k v ↔ i < n)
theorem spt.low {D : Nat → Int32} {fs : List zF} {k : List Nat} {v n i q : Nat} {f : zF} (hC : LC D fs) (h : spt D fs k v n) (hf : fs[i]? = some f) (hi : i < n) (hq : q ∈ fE f) : bef D q k v := by
  obtain ⟨la, h1, h2, h3, h4, h5, -⟩ := (hC.1 f (List.mem_of_getElem? hf)).lst
  have hb := (h.2 i f la hf h1).mpr hi
  rcases h5 q hq with rfl | z
  · exact hb
  · exact bef_pre z hb
theorem spt.high {D : Nat → Int32} {fs : List zF} {k : List Nat} {v n i q : Nat} {f : zF} (hC : LC D fs) (h : spt D fs k v n) (hf : fs[i]? = some f) (hi : n < i) (hq : q ∈ fE f) : ∃ g la, fs[n]? = some g ∧ (fE g).getLast? = some la ∧ la ∈ fE g ∧ klt (eky D la) (eky D q) ∧ ¬ bef D la k v ∧ ¬ bef D q k v := by
  have hl := (List.getElem?_eq_some_iff.mp hf).1
  obtain ⟨g, hg⟩ : ∃ g, fs[n]? = some g := ⟨_, List.getElem?_eq_getElem (by omega)⟩
  obtain ⟨la, h1, h2, h3, h4, h5, -⟩ := (hC.1 g (List.mem_of_getElem? hg)).lst
  have hb : ¬ bef D la k v := fun z => absurd ((h.2 n g la hg h1).mp z) (Nat.lt_irrefl _)
  have hk := pw_get hC.2 hi hg hf la h2 q hq
  exact ⟨g, la, hg, h1, h2, hk, hb, fun z => hb (bef_pre (Or.inl hk) z)⟩
/-- the first of the level that is not before, out of its file -/
theorem spt.frm {D : Nat → Int32} {fs : List zF} {k : List Nat} {v n : Nat} {g : zF} {x : Option Nat} (hC : LC D fs) (h : spt D fs k v n) (hg : fs[n]? = some g) (hx : Frm D (fE g) k v x) : Frm D (lvE fs) k v x := by
  obtain ⟨la, h1, h2, h3, h4, h5, -⟩ := (hC.1 g (List.mem_of_getElem? hg)).lst
  have hb : ¬ bef D la k v := fun z => absurd ((h.2 n g la hg h1).mp z) (Nat.lt_irrefl _)
  refine ⟨fun p hp => ?_, fun hn => absurd (hx.2 hn la h2) hb⟩
  obtain ⟨a1, a2, a3⟩ := hx.1 p hp
  refine ⟨lvE_mem.mpr ⟨n, g, hg, a1⟩, a2, fun q hq hqb => ?_⟩
  obtain ⟨i, f, hf, hq⟩ := lvE_mem.mp hq
  rcases Nat.lt_trichotomy i n with e | e | e
  · exact absurd (h.low hC hf e hq) hqb
  · rw [e, hg] at hf; cases hf; exact a3 q hq hqb
  · exact Or.inr (Or.inl (pw_get hC.2 e hg hf p a1 q hq))
theorem spt.frmN {D : Nat → Int32} {fs : List zF} {k : List Nat} {v n : Nat} (hC : LC D fs) (h : spt D fs k v n) (hn : fs.length ≤ n) : Frm D (lvE fs) k v none := by
  refine ⟨fun p hp => (by cases hp), fun _ q hq => ?_⟩
  obtain ⟨i, f, hf, hq⟩ := lvE_mem.mp hq
  have := (List.getElem?_eq_some_iff.mp hf).1
  exact h.low hC hf (by omega) hq
/-- a key that its file has not is not in the level -/
theorem spt.hitN {D : Nat → Int32} {fs : List zF} {k : List Nat} {v n : Nat} (hC : LC D fs) (hE : ∀ q ∈ lvE fs, ecm D q < 2 ^ 31) (h : spt D fs k 2147483647 n) (hg : ∀ g, fs[n]? = some g → ∀ q ∈ fE g, eky D q ≠ k) : Hit D (lvE fs) k v none := by
  refine ⟨fun p hp => (by cases hp), fun _ q hq hk => ?_⟩
  exfalso
  have hq9 := hE q hq
  obtain ⟨i, f, hf, hq⟩ := lvE_mem.mp hq
  rcases Nat.lt_trichotomy i n with e | e | e
  · rcases h.low hC hf e hq with z | ⟨-, z⟩
    · rw [hk] at z; exact klt_irrefl _ z
    · omega
  · rw [e] at hf; exact hg f hf q hq hk
  · obtain ⟨g, la, a1, a2, a3, a4, a5, -⟩ := h.high hC hf e hq
    exact a5 (Or.inl (by rw [← hk]; exact a4))
theorem spt.hit {D : Nat → Int32} {fs : List zF} {k : List Nat} {v n : Nat} {g : zF} {x : Option Nat} (hC : LC D fs) (hE : ∀ q ∈ lvE fs, ecm D q < 2 ^ 31) (h : spt D fs k 2147483647 n) (hg : fs[n]? = some g) (hx : Hit D (fE g) k v x) : Hit D (lvE fs) k v x := by
  have key : ∀ q ∈ lvE fs, eky D q = k → q ∈ fE g := fun q hq hk => by
    have hq9 := hE q hq
    obtain ⟨i, f, hf, hq⟩ := lvE_mem.mp hq
    rcases Nat.lt_trichotomy i n with e | e | e
    · exfalso
      rcases h.low hC hf e hq with z | ⟨-, z⟩
      · rw [hk] at z; exact klt_irrefl _ z
      · omega
    · rw [e, hg] at hf; cases hf; exact hq
    · exfalso
      obtain ⟨g, la, a1, a2, a3, a4, a5, -⟩ := h.high hC hf e hq
      exact a5 (Or.inl (by rw [← hk]; exact a4))
  refine ⟨fun p hp => ?_, fun hn q hq hk => hx.2 hn q (key q hq hk) hk⟩
  obtain ⟨a1, a2, a3, a4⟩ := hx.1 p hp
  exact ⟨lvE_mem.mpr ⟨n, g, hg, a1⟩, a2, a3, fun q hq hk hv => a4 q (key q hq hk) hk hv⟩
theorem spt.lst {D : Nat → Int32} {fs : List zF} {k : List Nat} {v n : Nat} {g : zF} {y : Nat} (hC : LC D fs) (h : spt D fs k v n) (hg : fs[n]? = some g) (hx : Lst D (fE g) k v (some y)) : Lst D (lvE fs) k v (some y) := by
  obtain ⟨a1, a2, a3⟩ := hx.1 y rfl
  refine ⟨fun p hp => ?_, fun z => by cases z⟩
  cases hp
  refine ⟨lvE_mem.mpr ⟨n, g, hg, a1⟩, a2, fun q hq hqb => ?_⟩
  obtain ⟨i, f, hf, hq⟩ := lvE_mem.mp hq
  rcases Nat.lt_trichotomy i n with e | e | e
  · exact Or.inr (Or.inl (pw_get hC.2 e hf hg q hq y a1))
  · rw [e, hg] at hf; cases hf; exact a3 q hq hqb
  · obtain ⟨g, la, -, -, -, -, -, a9⟩ := h.high hC hf e hq
    exact absurd hqb a9
theorem spt.lstP {D : Nat → Int32} {fs : List zF} {k : List Nat} {v n : Nat} (hC : LC D fs) (h : spt D fs k v n) (hg : ∀ g, fs[n]? = some g → ∀ q ∈ fE g, ¬ bef D q k v) : (n = 0 → Lst D (lvE fs) k v none) ∧ ∀ f la, 1 ≤ n → fs[n - 1]? = some f → (fE f).getLast? = some la → Lst D (lvE fs) k v (some la) := by
  have hi : ∀ q ∈ lvE fs, bef D q k v → ∃ i f, i < n ∧ fs[i]? = some f ∧ q ∈ fE f := fun q hq hb => by
    obtain ⟨i, f, hf, hq⟩ := lvE_mem.mp hq
    rcases Nat.lt_trichotomy i n with e | e | e
    · exact ⟨i, f, e, hf, hq⟩
    · rw [e] at hf; exact absurd hb (hg f hf q hq)
    · obtain ⟨g, la, -, -, -, -, -, a9⟩ := h.high hC hf e hq
      exact absurd hb a9
  constructor
  · intro h0
    refine ⟨fun p hp => (by cases hp), fun _ q hq hb => ?_⟩
    obtain ⟨i, f, z, -⟩ := hi q hq hb
    omega
  · intro f la h1 hf hla
    obtain ⟨la', b1, b2, b3, b4, b5, -⟩ := (hC.1 f (List.mem_of_getElem? hf)).lst
    cases Option.some.inj (hla.symm.trans b1)
    refine ⟨fun p hp => ?_, fun z => by cases z⟩
    cases hp
    refine ⟨lvE_mem.mpr ⟨n - 1, f, hf, b2⟩, h.low hC hf (by omega) b2, fun q hq hb => ?_⟩
    obtain ⟨i, f', z, hf', hq'⟩ := hi q hq hb
    rcases Nat.lt_or_ge i (n - 1) with e | e
    · exact Or.inr (Or.inl (pw_get hC.2 e hf' hf q hq' la b2))
    · rw [show i = n - 1 by omega, hf] at hf'; cases hf'; exact b5 q hq'
set_option maxRecDepth 100000 in
set_option maxHeartbeats 4000000 in
theorem c_Level_table {G : zG} {ad : Nat → Nat} {d l i : Nat} {fs : List zF} {f : zF} {M : zM} (hcb : zC M ≤ 600128 ∧ zS M ≤ 7301098) (hL : Lay ad M) (hl : l < 3) (hV : Lv ad M l fs) (hf : fs[i]? = some f)  : zMet G mX4_table d [.ref ((ad (32 + l))), .int (nI i)] M (fun o M' => o = .inl (some (.ref (ad (tA f.1)))) ∧ M' = M) := by
  refine zMet_of (by decide +kernel) (Nat.le_of_ble_eq_true rfl) rfl hcb ?_
  show zw G mX4_table d _ _ _ 0 [some (.ref ((ad (32 + l)))), some (.int (nI i))] [] M
  obtain ⟨hv1, hv2, hv3, hv4⟩ := id hV
  have hfl := (List.getElem?_eq_some_iff.mp hf).1
  obtain ⟨hf1, hb, hTb⟩ := hv3 i f hf
  refine zr_iload_n dX4_table_0 rfl ?_
  refine zr_if_ltN 28 dX4_table_1 (by decide) (by omega) ?_
  refine zr_iload_n dX4_table_4 rfl ?_
  refine zr_aload_n dX4_table_5 rfl ?_
  refine zr_getI dX4_table_6 lkX4_31 (by decide) (by decide) rfl (hL.Kl hl) ?_
  refine zr_as (y := (nI fs.length)) hv1 ?_
  refine zr_icmp_geN 28 dX4_table_9 (by decide) (by omega) (by omega) (fun h9 => ?_) (fun h9 => ?_)
  · refine zr_aload_n dX4_table_28 rfl ?_
    refine zr_getR dX4_table_29 lkX4_24 (by decide) (by decide) rfl (hL.Kl hl) (hL.lo hl) ?_
    refine zr_aret dX4_table_32 rfl (Or.inl ⟨_, rfl⟩) (Or.inr ⟨_, rfl⟩) ?_
    first | (exfalso; omega) | exact ⟨rfl, rfl⟩
  · refine zr_iload_n dX4_table_12 rfl ?_
    refine zr_sipush (v := nI 256) dX4_table_13 (by decide) ?_
    refine zr_icmp_geN 28 dX4_table_16 (by decide) (by omega) (by omega) (fun h16 => ?_) (fun h16 => ?_)
    · refine zr_aload_n dX4_table_28 rfl ?_
      refine zr_getR dX4_table_29 lkX4_24 (by decide) (by decide) rfl (hL.Kl hl) (hL.lo hl) ?_
      refine zr_aret dX4_table_32 rfl (Or.inl ⟨_, rfl⟩) (Or.inr ⟨_, rfl⟩) ?_
      first | (exfalso; omega) | exact ⟨rfl, rfl⟩
    · refine zr_aload_n dX4_table_19 rfl ?_
      refine zr_getR dX4_table_20 lkX4_11 (by decide) (by decide) rfl (hL.Kl hl) (hL.lt hl) ?_
      refine zr_iload_n dX4_table_23 rfl ?_
      refine zr_aaldK dX4_table_24 (Or.inr (hL.Kla hl)) (hL.Nla hl) (by omega) (by omega) hb ?_
      refine zr_ifnonnull 33 dX4_table_25 (by decide) ?_
      refine zr_aload_n dX4_table_33 rfl ?_
      refine zr_getR dX4_table_34 lkX4_11 (by decide) (by decide) rfl (hL.Kl hl) (hL.lt hl) ?_
      refine zr_iload_n dX4_table_37 rfl ?_
      refine zr_aaldK dX4_table_38 (Or.inr (hL.Kla hl)) (hL.Nla hl) (by omega) (by omega) hb ?_
      refine zr_aret dX4_table_39 rfl (Or.inl ⟨_, rfl⟩) (Or.inr ⟨_, rfl⟩) ?_
      first | (exfalso; omega) | exact ⟨rfl, rfl⟩
set_option maxRecDepth 100000 in
set_option maxHeartbeats 4000000 in
theorem c_Level_tableO {G : zG} {ad : Nat → Nat} {d l i : Nat} {fs : List zF} {M : zM} (hcb : zC M ≤ 600128 ∧ zS M ≤ 7301098) (hL : Lay ad M) (hl : l < 3) (hV : Lv ad M l fs) (hi : fs.length ≤ i) (hi2 : i < 2 ^ 31)  : zMet G mX4_table d [.ref ((ad (32 + l))), .int (nI i)] M (fun o M' => o = .inl (some (.ref (ad (tA (256 + l))))) ∧ M' = M) := by
  refine zMet_of (by decide +kernel) (Nat.le_of_ble_eq_true rfl) rfl hcb ?_
  show zw G mX4_table d _ _ _ 0 [some (.ref ((ad (32 + l)))), some (.int (nI i))] [] M
  obtain ⟨hv1, hv2, hv3, hv4⟩ := id hV
  refine zr_iload_n dX4_table_0 rfl ?_
  refine zr_if_ltN 28 dX4_table_1 (by decide) (by omega) ?_
  refine zr_iload_n dX4_table_4 rfl ?_
  refine zr_aload_n dX4_table_5 rfl ?_
  refine zr_getI dX4_table_6 lkX4_31 (by decide) (by decide) rfl (hL.Kl hl) ?_
  refine zr_as (y := (nI fs.length)) hv1 ?_
  refine zr_icmp_geN 28 dX4_table_9 (by decide) (by omega) (by omega) (fun h9 => ?_) (fun h9 => ?_)
  · refine zr_aload_n dX4_table_28 rfl ?_
    refine zr_getR dX4_table_29 lkX4_24 (by decide) (by decide) rfl (hL.Kl hl) (hL.lo hl) ?_
    refine zr_aret dX4_table_32 rfl (Or.inl ⟨_, rfl⟩) (Or.inr ⟨_, rfl⟩) ?_
    exact ⟨rfl, rfl⟩
  · exfalso; omega
set_option maxRecDepth 100000 in
set_option maxHeartbeats 4000000 in
theorem c_Level_tableM {G : zG} {ad : Nat → Nat} {d l : Nat} {fs : List zF} {M : zM} (hcb : zC M ≤ 600128 ∧ zS M ≤ 7301098) (hL : Lay ad M) (hl : l < 3) (hV : Lv ad M l fs)  : zMet G mX4_table d [.ref ((ad (32 + l))), .int ((-1))] M (fun o M' => o = .inl (some (.ref (ad (tA (256 + l))))) ∧ M' = M) := by
  refine zMet_of (by decide +kernel) (Nat.le_of_ble_eq_true rfl) rfl hcb ?_
  show zw G mX4_table d _ _ _ 0 [some (.ref ((ad (32 + l)))), some (.int ((-1)))] [] M
  obtain ⟨hv1, hv2, hv3, hv4⟩ := id hV
  refine zr_iload_n dX4_table_0 rfl ?_
  refine zr_if_ltM 28 dX4_table_1 (by decide) ?_
  refine zr_aload_n dX4_table_28 rfl ?_
  refine zr_getR dX4_table_29 lkX4_24 (by decide) (by decide) rfl (hL.Kl hl) (hL.lo hl) ?_
  refine zr_aret dX4_table_32 rfl (Or.inl ⟨_, rfl⟩) (Or.inr ⟨_, rfl⟩) ?_
  exact ⟨rfl, rfl⟩
theorem spt_pre {D : Nat → Int32} {fs : List zF} {i j la lb : Nat} {f g : zF} (hC : LC D fs) (hij : i < j) (hf : fs[i]? = some f) (hg : fs[j]? = some g) (hla : (fE f).getLast? = some la) (hlb : (fE g).getLast? = some lb) : pre D la lb := by
  obtain ⟨la', a1, a2, -⟩ := (hC.1 f (List.mem_of_getElem? hf)).lst
  obtain ⟨lb', b1, b2, -⟩ := (hC.1 g (List.mem_of_getElem? hg)).lst
  cases Option.some.inj (hla.symm.trans a1)
  cases Option.some.inj (hlb.symm.trans b1)
  exact Or.inl (pw_get hC.2 hij hf hg la a2 lb b2)
set_option maxRecDepth 100000 in
set_option maxHeartbeats 4000000 in
theorem l_Level_tableFrom {G : zG} {ad : Nat → Nat} {d k0 n0 l v r rc len cap : Nat} {fs : List zF} {M : zM} {Q : zOut → zM → Prop} (hd : 2 ≤ d) (hcb : zC M ≤ 600128 ∧ zS M ≤ 7301098) (hL : Lay ad M) (hl : l < 3) (hV : Lv ad M l fs) (hC : LC (zA M (ad 2)) fs) (hw : zRw M r rc len cap) (hvb : v < 2 ^ 31) (hq : ∀ n : Nat, spt (zA M (ad 2)) fs (rwl (zA M rc) len) v n → Q (.inl (some (.int (nI n)))) M) : ∀ (m lo hi i : Nat), hi - lo = m → lo ≤ hi → hi ≤ fs.length → i + (hi - lo) ≤ 256 → (∀ (j : Nat) (f : zF) (la : Nat), j < lo → fs[j]? = some f → (fE f).getLast? = some la → bef (zA M (ad 2)) la (rwl (zA M rc) len) v) → (∀ (j : Nat) (f : zF) (la : Nat), hi ≤ j → fs[j]? = some f → (fE f).getLast? = some la → ¬ bef (zA M (ad 2)) la (rwl (zA M rc) len) v) → zw G mX4_tableFrom d k0 n0 Q 11 [some (.ref ((ad (32 + l)))), some (.ref r), some (.int (nI v)), some (.int (nI lo)), some (.int (nI hi)), some (.int (nI i)), none] [] M := by
  intro m
  induction m using Nat.strongRecOn with
  | _ m ih =>
    intro lo hi i hm h1 h2 h3 hlo hhi
    obtain ⟨hv1, hv2, hv3, hv4⟩ := id hV
    obtain ⟨gK, gR, gKb, gNb, gI, gl, gc⟩ := id hw
    refine zr_iload dX4_tableFrom_11 rfl ?_
    refine zr_sipush (v := nI 256) dX4_tableFrom_13 (by decide) ?_
    refine zr_icmp_geN 72 dX4_tableFrom_16 (by decide) (by omega) (by omega) (fun h16 => ?_) (fun h16 => ?_)
    · refine zr_iload_n dX4_tableFrom_72 rfl ?_
      refine zr_iret dX4_tableFrom_73 rfl ?_
      have e9 : lo = hi := by omega
      subst e9
      exact hq lo ⟨by omega, fun j g lb hj hgl => ⟨fun z => Nat.not_le.mp (fun y => hhi j g lb y hj hgl z), fun z => hlo j g lb z hj hgl⟩⟩
    · refine zr_iload_n dX4_tableFrom_19 rfl ?_
      refine zr_iload dX4_tableFrom_20 rfl ?_
      refine zr_icmp_geN 72 dX4_tableFrom_22 (by decide) (by omega) (by omega) (fun h22 => ?_) (fun h22 => ?_)
      · refine zr_iload_n dX4_tableFrom_72 rfl ?_
        refine zr_iret dX4_tableFrom_73 rfl ?_
        have e9 : lo = hi := by omega
        subst e9
        exact hq lo ⟨by omega, fun j g lb hj hgl => ⟨fun z => Nat.not_le.mp (fun y => hhi j g lb y hj hgl z), fun z => hlo j g lb z hj hgl⟩⟩
      · refine zr_iload_n dX4_tableFrom_25 rfl ?_
        refine zr_iload dX4_tableFrom_26 rfl ?_
        refine zr_iaddN dX4_tableFrom_28 ?_
        refine zr_iconst (v := nI 2) dX4_tableFrom_29 (by decide) ?_
        refine zr_idivN dX4_tableFrom_30 (by omega) (by omega) (by omega) ?_
        refine zr_istore (lv' := [some (.ref ((ad (32 + l)))), some (.ref r), some (.int (nI v)), some (.int (nI lo)), some (.int (nI hi)), some (.int (nI i)), some (.int (nI ((lo + hi) / 2)))]) dX4_tableFrom_31 (Nat.le_of_ble_eq_true rfl) (Nat.le_of_ble_eq_true rfl) rfl rfl ?_
        obtain ⟨f, hf⟩ : ∃ f, fs[(lo + hi) / 2]? = some f := ⟨_, List.getElem?_eq_getElem (by omega)⟩
        obtain ⟨hf1, -, hT1, hT2, hT3, hT4⟩ := hv3 _ f hf
        obtain ⟨la, hla, hla2, hla3, hla4, hla5, -⟩ := (hC.1 f (List.mem_of_getElem? hf)).lst
        refine zr_aload_n dX4_tableFrom_33 rfl ?_
        refine zr_getR dX4_tableFrom_34 lkX4_17 (by decide) (by decide) rfl (hL.Kl hl) (hL.ld hl) ?_
        refine zr_aload_n dX4_tableFrom_37 rfl ?_
        refine zr_iload dX4_tableFrom_38 rfl ?_
        refine zr_callV (md' := mX4_table) (As := [.int (nI ((lo + hi) / 2))]) dX4_tableFrom_40 mlX4_41 okX4_table rfl inX4_table slX4_table (by decide) (hL.Kl hl) rfl (by omega) (Nat.le_of_ble_eq_true rfl) hcb (c_Level_table (d := d - 1) hcb hL hl hV hf) (fun k M1 h => by cases h.1) (fun v M1 hq => ?_)
        obtain ⟨e0, e1⟩ := hq
        cases e0
        rw [e1]
        refine zr_getI dX4_tableFrom_43 lkX4_50 (by decide) (by decide) rfl (hL.Kt (by omega)) ?_
        refine zr_as (y := (nI la)) (hT4.trans (congrArg zvi hla)) ?_
        refine zr_aload_n dX4_tableFrom_46 rfl ?_
        refine zr_iload_n dX4_tableFrom_47 rfl ?_
        refine zr_callV (md' := mX1_isBefore) (As := [.int (nI la), .ref r, .int (nI v)]) dX4_tableFrom_48 mlX4_89 okX1_isBefore rfl inX1_isBefore slX1_isBefore (by decide) (hL.K 1 2) rfl (by omega) (Nat.le_of_ble_eq_true rfl) hcb (c_Disk_isBefore (d := d - 1) (by omega) hcb hL.dk hw hla3 hla4 hvb) (fun k M1 h => by obtain ⟨-, t, -, h, -⟩ := h; cases h) (fun v M1 hq => ?_)
        obtain ⟨e1, t, ht, e0, htk⟩ := hq
        cases e0
        rw [e1]
        refine zr_if_eqN 62 dX4_tableFrom_51 (by decide) (by omega) (fun h51 => ?_) (fun h51 => ?_)
        · refine zr_iload dX4_tableFrom_62 rfl ?_
          refine zr_istore (lv' := [some (.ref ((ad (32 + l)))), some (.ref r), some (.int (nI v)), some (.int (nI lo)), some (.int (nI ((lo + hi) / 2))), some (.int (nI i)), some (.int (nI ((lo + hi) / 2)))]) dX4_tableFrom_64 (Nat.le_of_ble_eq_true rfl) (Nat.le_of_ble_eq_true rfl) rfl rfl ?_
          refine zr_iincN (n := 1) (lv' := [some (.ref ((ad (32 + l)))), some (.ref r), some (.int (nI v)), some (.int (nI lo)), some (.int (nI ((lo + hi) / 2))), some (.int (nI (i + 1))), some (.int (nI ((lo + hi) / 2)))]) dX4_tableFrom_66 (Nat.le_of_ble_eq_true rfl) (Nat.le_of_ble_eq_true rfl) rfl rfl rfl ?_
          refine zr_goto 11 dX4_tableFrom_69 (by decide) ?_
          refine zr_drop 6 rfl ?_
          exact ih _ (by omega) lo (((lo + hi) / 2)) (i + 1) rfl (by omega) (by omega) (by omega) hlo (fun j g lb hj hjq hgl => (Nat.lt_or_ge ((lo + hi) / 2) j).elim (fun y z => absurd (htk.mpr (bef_pre (spt_pre hC y hf hjq hla hgl) z)) (by omega)) (fun y => by rw [show j = (lo + hi) / 2 by omega, hf] at hjq; cases hjq; cases Option.some.inj (hla.symm.trans hgl); exact fun z => absurd (htk.mpr z) (by omega)))
        · refine zr_iload dX4_tableFrom_54 rfl ?_
          refine zr_iconst (v := nI 1) dX4_tableFrom_56 (by decide) ?_
          refine zr_iaddN dX4_tableFrom_57 ?_
          refine zr_istore_n (lv' := [some (.ref ((ad (32 + l)))), some (.ref r), some (.int (nI v)), some (.int (nI (((lo + hi) / 2) + 1))), some (.int (nI hi)), some (.int (nI i)), some (.int (nI ((lo + hi) / 2)))]) dX4_tableFrom_58 (Nat.le_of_ble_eq_true rfl) (Nat.le_of_ble_eq_true rfl) rfl rfl ?_
          refine zr_goto 66 dX4_tableFrom_59 (by decide) ?_
          refine zr_iincN (n := 1) (lv' := [some (.ref ((ad (32 + l)))), some (.ref r), some (.int (nI v)), some (.int (nI (((lo + hi) / 2) + 1))), some (.int (nI hi)), some (.int (nI (i + 1))), some (.int (nI ((lo + hi) / 2)))]) dX4_tableFrom_66 (Nat.le_of_ble_eq_true rfl) (Nat.le_of_ble_eq_true rfl) rfl rfl rfl ?_
          refine zr_goto 11 dX4_tableFrom_69 (by decide) ?_
          refine zr_drop 6 rfl ?_
          exact ih _ (by omega) ((((lo + hi) / 2) + 1)) hi (i + 1) rfl (by omega) (by omega) (by omega) (fun j g lb hj hjq hgl => (Nat.lt_or_ge j ((lo + hi) / 2)).elim (fun y => bef_pre (spt_pre hC y hjq hf hgl hla) (htk.mp (by omega))) (fun y => by rw [show j = (lo + hi) / 2 by omega, hf] at hjq; cases hjq; cases Option.some.inj (hla.symm.trans hgl); exact htk.mp (by omega))) hhi
set_option maxRecDepth 100000 in
set_option maxHeartbeats 4000000 in
theorem c_Level_tableFrom {G : zG} {ad : Nat → Nat} {d l v r rc len cap : Nat} {fs : List zF} {M : zM} (hd : 2 ≤ d) (hcb : zC M ≤ 600128 ∧ zS M ≤ 7301098) (hL : Lay ad M) (hl : l < 3) (hV : Lv ad M l fs) (hC : LC (zA M (ad 2)) fs) (hw : zRw M r rc len cap) (hvb : v < 2 ^ 31)  : zMet G mX4_tableFrom d [.ref ((ad (32 + l))), .ref r, .int (nI v)] M (fun o M' => M' = M ∧ ∃ n : Nat, o = .inl (some (.int (nI n))) ∧ spt (zA M (ad 2)) fs (rwl (zA M rc) len) v n) := by
  refine zMet_of (by decide +kernel) (Nat.le_of_ble_eq_true rfl) rfl hcb ?_
  show zw G mX4_tableFrom d _ _ _ 0 [some (.ref ((ad (32 + l)))), some (.ref r), some (.int (nI v)), none, none, none, none] [] M
  obtain ⟨hv1, hv2, hv3, hv4⟩ := id hV
  refine zr_iconst (v := nI 0) dX4_tableFrom_0 (by decide) ?_
  refine zr_istore_n (lv' := [some (.ref ((ad (32 + l)))), some (.ref r), some (.int (nI v)), some (.int (nI 0)), none, none, none]) dX4_tableFrom_1 (Nat.le_of_ble_eq_true rfl) (Nat.le_of_ble_eq_true rfl) rfl rfl ?_
  refine zr_aload_n dX4_tableFrom_2 rfl ?_
  refine zr_getI dX4_tableFrom_3 lkX4_31 (by decide) (by decide) rfl (hL.Kl hl) ?_
  refine zr_as (y := (nI fs.length)) hv1 ?_
  refine zr_istore (lv' := [some (.ref ((ad (32 + l)))), some (.ref r), some (.int (nI v)), some (.int (nI 0)), some (.int (nI fs.length)), none, none]) dX4_tableFrom_6 (Nat.le_of_ble_eq_true rfl) (Nat.le_of_ble_eq_true rfl) rfl rfl ?_
  refine zr_iconst (v := nI 0) dX4_tableFrom_8 (by decide) ?_
  refine zr_istore (lv' := [some (.ref ((ad (32 + l)))), some (.ref r), some (.int (nI v)), some (.int (nI 0)), some (.int (nI fs.length)), some (.int (nI 0)), none]) dX4_tableFrom_9 (Nat.le_of_ble_eq_true rfl) (Nat.le_of_ble_eq_true rfl) rfl rfl ?_
  exact l_Level_tableFrom hd hcb hL hl hV hC hw hvb (fun n h => ⟨rfl, n, rfl, h⟩) _ 0 fs.length 0 rfl (by omega) (by omega) (by omega) (fun j f la h => by omega) (fun j f la h hf => by have := (List.getElem?_eq_some_iff.mp hf).1; omega)
set_option maxRecDepth 100000 in
set_option maxHeartbeats 4000000 in
theorem c_Table_lastBefore0 {G : zG} {ad : Nat → Nat} {d j v r rc len cap : Nat} {la : Option Nat} {M : zM} (hcb : zC M ≤ 600128 ∧ zS M ≤ 7301098) (hL : Lay ad M) (hj : j < 259) (hT : Tb ad M j [] la) (hw : zRw M r rc len cap)  : zMet G mX8_lastBefore d [.ref ((ad (tA j))), .ref r, .int (nI v)] M (fun o M' => o = .inl (some (.int (-1))) ∧ M' = M) := by
  refine zMet_of (by decide +kernel) (Nat.le_of_ble_eq_true rfl) rfl hcb ?_
  show zw G mX8_lastBefore d _ _ _ 0 [some (.ref ((ad (tA j)))), some (.ref r), some (.int (nI v)), none, none, none] [] M
  obtain ⟨gK, gR, gKb, gNb, gI, gl, gc⟩ := id hw
  refine zr_iconst (v := -1) dX8_lastBefore_0 (by decide) ?_
  refine zr_istore_n (lv' := [some (.ref ((ad (tA j)))), some (.ref r), some (.int (nI v)), some (.int ((-1))), none, none]) dX8_lastBefore_1 (Nat.le_of_ble_eq_true rfl) (Nat.le_of_ble_eq_true rfl) rfl rfl ?_
  refine zr_iconst (v := nI 0) dX8_lastBefore_2 (by decide) ?_
  refine zr_istore (lv' := [some (.ref ((ad (tA j)))), some (.ref r), some (.int (nI v)), some (.int ((-1))), some (.int (nI 0)), none]) dX8_lastBefore_3 (Nat.le_of_ble_eq_true rfl) (Nat.le_of_ble_eq_true rfl) rfl rfl ?_
  refine zr_iload dX8_lastBefore_5 rfl ?_
  refine zr_aload_n dX8_lastBefore_7 rfl ?_
  refine zr_getI dX8_lastBefore_8 lkX8_19 (by decide) (by decide) rfl (hL.Kt hj) ?_
  refine zr_as (y := (nI 0)) hT.1 ?_
  refine zr_iconst (v := nI 1) dX8_lastBefore_11 (by decide) ?_
  refine zr_isub dX8_lastBefore_12 ?_
  refine zr_as (y := -1) (by decide) ?_
  refine zr_icmp_ge 57 dX8_lastBefore_13 (by decide) (fun h13 => ?_) (fun h13 => ?_)
  · refine zr_iconst (v := nI 0) dX8_lastBefore_57 (by decide) ?_
    refine zr_istore (lv' := [some (.ref ((ad (tA j)))), some (.ref r), some (.int (nI v)), some (.int ((-1))), some (.int (nI 0)), none]) dX8_lastBefore_58 (Nat.le_of_ble_eq_true rfl) (Nat.le_of_ble_eq_true rfl) rfl rfl ?_
    refine zr_iload dX8_lastBefore_60 rfl ?_
    refine zr_sipush (v := nI 512) dX8_lastBefore_62 (by decide) ?_
    refine zr_icmp_geN 114 dX8_lastBefore_65 (by decide) (by omega) (by omega) (fun h65 => ?_) (fun h65 => ?_)
    · refine zr_iload_n dX8_lastBefore_114 rfl ?_
      refine zr_iret dX8_lastBefore_115 rfl ?_
      exact ⟨rfl, rfl⟩
    · refine zr_iload_n dX8_lastBefore_68 rfl ?_
      refine zr_iconst (v := -1) dX8_lastBefore_69 (by decide) ?_
      refine zr_icmp_eqMM 114 dX8_lastBefore_70 (by decide) ?_
      refine zr_iload_n dX8_lastBefore_114 rfl ?_
      refine zr_iret dX8_lastBefore_115 rfl ?_
      exact ⟨rfl, rfl⟩
  · exact absurd (by decide) h13
