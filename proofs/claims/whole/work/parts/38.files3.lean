/-! ===== LsmStore$Files: strayBlocks ===== -/
/-- the blocks of files -/
def bk (fs : List zF) : List Nat := (fs.map (·.2.1)).flatten
theorem bk_take {fs : List zF} {i : Nat} {f : zF} (h : fs[i]? = some f) : bk (fs.take (i + 1)) = bk (fs.take i) ++ f.2.1 := by
  unfold bk
  rw [List.take_succ, h, List.map_append, List.flatten_append]
  simp
theorem Tc.add {g : Nat → Int32} {b : Nat} {tk : List Nat} (h : Tc g tk) (hb : b ∉ tk) (h1 : 80 ≤ b) (h2 : b < 592) : Tc (upd g (b - 80) (nI 1)) (tk ++ [b]) := by
  refine ⟨⟨fun x hx => ?_, ?_⟩, fun i hi => ?_⟩
  · rcases List.mem_append.mp hx with hx | hx
    · exact h.1.1 x hx
    · cases List.mem_singleton.mp hx; exact ⟨h1, h2⟩
  · exact List.nodup_append.mpr ⟨h.1.2, List.pairwise_singleton _ _, fun x hx y hy e => by cases List.mem_singleton.mp hy; exact hb (e ▸ hx)⟩
  · unfold upd
    by_cases e : i = b - 80
    · rw [if_pos e, if_pos (by rw [show 80 + i = b by omega]; simp)]
    · rw [if_neg e, h.2 i hi]
      congr 2
      simp only [List.mem_append, List.mem_singleton, eq_iff_iff]
      exact ⟨Or.inl, fun z => z.elim id (fun y => by omega)⟩
set_option maxRecDepth 100000 in
set_option maxHeartbeats 4000000 in
theorem l_Files_own {G : zG} {ad : Nat → Nat} {d k0 n0 j : Nat} {bl P : List Nat} {la : Option Nat} {M : zM} {Q : zOut → zM → Prop} (hcb : zC M ≤ 600128 ∧ zS M ≤ 7301098) (hL : Lay ad M) (hj : j < 259) (hTb : Tb ad M j bl la) (hBr : Br (P ++ bl)) (hq0 : ∀ g : Nat → Int32, Tc g (P ++ bl) → Q (.inl (some (.int (nI 0)))) (zsetA M (ad 19) g)) : ∀ (m i : Nat) (g : Nat → Int32), bl.length - i = m → i ≤ bl.length → Tc g (P ++ bl.take i) → zw G mX2_own d k0 n0 Q 4 [some (.ref ((ad 17))), some (.ref ((ad (tA j)))), some (.int (nI 0)), some (.int (nI i)), none] [] (zsetA M (ad 19) g) := by
  intro m
  induction m using Nat.strongRecOn with
  | _ m ih =>
    intro i g hm hi hO
    have hbl := hTb.2.1
    refine zr_iload_n dX2_own_4 rfl ?_
    refine zr_aload_n dX2_own_5 rfl ?_
    refine zr_getI dX2_own_6 lkX2_65 (by decide) (by decide) rfl (hL.Kt hj) ?_
    refine zr_as (y := (nI bl.length)) hTb.1 ?_
    refine zr_icmp_geN 59 dX2_own_9 (by decide) (by omega) (by omega) (fun h9 => ?_) (fun h9 => ?_)
    · refine zr_iload_n dX2_own_59 rfl ?_
      refine zr_iret dX2_own_60 rfl ?_
      have e9 : bl.take i = bl := List.take_of_length_le (by omega)
      rw [e9] at hO
      exact hq0 g hO
    · obtain ⟨b, hb⟩ : ∃ b, bl[i]? = some b := ⟨_, List.getElem?_eq_getElem (by omega)⟩
      have hbm := List.mem_of_getElem? hb
      have hb8 := hBr.1 b (List.mem_append_right _ hbm)
      have hbn : b ∉ P ++ bl.take i := by
        intro z
        rcases List.mem_append.mp z with z | z
        · exact (List.nodup_append.mp hBr.2).2.2 b z b hbm rfl
        · obtain ⟨x, hx⟩ := List.getElem?_of_mem z
          have hxl := (List.getElem?_eq_some_iff.mp hx).1
          rw [List.length_take] at hxl
          rw [List.getElem?_take_of_lt (by omega)] at hx
          have := pw_get (List.nodup_append.mp hBr.2).2.1 (show x < i by omega) hx hb
          exact this rfl
      refine zr_aload_n dX2_own_12 rfl ?_
      refine zr_getR dX2_own_13 lkX2_68 (by decide) (by decide) rfl (hL.Kt hj) (hL.tb hj) ?_
      refine zr_iload_n dX2_own_16 rfl ?_
      refine zr_ialdN dX2_own_17 (hL.Kb hj) (hL.Nb hj) (by omega) (by omega) ?_
      refine zr_as (y := (nI b)) ((congrFun (zsetA_ms (M := M) (hL.ne (by unfold tB; omega) (by unfold tB; omega)) rfl) i).trans (hTb.2.2.1 i b hb)) ?_
      refine zr_bipush (v := nI 80) dX2_own_18 (by decide) ?_
      refine zr_isubN dX2_own_20 (by omega) ?_
      refine zr_istore (lv' := [some (.ref ((ad 17))), some (.ref ((ad (tA j)))), some (.int (nI 0)), some (.int (nI i)), some (.int (nI (b - 80)))]) dX2_own_21 (Nat.le_of_ble_eq_true rfl) (Nat.le_of_ble_eq_true rfl) rfl rfl ?_
      refine zr_iload dX2_own_23 rfl ?_
      refine zr_if_ltN 50 dX2_own_25 (by decide) (by omega) ?_
      refine zr_iload dX2_own_28 rfl ?_
      refine zr_sipush (v := nI 512) dX2_own_30 (by decide) ?_
      refine zr_icmp_geN 50 dX2_own_33 (by decide) (by omega) (by omega) (fun h33 => ?_) (fun h33 => ?_)
      · exfalso; omega
      · refine zr_aload_n dX2_own_36 rfl ?_
        refine zr_getR dX2_own_37 lkX2_15 (by decide) (by decide) rfl (hL.K 17 3) (hL.R 65 17 19) ?_
        refine zr_iload dX2_own_40 rfl ?_
        refine zr_dup2 dX2_own_42 rfl rfl ?_
        refine zr_ialdN dX2_own_43 (hL.K 19 15) (hL.N 19 512) (by omega) (by omega) ?_
        refine zr_as (y := (nI 0)) ((congrFun (zsetA_hit _ _ _) _).trans ((hO.2 (b - 80) (by omega)).trans (by rw [if_neg (by rw [show 80 + (b - 80) = b by omega]; exact hbn)]))) ?_
        refine zr_iconst (v := nI 1) dX2_own_44 (by decide) ?_
        refine zr_iaddN dX2_own_45 ?_
        refine zr_iastN dX2_own_46 (hL.K 19 15) (hL.N 19 512) (by omega) (by omega) ?_
        refine zr_goto 53 dX2_own_47 (by decide) ?_
        refine zr_iincN (n := 1) (lv' := [some (.ref ((ad 17))), some (.ref ((ad (tA j)))), some (.int (nI 0)), some (.int (nI (i + 1))), some (.int (nI (b - 80)))]) dX2_own_53 (Nat.le_of_ble_eq_true rfl) (Nat.le_of_ble_eq_true rfl) rfl rfl rfl ?_
        refine zr_goto 4 dX2_own_56 (by decide) ?_
        refine zr_drop 4 rfl ?_
        rw [zsetA_setA, zsetA_hit]
        exact ih _ (by omega) (i + 1) _ rfl (by omega) (by rw [List.take_succ, hb, ← List.append_assoc]; exact hO.add hbn hb8.1 hb8.2)
set_option maxRecDepth 100000 in
set_option maxHeartbeats 4000000 in
theorem c_Files_own {G : zG} {ad : Nat → Nat} {d j : Nat} {bl P : List Nat} {la : Option Nat} {M : zM} (hcb : zC M ≤ 600128 ∧ zS M ≤ 7301098) (hL : Lay ad M) (hj : j < 259) (hTb : Tb ad M j bl la) (hBr : Br (P ++ bl)) (hO : Tc (zA M (ad 19)) P)  : zMet G mX2_own d [.ref ((ad 17)), .ref ((ad (tA j)))] M (fun o M' => o = .inl (some (.int (nI 0))) ∧ ∃ g : Nat → Int32, M' = zsetA M (ad 19) g ∧ Tc g (P ++ bl)) := by
  refine zMet_of (by decide +kernel) (Nat.le_of_ble_eq_true rfl) rfl hcb ?_
  show zw G mX2_own d _ _ _ 0 [some (.ref ((ad 17))), some (.ref ((ad (tA j)))), none, none, none] [] M
  refine zr_iconst (v := nI 0) dX2_own_0 (by decide) ?_
  refine zr_istore_n (lv' := [some (.ref ((ad 17))), some (.ref ((ad (tA j)))), some (.int (nI 0)), none, none]) dX2_own_1 (Nat.le_of_ble_eq_true rfl) (Nat.le_of_ble_eq_true rfl) rfl rfl ?_
  refine zr_iconst (v := nI 0) dX2_own_2 (by decide) ?_
  refine zr_istore_n (lv' := [some (.ref ((ad 17))), some (.ref ((ad (tA j)))), some (.int (nI 0)), some (.int (nI 0)), none]) dX2_own_3 (Nat.le_of_ble_eq_true rfl) (Nat.le_of_ble_eq_true rfl) rfl rfl ?_
  refine zr_asM (M' := zsetA M (ad 19) (zA M (ad 19))) (zsetA_self rfl).symm ?_
  exact l_Files_own hcb hL hj hTb hBr (fun g h => ⟨rfl, g, rfl, h⟩) _ 0 _ rfl (by omega) (by rw [List.take_zero, List.append_nil]; exact hO)
theorem Lv.ow {ad : Nat → Nat} {M : zM} {l : Nat} {fs : List zF} {g : Nat → Int32} (hL : Lay ad M) (h : Lv ad M l fs) (hl : l < 3) : Lv ad (zsetA M (ad 19) g) l fs := h.fl ((Fl.refl ad [] [19] [] M).setA hL (i := 19)) hl
def bks (Ls : Nat → List zF) : Nat → List Nat
  | 0 => []
  | l + 1 => bks Ls l ++ bk (Ls l)
theorem Br.left {a b : List Nat} (h : Br (a ++ b)) : Br a := ⟨fun x hx => h.1 x (List.mem_append_left _ hx), (List.nodup_append.mp h.2).1⟩
theorem Br.sub {a b : List Nat} (h : Br b) (hs : a.Sublist b) : Br a := ⟨fun x hx => h.1 x (hs.subset hx), h.2.sublist hs⟩
theorem bk_sub {fs : List zF} (i : Nat) : (bk (fs.take i)).Sublist (bk fs) := by
  have : bk fs = bk (fs.take i) ++ bk (fs.drop i) := by
    unfold bk
    rw [← List.flatten_append, ← List.map_append, List.take_append_drop]
  rw [this]
  exact List.sublist_append_left _ _
theorem bks_le {Ls : Nat → List zF} {i k : Nat} (h : i ≤ k) : (bks Ls i).Sublist (bks Ls k) := by
  induction k with
  | zero => rw [show i = 0 by omega]; exact List.Sublist.refl _
  | succ k ih =>
    rcases Nat.lt_or_ge i (k + 1) with e | e
    · exact (ih (by omega)).trans (List.sublist_append_left _ _)
    · rw [show i = k + 1 by omega]; exact List.Sublist.refl _
set_option maxRecDepth 100000 in
set_option maxHeartbeats 4000000 in
theorem l_Files_stray1 {G : zG} {ad : Nat → Nat} {d k0 n0 : Nat} {M : zM} {Q : zOut → zM → Prop} (hL : Lay ad M) (hk : ∀ (g : Nat → Int32) (i : Nat), (∀ x, x < 512 → g x = nI 0) → zw G mX2_strayBlocks d k0 n0 Q 22 [some (.ref ((ad 17))), some (.ref ((ad 22))), some (.int (nI i)), none, none] [] (zsetA M (ad 19) g)) : ∀ (m i : Nat) (g : Nat → Int32), 512 - i = m → i ≤ 512 → (∀ x, x < i → g x = nI 0) → zw G mX2_strayBlocks d k0 n0 Q 2 [some (.ref ((ad 17))), some (.ref ((ad 22))), some (.int (nI i)), none, none] [] (zsetA M (ad 19) g) := by
  intro m
  induction m using Nat.strongRecOn with
  | _ m ih =>
    intro i g hm hi hg
    refine zr_iload_n dX2_strayBlocks_2 rfl ?_
    refine zr_sipush (v := nI 512) dX2_strayBlocks_3 (by decide) ?_
    refine zr_icmp_geN 22 dX2_strayBlocks_6 (by decide) (by omega) (by omega) (fun h6 => ?_) (fun h6 => ?_)
    · exact hk g i (fun x hx => hg x (by omega))
    · refine zr_aload_n dX2_strayBlocks_9 rfl ?_
      refine zr_getR dX2_strayBlocks_10 lkX2_15 (by decide) (by decide) rfl (hL.K 17 3) (hL.R 65 17 19) ?_
      refine zr_iload_n dX2_strayBlocks_13 rfl ?_
      refine zr_iconst (v := nI 0) dX2_strayBlocks_14 (by decide) ?_
      refine zr_iastN dX2_strayBlocks_15 (hL.K 19 15) (hL.N 19 512) (by omega) (by omega) ?_
      refine zr_iincN (n := 1) (lv' := [some (.ref ((ad 17))), some (.ref ((ad 22))), some (.int (nI (i + 1))), none, none]) dX2_strayBlocks_16 (Nat.le_of_ble_eq_true rfl) (Nat.le_of_ble_eq_true rfl) rfl rfl rfl ?_
      refine zr_goto 2 dX2_strayBlocks_19 (by decide) ?_
      rw [zsetA_setA, zsetA_hit]
      exact ih _ (by omega) (i + 1) _ rfl (by omega) (fun x hx => by unfold upd; exact if h : x = i then if_pos h else (if_neg h).trans (hg x (by omega)))
set_option maxRecDepth 100000 in
set_option maxHeartbeats 4000000 in
theorem l_Files_stray2 {G : zG} {ad : Nat → Nat} {d k0 n0 l : Nat} {P : List Nat} {fs : List zF} {M : zM} {Q : zOut → zM → Prop} (hd : 1 ≤ d) (hcb : zC M ≤ 600128 ∧ zS M ≤ 7301098) (hL : Lay ad M) (hl : l < 3) (hV : Lv ad M l fs) (hBr : Br (P ++ bk fs)) (hk : ∀ g : Nat → Int32, Tc g (P ++ bk fs) → zw G mX2_strayBlocks d k0 n0 Q 67 [some (.ref ((ad 17))), some (.ref ((ad 22))), some (.int (nI 0)), some (.int (nI l)), none] [] (zsetA M (ad 19) g)) : ∀ (m n : Nat) (g : Nat → Int32), fs.length - n = m → n ≤ fs.length → Tc g (P ++ bk (fs.take n)) → zw G mX2_strayBlocks d k0 n0 Q 35 [some (.ref ((ad 17))), some (.ref ((ad 22))), some (.int (nI 0)), some (.int (nI l)), some (.int (nI n))] [] (zsetA M (ad 19) g) := by
  intro m
  induction m using Nat.strongRecOn with
  | _ m ih =>
    intro n g hm hn hO
    have hfl := hV.2.1
    refine zr_iload dX2_strayBlocks_35 rfl ?_
    refine zr_aload_n dX2_strayBlocks_37 rfl ?_
    refine zr_iload_n dX2_strayBlocks_38 rfl ?_
    refine zr_aaldK dX2_strayBlocks_39 (Or.inl (hL.K 22 18)) (hL.N 22 3) (by omega) (by omega) (hL.lv hl) ?_
    refine zr_getI dX2_strayBlocks_40 lkX2_71 (by decide) (by decide) rfl (hL.Kl hl) ?_
    refine zr_as (y := (nI fs.length)) hV.1 ?_
    refine zr_icmp_geN 67 dX2_strayBlocks_43 (by decide) (by omega) (by omega) (fun h43 => ?_) (fun h43 => ?_)
    · have e9 : fs.take n = fs := List.take_of_length_le (by omega)
      rw [e9] at hO
      refine zr_drop 4 rfl ?_
      exact hk g hO
    · obtain ⟨f, hf⟩ : ∃ f, fs[n]? = some f := ⟨_, List.getElem?_eq_getElem (by omega)⟩
      have hf1 := (hV.2.2.1 n f hf).1
      refine zr_iload_n dX2_strayBlocks_46 rfl ?_
      refine zr_aload_n dX2_strayBlocks_47 rfl ?_
      refine zr_aload_n dX2_strayBlocks_48 rfl ?_
      refine zr_iload_n dX2_strayBlocks_49 rfl ?_
      refine zr_aaldK dX2_strayBlocks_50 (Or.inl (hL.K 22 18)) (hL.N 22 3) (by omega) (by omega) (hL.lv hl) ?_
      refine zr_iload dX2_strayBlocks_51 rfl ?_
      refine zr_callVN (md' := mX4_table) (As := [.int (nI n)]) dX2_strayBlocks_53 mlX2_74 okX4_table rfl inX4_table slX4_table (by decide) (hL.Kl hl) rfl (by omega) (Nat.le_of_ble_eq_true rfl) hcb (c_Level_table (d := d - 1) (M := (zsetA M (ad 19) g)) hcb hL hl (hV.ow hL hl) hf) (fun k M1 h => by cases h.1) (fun v M1 hq => ?_)
      obtain ⟨e0, e1⟩ := hq
      cases e0
      rw [e1]
      refine zr_callV (md' := mX2_own) (As := [.ref ((ad (tA f.1)))]) dX2_strayBlocks_56 mlX2_78 okX2_own rfl inX2_own slX2_own (by decide) (hL.K 17 3) rfl (by omega) (Nat.le_of_ble_eq_true rfl) hcb (c_Files_own (d := d - 1) (M := (zsetA M (ad 19) g)) (P := P ++ bk (fs.take n)) hcb hL (by omega) ((hV.ow hL hl).2.2.1 n f hf).2.2 (by rw [List.append_assoc, ← bk_take hf]; exact hBr.sub (List.Sublist.append (List.Sublist.refl _) (bk_sub _))) (by rw [zsetA_hit]; exact hO)) (fun k M1 h => by cases h.1) (fun v M1 hq => ?_)
      obtain ⟨e0, g1, e1, hO1⟩ := hq
      cases e0
      rw [e1, zsetA_setA]
      refine zr_iaddN dX2_strayBlocks_59 ?_
      refine zr_istore_n (lv' := [some (.ref ((ad 17))), some (.ref ((ad 22))), some (.int (nI (0 + 0))), some (.int (nI l)), some (.int (nI n))]) dX2_strayBlocks_60 (Nat.le_of_ble_eq_true rfl) (Nat.le_of_ble_eq_true rfl) rfl rfl ?_
      refine zr_iincN (n := 1) (lv' := [some (.ref ((ad 17))), some (.ref ((ad 22))), some (.int (nI (0 + 0))), some (.int (nI l)), some (.int (nI (n + 1)))]) dX2_strayBlocks_61 (Nat.le_of_ble_eq_true rfl) (Nat.le_of_ble_eq_true rfl) rfl rfl rfl ?_
      refine zr_goto 35 dX2_strayBlocks_64 (by decide) ?_
      exact ih _ (by omega) (n + 1) g1 rfl (by omega) (by rw [bk_take hf, ← List.append_assoc]; exact hO1)
set_option maxRecDepth 100000 in
set_option maxHeartbeats 4000000 in
theorem l_Files_stray3 {G : zG} {ad : Nat → Nat} {d k0 n0 : Nat} {Ls : Nat → List zF} {M : zM} {Q : zOut → zM → Prop} (hd : 1 ≤ d) (hcb : zC M ≤ 600128 ∧ zS M ≤ 7301098) (hL : Lay ad M) (hV : ∀ l, l < 3 → Lv ad M l (Ls l)) (hBr : Br (bks Ls 3)) (hk : ∀ g : Nat → Int32, Tc g (bks Ls 3) → zw G mX2_strayBlocks d k0 n0 Q 73 [some (.ref ((ad 17))), some (.ref ((ad 22))), some (.int (nI 0)), some (.int (nI 3)), none] [] (zsetA M (ad 19) g)) : ∀ (m l : Nat) (g : Nat → Int32), 3 - l = m → l ≤ 3 → Tc g (bks Ls l) → zw G mX2_strayBlocks d k0 n0 Q 26 [some (.ref ((ad 17))), some (.ref ((ad 22))), some (.int (nI 0)), some (.int (nI l)), none] [] (zsetA M (ad 19) g) := by
  intro m
  induction m using Nat.strongRecOn with
  | _ m ih =>
    intro l g hm hl3 hO
    refine zr_iload_n dX2_strayBlocks_26 rfl ?_
    refine zr_aload_n dX2_strayBlocks_27 rfl ?_
    refine zr_alenN dX2_strayBlocks_28 (hL.K 22 18) (by decide) (hL.N 22 3) ?_
    refine zr_icmp_geN 73 dX2_strayBlocks_29 (by decide) (by omega) (by omega) (fun h29 => ?_) (fun h29 => ?_)
    · have e9 : l = 3 := by omega
      subst e9
      exact hk g hO
    · refine zr_iconst (v := nI 0) dX2_strayBlocks_32 (by decide) ?_
      refine zr_istore (lv' := [some (.ref ((ad 17))), some (.ref ((ad 22))), some (.int (nI 0)), some (.int (nI l)), some (.int (nI 0))]) dX2_strayBlocks_33 (Nat.le_of_ble_eq_true rfl) (Nat.le_of_ble_eq_true rfl) rfl rfl ?_
      refine l_Files_stray2 hd hcb hL (by omega) (hV l (by omega)) (hBr.sub (bks_le (i := l + 1) (by omega))) (fun g1 hO1 => ?_) _ 0 g rfl (by omega) (by rw [List.take_zero]; show Tc g (bks Ls l ++ []); rw [List.append_nil]; exact hO)
      refine zr_iincN (n := 1) (lv' := [some (.ref ((ad 17))), some (.ref ((ad 22))), some (.int (nI 0)), some (.int (nI (l + 1))), none]) dX2_strayBlocks_67 (Nat.le_of_ble_eq_true rfl) (Nat.le_of_ble_eq_true rfl) rfl rfl rfl ?_
      refine zr_goto 26 dX2_strayBlocks_70 (by decide) ?_
      exact ih _ (by omega) (l + 1) g1 rfl (by omega) hO1
set_option maxRecDepth 100000 in
set_option maxHeartbeats 4000000 in
theorem l_Files_stray4 {G : zG} {ad : Nat → Nat} {d k0 n0 : Nat} {tk : List Nat} {g : Nat → Int32} {M : zM} {Q : zOut → zM → Prop} (hcb : zC M ≤ 600128 ∧ zS M ≤ 7301098) (hL : Lay ad M) (hT : Tk ad M tk) (hO : Tc g tk) (hq0 : Q (.inl (some (.int (nI 0)))) (zsetA M (ad 19) g)) : ∀ (m i : Nat), 512 - i = m → i ≤ 512 → zw G mX2_strayBlocks d k0 n0 Q 75 [some (.ref ((ad 17))), some (.ref ((ad 22))), some (.int (nI 0)), some (.int (nI i)), none] [] (zsetA M (ad 19) g) := by
  intro m
  induction m using Nat.strongRecOn with
  | _ m ih =>
    intro i hm hi
    refine zr_iload_n dX2_strayBlocks_75 rfl ?_
    refine zr_sipush (v := nI 512) dX2_strayBlocks_76 (by decide) ?_
    refine zr_icmp_geN 122 dX2_strayBlocks_79 (by decide) (by omega) (by omega) (fun h79 => ?_) (fun h79 => ?_)
    · refine zr_iload_n dX2_strayBlocks_122 rfl ?_
      refine zr_iret dX2_strayBlocks_123 rfl ?_
      exact hq0
    · obtain ⟨t, ht, hta, htk⟩ := hT.at (i := i) (by omega)
      have hgi := hO.2 i (by omega)
      refine zr_aload_n dX2_strayBlocks_82 rfl ?_
      refine zr_getR dX2_strayBlocks_83 lkX2_9 (by decide) (by decide) rfl (hL.K 17 3) (hL.R 64 17 18) ?_
      refine zr_iload_n dX2_strayBlocks_86 rfl ?_
      refine zr_zaldN dX2_strayBlocks_87 (hL.K 18 16) (hL.N 18 512) (by omega) (by omega) ?_
      refine zr_as (y := (nI t)) ((congrFun (zsetA_ms (M := M) (hL.ne (by decide)) rfl) i).trans hta) ?_
      refine zr_if_eqN 104 dX2_strayBlocks_88 (by decide) (by omega) (fun h88 => ?_) (fun h88 => ?_)
      · rw [if_neg (fun z => by have := htk.mpr z; omega)] at hgi
        refine zr_aload_n dX2_strayBlocks_104 rfl ?_
        refine zr_getR dX2_strayBlocks_105 lkX2_15 (by decide) (by decide) rfl (hL.K 17 3) (hL.R 65 17 19) ?_
        refine zr_iload_n dX2_strayBlocks_108 rfl ?_
        refine zr_ialdN dX2_strayBlocks_109 (hL.K 19 15) (hL.N 19 512) (by omega) (by omega) ?_
        refine zr_as (y := (nI 0)) ((congrFun (zsetA_hit _ _ _) i).trans hgi) ?_
        refine zr_if_eq 116 dX2_strayBlocks_110 (by decide) (fun h110 => ?_) (fun h110 => absurd rfl h110)
        refine zr_iincN (n := 1) (lv' := [some (.ref ((ad 17))), some (.ref ((ad 22))), some (.int (nI 0)), some (.int (nI (i + 1))), none]) dX2_strayBlocks_116 (Nat.le_of_ble_eq_true rfl) (Nat.le_of_ble_eq_true rfl) rfl rfl rfl ?_
        refine zr_goto 75 dX2_strayBlocks_119 (by decide) ?_
        exact ih _ (by omega) (i + 1) rfl (by omega)
      · rw [if_pos (htk.mp (by omega))] at hgi
        refine zr_aload_n dX2_strayBlocks_91 rfl ?_
        refine zr_getR dX2_strayBlocks_92 lkX2_15 (by decide) (by decide) rfl (hL.K 17 3) (hL.R 65 17 19) ?_
        refine zr_iload_n dX2_strayBlocks_95 rfl ?_
        refine zr_ialdN dX2_strayBlocks_96 (hL.K 19 15) (hL.N 19 512) (by omega) (by omega) ?_
        refine zr_as (y := (nI 1)) ((congrFun (zsetA_hit _ _ _) i).trans hgi) ?_
        refine zr_iconst (v := nI 1) dX2_strayBlocks_97 (by decide) ?_
        refine zr_icmp_eqN 116 dX2_strayBlocks_98 (by decide) (by omega) (by omega) (fun h98 => ?_) (fun h98 => ?_)
        · refine zr_iincN (n := 1) (lv' := [some (.ref ((ad 17))), some (.ref ((ad 22))), some (.int (nI 0)), some (.int (nI (i + 1))), none]) dX2_strayBlocks_116 (Nat.le_of_ble_eq_true rfl) (Nat.le_of_ble_eq_true rfl) rfl rfl rfl ?_
          refine zr_goto 75 dX2_strayBlocks_119 (by decide) ?_
          exact ih _ (by omega) (i + 1) rfl (by omega)
        · exact absurd rfl h98
set_option maxRecDepth 100000 in
set_option maxHeartbeats 4000000 in
theorem c_Files_strayBlocks {G : zG} {ad : Nat → Nat} {d : Nat} {tk : List Nat} {Ls : Nat → List zF} {M : zM} (hd : 1 ≤ d) (hcb : zC M ≤ 600128 ∧ zS M ≤ 7301098) (hL : Lay ad M) (hV : ∀ l, l < 3 → Lv ad M l (Ls l)) (hT : Tk ad M tk) (hp : tk.Perm (bks Ls 3)) (hBr : Br (bks Ls 3))  : zMet G mX2_strayBlocks d [.ref ((ad 17)), .ref ((ad 22))] M (fun o M' => o = .inl (some (.int (nI 0))) ∧ ∃ g : Nat → Int32, M' = zsetA M (ad 19) g) := by
  refine zMet_of (by decide +kernel) (Nat.le_of_ble_eq_true rfl) rfl hcb ?_
  show zw G mX2_strayBlocks d _ _ _ 0 [some (.ref ((ad 17))), some (.ref ((ad 22))), none, none, none] [] M
  refine zr_iconst (v := nI 0) dX2_strayBlocks_0 (by decide) ?_
  refine zr_istore_n (lv' := [some (.ref ((ad 17))), some (.ref ((ad 22))), some (.int (nI 0)), none, none]) dX2_strayBlocks_1 (Nat.le_of_ble_eq_true rfl) (Nat.le_of_ble_eq_true rfl) rfl rfl ?_
  refine zr_asM (M' := zsetA M (ad 19) (zA M (ad 19))) (zsetA_self rfl).symm ?_
  refine l_Files_stray1 hL (fun g0 i hg => ?_) _ 0 _ rfl (by omega) (fun x hx => by omega)
  refine zr_iconst (v := nI 0) dX2_strayBlocks_22 (by decide) ?_
  refine zr_istore_n (lv' := [some (.ref ((ad 17))), some (.ref ((ad 22))), some (.int (nI 0)), none, none]) dX2_strayBlocks_23 (Nat.le_of_ble_eq_true rfl) (Nat.le_of_ble_eq_true rfl) rfl rfl ?_
  refine zr_iconst (v := nI 0) dX2_strayBlocks_24 (by decide) ?_
  refine zr_istore_n (lv' := [some (.ref ((ad 17))), some (.ref ((ad 22))), some (.int (nI 0)), some (.int (nI 0)), none]) dX2_strayBlocks_25 (Nat.le_of_ble_eq_true rfl) (Nat.le_of_ble_eq_true rfl) rfl rfl ?_
  refine l_Files_stray3 hd hcb hL hV hBr (fun g hO => ?_) _ 0 g0 rfl (by omega) ⟨⟨fun b hb => (by cases hb), List.nodup_nil⟩, fun x hx => by rw [if_neg (by simp [bks])]; exact hg x hx⟩
  refine zr_iconst (v := nI 0) dX2_strayBlocks_73 (by decide) ?_
  refine zr_istore_n (lv' := [some (.ref ((ad 17))), some (.ref ((ad 22))), some (.int (nI 0)), some (.int (nI 0)), none]) dX2_strayBlocks_74 (Nat.le_of_ble_eq_true rfl) (Nat.le_of_ble_eq_true rfl) rfl rfl ?_
  exact l_Files_stray4 hcb hL (hT.perm hp) hO ⟨rfl, g, rfl⟩ _ 0 rfl (by omega)
