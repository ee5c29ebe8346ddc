/-! ===== LsmStore$Files: clear, free, strayBlocks ===== -/
def tkM (ad : Nat → Nat) (M : zM) (g : Nat → Int32) (n : Nat) : zM := zput (zsetA M (ad 18) g) 69 (ad 17) (nI n)
def Tc (g : Nat → Int32) (tk : List Nat) : Prop := Br tk ∧ ∀ i, i < 512 → g i = nI (if 80 + i ∈ tk then 1 else 0)
theorem tkM_tk {ad : Nat → Nat} {M : zM} {g : Nat → Int32} {tk : List Nat} (h : Tc g tk) : Tk ad (tkM ad M g (512 - tk.length)) tk := ⟨h.1, fun i hi => (congrFun (zsetA_hit _ _ _) i).trans (h.2 i hi), zput_hit _ _ _ _⟩
theorem tkM_self {ad : Nat → Nat} {M : zM} {tk : List Nat} (h : Tk ad M tk) : tkM ad M (zA M (ad 18)) (512 - tk.length) = M := by
  unfold tkM
  rw [zsetA_self rfl, zput_self h.2.2]
theorem Tk.tc {ad : Nat → Nat} {M : zM} {tk : List Nat} (h : Tk ad M tk) : Tc (zA M (ad 18)) tk := ⟨h.1, h.2.1⟩
theorem Tk.perm {ad : Nat → Nat} {M : zM} {tk tk' : List Nat} (h : Tk ad M tk) (hp : tk.Perm tk') : Tk ad M tk' := ⟨⟨fun b hb => h.1.1 b (hp.mem_iff.mpr hb), hp.nodup_iff.mp h.1.2⟩, fun i hi => (h.2.1 i hi).trans (if e : 80 + i ∈ tk then (by rw [if_pos e, if_pos (hp.mem_iff.mp e)]) else (by rw [if_neg e, if_neg (fun z => e (hp.mem_iff.mpr z))])), by rw [h.2.2, hp.length_eq]⟩
theorem Us.perm {ad : Nat → Nat} {M : zM} {us us' : List Nat} (h : Us ad M us) (hp : us.Perm us') : Us ad M us' := ⟨hp.nodup_iff.mp h.1, fun b hb => h.2.1 b (hp.mem_iff.mpr hb), fun i hi => (h.2.2.1 i hi).trans (if e : i ∈ us then (by rw [if_pos e, if_pos (hp.mem_iff.mp e)]) else (by rw [if_neg e, if_neg (fun z => e (hp.mem_iff.mpr z))])), by rw [h.2.2.2, hp.length_eq]⟩
theorem Tc.drop {g : Nat → Int32} {b : Nat} {tk : List Nat} (h : Tc g (b :: tk)) : Tc (upd g (b - 80) (nI 0)) tk := by
  have hb := h.1.1 b List.mem_cons_self
  have hn := List.nodup_cons.mp h.1.2
  refine ⟨⟨fun x hx => h.1.1 x (List.mem_cons_of_mem _ hx), hn.2⟩, fun i hi => ?_⟩
  unfold upd
  by_cases e : i = b - 80
  · rw [if_pos e, if_neg (by rw [show 80 + i = b by omega]; exact hn.1)]
  · rw [if_neg e, h.2 i hi]
    congr 2
    simp only [List.mem_cons, eq_iff_iff]
    exact ⟨fun z => z.elim (fun y => by omega) id, Or.inr⟩
theorem Tk.fl {ad : Nat → Nat} {c : Nat} {LF LA LB : List Nat} {M M1 : zM} {tk : List Nat} (h : Tk ad M tk) (hF : Fl ad c LF LA LB M M1) (h1 : 69 ∉ LF := by decide) (h2 : 18 ∉ LA := by decide) : Tk ad M1 tk := ⟨h.1, fun i hi => (congrFun (hF.rA (i := 18) h2 (by decide)) i).trans (h.2.1 i hi), (hF.rI h1 (by decide)).trans h.2.2⟩
theorem Us.fl {ad : Nat → Nat} {c : Nat} {LF LA LB : List Nat} {M M1 : zM} {us : List Nat} (h : Us ad M us) (hF : Fl ad c LF LA LB M M1) (h1 : 70 ∉ LF := by decide) (h2 : 260 ∉ LF := by decide) : Us ad M1 us := ⟨h.1, h.2.1, fun i hi => (hF.rI h2 (by unfold tA; omega)).trans (h.2.2.1 i hi), (hF.rI h1 (by decide)).trans h.2.2.2⟩
theorem Rt.fl {ad : Nat → Nat} {c : Nat} {LF LA LB : List Nat} {M M1 : zM} {rt : List Nat} (h : Rt ad M rt) (hF : Fl ad c LF LA LB M M1) (h1 : 68 ∉ LF := by decide) (h2 : 21 ∉ LB := by decide) : Rt ad M1 rt := ⟨(hF.rI h1 (by decide)).trans h.1, h.2.1, fun i j hi => ⟨(h.2.2 i j hi).1, (congrFun (hF.rB h2 (by decide)) i).trans (h.2.2 i j hi).2⟩⟩
theorem Tb.fl {ad : Nat → Nat} {c : Nat} {LF LA LB : List Nat} {M M1 : zM} {j : Nat} {bl : List Nat} {la : Option Nat} (h : Tb ad M j bl la) (hF : Fl ad c LF LA LB M M1) (hj : j < 259) (h1 : 258 ∉ LF := by decide) (h2 : 259 ∉ LF := by decide) (h3 : 64 ∉ LA := by decide) : Tb ad M1 j bl la := ⟨(hF.rI h1 (by unfold tA; omega)).trans h.1, h.2.1, fun i q hi => (congrFun (hF.rA (by unfold tB; rw [Nat.min_eq_right (by omega)]; exact h3) (by unfold tB; omega)) i).trans (h.2.2.1 i q hi), (hF.rI h2 (by unfold tA; omega)).trans h.2.2.2⟩
theorem Lv.fl {ad : Nat → Nat} {c : Nat} {LF LA LB : List Nat} {M M1 : zM} {l : Nat} {fs : List zF} (h : Lv ad M l fs) (hF : Fl ad c LF LA LB M M1) (hl : l < 3) (h0 : 131 ∉ LF := by decide) (h1 : 258 ∉ LF := by decide) (h2 : 259 ∉ LF := by decide) (h3 : 64 ∉ LA := by decide) (h4 : 35 ∉ LB ∧ 36 ∉ LB ∧ 37 ∉ LB := by decide) : Lv ad M1 l fs :=
  ⟨(hF.rI h0 (by omega)).trans h.1, h.2.1, fun i f hf => ⟨(h.2.2.1 i f hf).1, (congrFun (hF.rB (fun z => (show l = 0 ∨ l = 1 ∨ l = 2 by omega).elim (fun e => h4.1 (by rw [e] at z; exact z)) (fun y => y.elim (fun e => h4.2.1 (by rw [e] at z; exact z)) (fun e => h4.2.2 (by rw [e] at z; exact z)))) (by omega)) i).trans (h.2.2.1 i f hf).2.1, (h.2.2.1 i f hf).2.2.fl hF (by have := (h.2.2.1 i f hf).1; omega) h1 h2 h3⟩, h.2.2.2.fl hF (by omega) h1 h2 h3⟩
set_option maxRecDepth 100000 in
set_option maxHeartbeats 4000000 in
theorem l_Files_clear1 {G : zG} {ad : Nat → Nat} {d k0 n0 : Nat} {M : zM} {Q : zOut → zM → Prop} (hL : Lay ad M) (hk : ∀ (g : Nat → Int32) (i : Nat), (∀ x, x < 512 → g x = nI 0) → zw G mX2_clear d k0 n0 Q 22 [some (.ref ((ad 17))), some (.int (nI i))] [] (zsetA M (ad 18) g)) : ∀ (m i : Nat) (g : Nat → Int32), 512 - i = m → i ≤ 512 → (∀ x, x < i → g x = nI 0) → zw G mX2_clear d k0 n0 Q 2 [some (.ref ((ad 17))), some (.int (nI i))] [] (zsetA M (ad 18) g) := by
  intro m
  induction m using Nat.strongRecOn with
  | _ m ih =>
    intro i g hm hi hg
    refine zr_iload_n dX2_clear_2 rfl ?_
    refine zr_sipush (v := nI 512) dX2_clear_3 (by decide) ?_
    refine zr_icmp_geN 22 dX2_clear_6 (by decide) (by omega) (by omega) (fun h6 => ?_) (fun h6 => ?_)
    · exact hk g i (fun x hx => hg x (by omega))
    · refine zr_aload_n dX2_clear_9 rfl ?_
      refine zr_getR dX2_clear_10 lkX2_9 (by decide) (by decide) rfl (hL.K 17 3) (hL.R 64 17 18) ?_
      refine zr_iload_n dX2_clear_13 rfl ?_
      refine zr_iconst (v := nI 0) dX2_clear_14 (by decide) ?_
      refine zr_zastN dX2_clear_15 (hL.K 18 16) (hL.N 18 512) (by omega) (by omega) (Or.inl rfl) ?_
      refine zr_iincN (n := 1) (lv' := [some (.ref ((ad 17))), some (.int (nI (i + 1)))]) dX2_clear_16 (Nat.le_of_ble_eq_true rfl) (Nat.le_of_ble_eq_true rfl) rfl rfl rfl ?_
      refine zr_goto 2 dX2_clear_19 (by decide) ?_
      rw [zsetA_setA, zsetA_hit]
      exact ih _ (by omega) (i + 1) _ rfl (by omega) (fun x hx => by unfold upd; exact if h : x = i then if_pos h else (if_neg h).trans (hg x (by omega)))
set_option maxRecDepth 100000 in
set_option maxHeartbeats 4000000 in
theorem l_Files_clear2 {G : zG} {ad : Nat → Nat} {d k0 n0 : Nat} {g : Nat → Int32} {M : zM} {Q : zOut → zM → Prop} (hcb : zC M ≤ 600128 ∧ zS M ≤ 7301098) (hL : Lay ad M) (hg : ∀ x, x < 512 → g x = nI 0) (hq0 : ∀ M' : zM, Fl ad 0 [68, 69, 70, 260] [18] [] M M' → Tk ad M' [] → Us ad M' [] → Rt ad M' [] → Q (.inl none) M') : ∀ (m i : Nat) (M1 : zM), 256 - i = m → i ≤ 256 → Fl ad 0 [260] [18] [] M M1 → (∀ x, x < i → zI M1 260 (ad (tA x)) = nI 0) → zA M1 (ad 18) = g → zw G mX2_clear d k0 n0 Q 24 [some (.ref ((ad 17))), some (.int (nI i))] [] M1 := by
  intro m
  induction m using Nat.strongRecOn with
  | _ m ih =>
    intro i M1 hm hi hF hu hA
    have hL1 := hF.lay hL
    have hcb1 := hF.cb hcb
    refine zr_iload_n dX2_clear_24 rfl ?_
    refine zr_sipush (v := nI 256) dX2_clear_25 (by decide) ?_
    refine zr_icmp_geN 47 dX2_clear_28 (by decide) (by omega) (by omega) (fun h28 => ?_) (fun h28 => ?_)
    · refine zr_aload_n dX2_clear_47 rfl ?_
      refine zr_sipush (v := nI 512) dX2_clear_48 (by decide) ?_
      refine zr_putI dX2_clear_51 lkX2_28 (by decide) (by decide) rfl rfl (hL1.K 17 3) ?_
      refine zr_aload_n dX2_clear_54 rfl ?_
      refine zr_sipush (v := nI 256) dX2_clear_55 (by decide) ?_
      refine zr_putI dX2_clear_58 lkX2_32 (by decide) (by decide) rfl rfl (hL1.K 17 3) ?_
      refine zr_aload_n dX2_clear_61 rfl ?_
      refine zr_iconst (v := nI 0) dX2_clear_62 (by decide) ?_
      refine zr_putI dX2_clear_63 lkX2_42 (by decide) (by decide) rfl rfl (hL1.K 17 3) ?_
      refine zr_vret dX2_clear_66 rfl ?_
      refine hq0 _ ?_ ?_ ?_ ?_
      · exact (((hF.mono).put hL (f := 69) (i := 17)).put hL (f := 70) (i := 17)).put hL (f := 68) (i := 17)
      · refine ⟨⟨fun b hb => (by cases hb), List.nodup_nil⟩, fun x hx => ?_, zput_ms (by decide) (zput_ms (by decide) (zput_hit _ _ _ _))⟩
        rw [if_neg (by simp)]
        exact (congrFun hA x).trans (hg x hx)
      · refine ⟨List.nodup_nil, fun b hb => (by cases hb), fun x hx => ?_, zput_ms (by decide) (zput_hit _ _ _ _)⟩
        rw [if_neg (by simp)]
        exact zput_ms (by decide) (zput_ms (by decide) (zput_ms (by decide) (hu x (by omega))))
      · exact ⟨zput_hit _ _ _ _, by decide, fun x j hj => by simp at hj⟩
    · refine zr_aload_n dX2_clear_31 rfl ?_
      refine zr_getR dX2_clear_32 lkX2_21 (by decide) (by decide) rfl (hL1.K 17 3) (hL1.R 66 17 20) ?_
      refine zr_iload_n dX2_clear_35 rfl ?_
      refine zr_aaldK dX2_clear_36 (Or.inr (hL1.K 20 19)) (hL1.N 20 256) (by omega) (by omega) (hL1.po (by omega)) ?_
      refine zr_iconst (v := nI 0) dX2_clear_37 (by decide) ?_
      refine zr_putZ dX2_clear_38 lkX2_38 (by decide) (by decide) rfl rfl (Or.inl rfl) (hL1.Kt (by omega)) ?_
      refine zr_iincN (n := 1) (lv' := [some (.ref ((ad 17))), some (.int (nI (i + 1)))]) dX2_clear_41 (Nat.le_of_ble_eq_true rfl) (Nat.le_of_ble_eq_true rfl) rfl rfl rfl ?_
      refine zr_goto 24 dX2_clear_44 (by decide) ?_
      exact ih _ (by omega) (i + 1) _ rfl (by omega) (hF.put hL (i := tA i) (by decide) (by unfold tA; omega)) (fun x hx => (Nat.lt_or_ge x i).elim (fun z => zput_ma (hL.ne (by unfold tA; omega) (by unfold tA; omega) (by unfold tA; omega)) (hu x z)) (fun z => by rw [show x = i by omega]; exact zput_hit _ _ _ _)) (by rw [← hA]; rfl)
set_option maxRecDepth 100000 in
set_option maxHeartbeats 4000000 in
theorem c_Files_clear {G : zG} {ad : Nat → Nat} {d : Nat} {M : zM} (hcb : zC M ≤ 600128 ∧ zS M ≤ 7301098) (hL : Lay ad M)  : zMet G mX2_clear d [.ref ((ad 17))] M (fun o M' => o = .inl none ∧ Fl ad 0 [68, 69, 70, 260] [18] [] M M' ∧ Tk ad M' [] ∧ Us ad M' [] ∧ Rt ad M' []) := by
  refine zMet_of (by decide +kernel) (Nat.le_of_ble_eq_true rfl) rfl hcb ?_
  show zw G mX2_clear d _ _ _ 0 [some (.ref ((ad 17))), none] [] M
  refine zr_iconst (v := nI 0) dX2_clear_0 (by decide) ?_
  refine zr_istore_n (lv' := [some (.ref ((ad 17))), some (.int (nI 0))]) dX2_clear_1 (Nat.le_of_ble_eq_true rfl) (Nat.le_of_ble_eq_true rfl) rfl rfl ?_
  refine zr_asM (M' := zsetA M (ad 18) (zA M (ad 18))) (zsetA_self rfl).symm ?_
  refine l_Files_clear1 hL (fun g i hg => ?_) _ 0 _ rfl (by omega) (fun x hx => by omega)
  refine zr_iconst (v := nI 0) dX2_clear_22 (by decide) ?_
  refine zr_istore_n (lv' := [some (.ref ((ad 17))), some (.int (nI 0))]) dX2_clear_23 (Nat.le_of_ble_eq_true rfl) (Nat.le_of_ble_eq_true rfl) rfl rfl ?_
  exact l_Files_clear2 hcb hL hg (fun M' a b c d => ⟨rfl, a, b, c, d⟩) _ 0 _ rfl (by omega) ((Fl.refl ad _ _ _ M).setA hL (i := 18)) (fun x hx => by omega) (zsetA_hit _ _ _)
theorem drop_cons {bl : List Nat} {i b : Nat} (h : bl[i]? = some b) : bl.drop i = b :: bl.drop (i + 1) := by
  obtain ⟨h3, h4⟩ := List.getElem?_eq_some_iff.mp h
  rw [← h4]; exact List.drop_eq_getElem_cons h3
theorem tkM_tkM {ad : Nat → Nat} {M : zM} {g h : Nat → Int32} {n k : Nat} : zput (zsetA (tkM ad M g n) (ad 18) h) 69 (ad 17) (nI k) = tkM ad M h k := by
  unfold tkM
  rw [zsetA_put, zsetA_setA, zput_put]
set_option maxRecDepth 100000 in
set_option maxHeartbeats 4000000 in
theorem l_Files_free {G : zG} {ad : Nat → Nat} {d k0 n0 j n : Nat} {bl tk : List Nat} {la : Option Nat} {M : zM} {Q : zOut → zM → Prop} (hcb : zC M ≤ 600128 ∧ zS M ≤ 7301098) (hL : Lay ad M) (hj : j < 256) (hTb : Tb ad M j bl la) (hn : zI M 70 (ad 17) = nI n) (hq0 : ∀ g : Nat → Int32, Tc g tk → Q (.inl none) (zput (zput (tkM ad M g (512 - tk.length)) 260 (ad (tA j)) (nI 0)) 70 (ad 17) (nI (n + 1)))) : ∀ (m i : Nat) (g : Nat → Int32), bl.length - i = m → i ≤ bl.length → Tc g (bl.drop i ++ tk) → zw G mX2_free d k0 n0 Q 2 [some (.ref ((ad 17))), some (.ref ((ad (tA j)))), some (.int (nI i)), none] [] (tkM ad M g (512 - (bl.drop i ++ tk).length)) := by
  intro m
  induction m using Nat.strongRecOn with
  | _ m ih =>
    intro i g hm hi hT
    have hbl := hTb.2.1
    refine zr_iload_n dX2_free_2 rfl ?_
    refine zr_aload_n dX2_free_3 rfl ?_
    refine zr_getI dX2_free_4 lkX2_65 (by decide) (by decide) rfl (hL.Kt (by omega)) ?_
    refine zr_as (y := (nI bl.length)) (zput_ms (by decide) hTb.1) ?_
    refine zr_icmp_geN 63 dX2_free_7 (by decide) (by omega) (by omega) (fun h7 => ?_) (fun h7 => ?_)
    · refine zr_aload_n dX2_free_63 rfl ?_
      refine zr_iconst (v := nI 0) dX2_free_64 (by decide) ?_
      refine zr_putZ dX2_free_65 lkX2_38 (by decide) (by decide) rfl rfl (Or.inl rfl) (hL.Kt (by omega)) ?_
      refine zr_aload_n dX2_free_68 rfl ?_
      refine zr_dup dX2_free_69 rfl ?_
      refine zr_getI dX2_free_70 lkX2_32 (by decide) (by decide) rfl (hL.K 17 3) ?_
      refine zr_as (y := (nI n)) (zput_ms (by decide) (zput_ms (by decide) hn)) ?_
      refine zr_iconst (v := nI 1) dX2_free_73 (by decide) ?_
      refine zr_iaddN dX2_free_74 ?_
      refine zr_putI dX2_free_75 lkX2_32 (by decide) (by decide) rfl rfl (hL.K 17 3) ?_
      refine zr_vret dX2_free_78 rfl ?_
      have e9 : bl.drop i = [] := List.drop_eq_nil_of_le (by omega)
      rw [e9, List.nil_append] at hT ⊢
      exact hq0 g hT
    · obtain ⟨b, hb⟩ : ∃ b, bl[i]? = some b := ⟨_, List.getElem?_eq_getElem (by omega)⟩
      have hdc := drop_cons hb
      rw [hdc, List.cons_append] at hT
      have hb8 := hT.1.1 b List.mem_cons_self
      have hln := hT.1.len
      rw [List.length_cons] at hln
      refine zr_aload_n dX2_free_10 rfl ?_
      refine zr_getR dX2_free_11 lkX2_68 (by decide) (by decide) rfl (hL.Kt (by omega)) (hL.tb (by omega)) ?_
      refine zr_iload_n dX2_free_14 rfl ?_
      refine zr_ialdN dX2_free_15 (hL.Kb (by omega)) (hL.Nb (by omega)) (by omega) (by omega) ?_
      refine zr_as (y := (nI b)) ((congrFun (zsetA_ms (M := M) (hL.ne (by unfold tB; omega) (by unfold tB; omega)) rfl) i).trans (hTb.2.2.1 i b hb)) ?_
      refine zr_bipush (v := nI 80) dX2_free_16 (by decide) ?_
      refine zr_isubN dX2_free_18 (by omega) ?_
      refine zr_istore_n (lv' := [some (.ref ((ad 17))), some (.ref ((ad (tA j)))), some (.int (nI i)), some (.int (nI (b - 80)))]) dX2_free_19 (Nat.le_of_ble_eq_true rfl) (Nat.le_of_ble_eq_true rfl) rfl rfl ?_
      refine zr_iload_n dX2_free_20 rfl ?_
      refine zr_if_ltN 57 dX2_free_21 (by decide) (by omega) ?_
      refine zr_iload_n dX2_free_24 rfl ?_
      refine zr_sipush (v := nI 512) dX2_free_25 (by decide) ?_
      refine zr_icmp_geN 57 dX2_free_28 (by decide) (by omega) (by omega) (fun h28 => ?_) (fun h28 => ?_)
      · exfalso; omega
      · refine zr_aload_n dX2_free_31 rfl ?_
        refine zr_getR dX2_free_32 lkX2_9 (by decide) (by decide) rfl (hL.K 17 3) (hL.R 64 17 18) ?_
        refine zr_iload_n dX2_free_35 rfl ?_
        refine zr_zaldN dX2_free_36 (hL.K 18 16) (hL.N 18 512) (by omega) (by omega) ?_
        refine zr_as (y := (nI 1)) ((congrFun (zsetA_hit _ _ _) _).trans ((hT.2 (b - 80) (by omega)).trans (by rw [if_pos (by rw [show 80 + (b - 80) = b by omega]; exact List.mem_cons_self)]))) ?_
        refine zr_if_eq 57 dX2_free_37 (by decide) (fun h37 => absurd h37 (by decide)) (fun h37 => ?_)
        refine zr_aload_n dX2_free_40 rfl ?_
        refine zr_getR dX2_free_41 lkX2_9 (by decide) (by decide) rfl (hL.K 17 3) (hL.R 64 17 18) ?_
        refine zr_iload_n dX2_free_44 rfl ?_
        refine zr_iconst (v := nI 0) dX2_free_45 (by decide) ?_
        refine zr_zastN dX2_free_46 (hL.K 18 16) (hL.N 18 512) (by omega) (by omega) (Or.inl rfl) ?_
        refine zr_aload_n dX2_free_47 rfl ?_
        refine zr_dup dX2_free_48 rfl ?_
        refine zr_getI dX2_free_49 lkX2_28 (by decide) (by decide) rfl (hL.K 17 3) ?_
        refine zr_as (y := (nI (512 - (bl.drop i ++ tk).length))) (zput_hit _ _ _ _) ?_
        refine zr_iconst (v := nI 1) dX2_free_52 (by decide) ?_
        refine zr_iaddN dX2_free_53 ?_
        refine zr_putI dX2_free_54 lkX2_28 (by decide) (by decide) rfl rfl (hL.K 17 3) ?_
        refine zr_iincN (n := 1) (lv' := [some (.ref ((ad 17))), some (.ref ((ad (tA j)))), some (.int (nI (i + 1))), some (.int (nI (b - 80)))]) dX2_free_57 (Nat.le_of_ble_eq_true rfl) (Nat.le_of_ble_eq_true rfl) rfl rfl rfl ?_
        refine zr_goto 2 dX2_free_60 (by decide) ?_
        have e9 : 512 - (bl.drop i ++ tk).length + 1 = 512 - (bl.drop (i + 1) ++ tk).length := by rw [hdc, List.cons_append, List.length_cons]; omega
        refine zr_drop 3 rfl ?_
        refine zr_asM (M' := tkM ad M (upd g (b - 80) (nI 0)) (512 - (bl.drop (i + 1) ++ tk).length)) (by rw [← e9]; exact (congrArg (fun z => zput (zsetA (tkM ad M g _) (ad 18) (upd z (b - 80) (nI 0))) 69 (ad 17) _) (zsetA_hit _ _ _)).trans tkM_tkM) ?_
        exact ih _ (by omega) (i + 1) _ rfl (by omega) hT.drop
theorem Us.drop {ad : Nat → Nat} {M : zM} {j n : Nat} {us : List Nat} (hL : Lay ad M) (h : Us ad M (j :: us)) (hn : n = 256 - us.length) : Us ad (zput (zput M 260 (ad (tA j)) (nI 0)) 70 (ad 17) (nI n)) us := by
  have h1 := List.nodup_cons.mp h.1
  have hj := h.2.1 j List.mem_cons_self
  refine ⟨h1.2, fun x hx => h.2.1 x (List.mem_cons_of_mem _ hx), fun i hi => zput_ms (by decide) ?_, by rw [hn]; exact zput_hit _ _ _ _⟩
  by_cases e : i = j
  · rw [e, zput_hit, if_neg h1.1]
  · refine zput_ma (hL.ne (by unfold tA; omega) (by unfold tA; omega) (by unfold tA; omega)) ?_
    rw [h.2.2.1 i hi]
    congr 2
    simp only [List.mem_cons, eq_iff_iff]
    exact ⟨fun z => z.elim (fun y => absurd y e) id, Or.inr⟩
set_option maxRecDepth 100000 in
set_option maxHeartbeats 4000000 in
theorem c_Files_free {G : zG} {ad : Nat → Nat} {d j : Nat} {bl tk us : List Nat} {la : Option Nat} {M : zM} (hcb : zC M ≤ 600128 ∧ zS M ≤ 7301098) (hL : Lay ad M) (hj : j < 256) (hTb : Tb ad M j bl la) (hT : Tk ad M (bl ++ tk)) (hU : Us ad M (j :: us))  : zMet G mX2_free d [.ref ((ad 17)), .ref ((ad (tA j)))] M (fun o M' => o = .inl none ∧ Fl ad 0 [69, 70, 260] [18] [] M M' ∧ Tk ad M' tk ∧ Us ad M' us) := by
  refine zMet_of (by decide +kernel) (Nat.le_of_ble_eq_true rfl) rfl hcb ?_
  show zw G mX2_free d _ _ _ 0 [some (.ref ((ad 17))), some (.ref ((ad (tA j)))), none, none] [] M
  refine zr_iconst (v := nI 0) dX2_free_0 (by decide) ?_
  refine zr_istore_n (lv' := [some (.ref ((ad 17))), some (.ref ((ad (tA j)))), some (.int (nI 0)), none]) dX2_free_1 (Nat.le_of_ble_eq_true rfl) (Nat.le_of_ble_eq_true rfl) rfl rfl ?_
  refine zr_asM (M' := tkM ad M (zA M (ad 18)) (512 - (bl.drop 0 ++ tk).length)) (by rw [List.drop_zero, tkM_self hT]) ?_
  have hul := us_len hU.1 hU.2.1
  rw [List.length_cons] at hul
  refine l_Files_free hcb hL hj hTb hU.2.2.2 (fun g hg => ?_) _ 0 _ rfl (by omega) (by rw [List.drop_zero]; exact hT.tc)
  refine ⟨rfl, ?_, ?_, ?_⟩
  · exact ((((Fl.refl ad _ _ _ M).setA hL (i := 18)).put hL (f := 69) (i := 17)).put hL (f := 260) (i := tA j) (by decide) (by unfold tA; omega)).put hL (f := 70) (i := 17)
  · have := tkM_tk (ad := ad) (M := M) hg
    exact ⟨this.1, this.2.1, zput_ms (by decide) (zput_ms (by decide) this.2.2)⟩
  · refine Us.drop (M := tkM ad M g (512 - tk.length)) hL ?_ (by rw [List.length_cons]; omega)
    exact hU.fl (((Fl.refl ad [69] [18] [] M).setA hL (i := 18)).put hL (f := 69) (i := 17))
set_option maxRecDepth 100000 in
set_option maxHeartbeats 4000000 in
theorem l_Files_freeRetired {G : zG} {ad : Nat → Nat} {d k0 n0 : Nat} {tk us : List Nat} {rs : List zF} {M : zM} {Q : zOut → zM → Prop} (hd : 1 ≤ d) (hcb : zC M ≤ 600128 ∧ zS M ≤ 7301098) (hL : Lay ad M) (hR : Rt ad M (rs.map (·.1))) (hTb : ∀ f ∈ rs, Tb ad M f.1 f.2.1 (fE f).getLast?) (hq0 : ∀ M' : zM, Fl ad 0 [68, 69, 70, 260] [18] [] M M' → Tk ad M' tk → Us ad M' us → Rt ad M' [] → Q (.inl none) M') : ∀ (m i : Nat) (M1 : zM), rs.length - i = m → i ≤ rs.length → Fl ad 0 [69, 70, 260] [18] [] M M1 → Tk ad M1 (((rs.drop i).map (·.2.1)).flatten ++ tk) → Us ad M1 ((rs.drop i).map (·.1) ++ us) → zw G mX2_freeRetired d k0 n0 Q 2 [some (.ref ((ad 17))), some (.int (nI i)), none] [] M1 := by
  intro m
  induction m using Nat.strongRecOn with
  | _ m ih =>
    intro i M1 hm hi hF hT hU
    have hL1 := hF.lay hL
    have hcb1 := hF.cb hcb
    have hR1 := hR.fl hF
    have hrl := hR1.2.1
    have hml : (rs.map (·.1)).length = rs.length := List.length_map _
    refine zr_iload_n dX2_freeRetired_2 rfl ?_
    refine zr_aload_n dX2_freeRetired_3 rfl ?_
    refine zr_getI dX2_freeRetired_4 lkX2_42 (by decide) (by decide) rfl (hL1.K 17 3) ?_
    refine zr_as (y := (nI ((rs.map (·.1)).length))) hR1.1 ?_
    refine zr_icmp_geN 39 dX2_freeRetired_7 (by decide) (by omega) (by omega) (fun h7 => ?_) (fun h7 => ?_)
    · refine zr_aload_n dX2_freeRetired_39 rfl ?_
      refine zr_iconst (v := nI 0) dX2_freeRetired_40 (by decide) ?_
      refine zr_putI dX2_freeRetired_41 lkX2_42 (by decide) (by decide) rfl rfl (hL1.K 17 3) ?_
      refine zr_vret dX2_freeRetired_44 rfl ?_
      have e9 : rs.drop i = [] := List.drop_eq_nil_of_le (by omega)
      rw [e9] at hT hU
      exact hq0 _ ((hF.mono).put hL (f := 68) (i := 17)) ⟨hT.1, hT.2.1, zput_ms (by decide) hT.2.2⟩ ⟨hU.1, hU.2.1, fun x hx => zput_ms (by decide) (hU.2.2.1 x hx), zput_ms (by decide) hU.2.2.2⟩ ⟨zput_hit _ _ _ _, by decide, fun x y hx => by simp at hx⟩
    · obtain ⟨f, hf⟩ : ∃ f, rs[i]? = some f := ⟨_, List.getElem?_eq_getElem (by omega)⟩
      have hm2 : (rs.map (·.1))[i]? = some f.1 := by rw [List.getElem?_map, hf]; rfl
      obtain ⟨hf1, hfB⟩ := hR1.2.2 i f.1 hm2
      have hdr : rs.drop i = f :: rs.drop (i + 1) := by
        obtain ⟨h3, h4⟩ := List.getElem?_eq_some_iff.mp hf
        rw [← h4]; exact List.drop_eq_getElem_cons h3
      rw [hdr, List.map_cons, List.flatten_cons, List.append_assoc] at hT
      rw [hdr, List.map_cons, List.cons_append] at hU
      have hus : zI M1 260 (ad (tA f.1)) = nI 1 := (hU.2.2.1 f.1 hf1).trans (by rw [if_pos List.mem_cons_self])
      have hTb1 := (hTb f (List.mem_of_getElem? hf)).fl hF (by omega)
      refine zr_aload_n dX2_freeRetired_10 rfl ?_
      refine zr_getR dX2_freeRetired_11 lkX2_25 (by decide) (by decide) rfl (hL1.K 17 3) (hL1.R 67 17 21) ?_
      refine zr_iload_n dX2_freeRetired_14 rfl ?_
      refine zr_aaldK dX2_freeRetired_15 (Or.inr (hL1.K 21 19)) (hL1.N 21 256) (by omega) (by omega) hfB ?_
      refine zr_astore_n (lv' := [some (.ref ((ad 17))), some (.int (nI i)), some (.ref ((ad (tA f.1))))]) dX2_freeRetired_16 (Nat.le_of_ble_eq_true rfl) (Nat.le_of_ble_eq_true rfl) rfl rfl ?_
      refine zr_aload_n dX2_freeRetired_17 rfl ?_
      refine zr_ifnull dX2_freeRetired_18 ?_
      refine zr_aload_n dX2_freeRetired_21 rfl ?_
      refine zr_getI dX2_freeRetired_22 lkX2_38 (by decide) (by decide) rfl (hL1.Kt (by omega)) ?_
      refine zr_as (y := (nI 1)) hus ?_
      refine zr_if_eq 33 dX2_freeRetired_25 (by decide) (fun h25 => absurd h25 (by decide)) (fun h25 => ?_)
      refine zr_aload_n dX2_freeRetired_28 rfl ?_
      refine zr_aload_n dX2_freeRetired_29 rfl ?_
      refine zr_callV (md' := mX2_free) (As := [.ref ((ad (tA f.1)))]) dX2_freeRetired_30 mlX2_61 okX2_free rfl inX2_free slX2_free (by decide) (hL1.K 17 3) rfl (by omega) (Nat.le_of_ble_eq_true rfl) hcb1 (c_Files_free (d := d - 1) hcb1 hL1 hf1 hTb1 hT hU) (fun k M2 h => by cases h.1) (fun v M2 hq => ?_)
      obtain ⟨e0, hF2, hT2, hU2⟩ := hq
      cases e0
      refine zr_iincN (n := 1) (lv' := [some (.ref ((ad 17))), some (.int (nI (i + 1))), some (.ref ((ad (tA f.1))))]) dX2_freeRetired_33 (Nat.le_of_ble_eq_true rfl) (Nat.le_of_ble_eq_true rfl) rfl rfl rfl ?_
      refine zr_goto 2 dX2_freeRetired_36 (by decide) ?_
      refine zr_drop 2 rfl ?_
      exact ih _ (by omega) (i + 1) _ rfl (by omega) (hF.trans0 hF2) hT2 hU2
set_option maxRecDepth 100000 in
set_option maxHeartbeats 4000000 in
theorem c_Files_freeRetired {G : zG} {ad : Nat → Nat} {d : Nat} {tk us : List Nat} {rs : List zF} {M : zM} (hd : 1 ≤ d) (hcb : zC M ≤ 600128 ∧ zS M ≤ 7301098) (hL : Lay ad M) (hR : Rt ad M (rs.map (·.1))) (hTb : ∀ f ∈ rs, Tb ad M f.1 f.2.1 (fE f).getLast?) (hT : Tk ad M ((rs.map (·.2.1)).flatten ++ tk)) (hU : Us ad M (rs.map (·.1) ++ us))  : zMet G mX2_freeRetired d [.ref ((ad 17))] M (fun o M' => o = .inl none ∧ Fl ad 0 [68, 69, 70, 260] [18] [] M M' ∧ Tk ad M' tk ∧ Us ad M' us ∧ Rt ad M' []) := by
  refine zMet_of (by decide +kernel) (Nat.le_of_ble_eq_true rfl) rfl hcb ?_
  show zw G mX2_freeRetired d _ _ _ 0 [some (.ref ((ad 17))), none, none] [] M
  refine zr_iconst (v := nI 0) dX2_freeRetired_0 (by decide) ?_
  refine zr_istore_n (lv' := [some (.ref ((ad 17))), some (.int (nI 0)), none]) dX2_freeRetired_1 (Nat.le_of_ble_eq_true rfl) (Nat.le_of_ble_eq_true rfl) rfl rfl ?_
  exact l_Files_freeRetired hd hcb hL hR hTb (fun M' a b c d => ⟨rfl, a, b, c, d⟩) _ 0 _ rfl (by omega) (Fl.refl _ _ _ _ _) hT hU
