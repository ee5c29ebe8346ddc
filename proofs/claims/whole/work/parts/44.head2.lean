/-! ===== LsmStore$Head: describe ===== -/
def eLv (fs : List zF) : List Nat := nb fs.length 2 ++ (fs.map (fun f => eTb f.2.1)).flatten
def eLs (Ls : Nat → List zF) : Nat → List Nat
  | 0 => []
  | l + 1 => eLs Ls l ++ eLv (Ls l)
/-- the head's bytes -/
def hdB (g ar cm : Nat) (Ls : Nat → List zF) : List Nat := nb g 4 ++ (nb (11 + (eLs Ls 3).length) 2 ++ (nb ar 1 ++ (nb cm 4 ++ (eLs Ls 3 ++ [165]))))
def hd0 (g ar cm : Nat) : List Nat := nb g 4 ++ (nb 0 2 ++ (nb ar 1 ++ nb cm 4))
theorem hd0_len (g ar cm : Nat) : (hd0 g ar cm).length = 11 := by unfold hd0; simp only [List.length_append, nb_len]
theorem hdB_len (g ar cm : Nat) (Ls : Nat → List zF) : (hdB g ar cm Ls).length = 12 + (eLs Ls 3).length := by unfold hdB; simp only [List.length_append, nb_len, List.length_cons, List.length_nil]; omega
theorem eLs_le {Ls : Nat → List zF} {l k : Nat} (h : l ≤ k) : (eLs Ls l).length ≤ (eLs Ls k).length := by
  induction k with
  | zero => rw [show l = 0 by omega]; exact Nat.le_refl _
  | succ k ih =>
    rcases Nat.lt_or_ge l (k + 1) with e | e
    · have := ih (by omega)
      show _ ≤ (eLs Ls k ++ eLv (Ls k)).length
      rw [List.length_append]
      omega
    · rw [show l = k + 1 by omega]; exact Nat.le_refl _
theorem tb_take {fs : List zF} {n : Nat} {f : zF} (h : fs[n]? = some f) : ((fs.take (n + 1)).map (fun f => eTb f.2.1)).flatten = ((fs.take n).map (fun f => eTb f.2.1)).flatten ++ eTb f.2.1 := by
  rw [List.take_succ, h, List.map_append, List.flatten_append]
  simp
theorem tb_take_le {fs : List zF} (n : Nat) : ((fs.take n).map (fun f => eTb f.2.1)).flatten.length ≤ (fs.map (fun f => eTb f.2.1)).flatten.length := by
  conv => rhs; rw [← List.take_append_drop n fs]
  rw [List.map_append, List.flatten_append, List.length_append]
  omega
/-- the length is put in -/
theorem hd_patch {r : Nat → Int32} {g ar cm n : Nat} {X : List Nat} (h : Rc r (hd0 g ar cm ++ X)) (hn : n < 65536) : Rc (upd (upd r 4 (vp_nar .byte (Int32.toInt8 (nI n >>> (nI 8 &&& 31))).toInt32)) 5 (vp_nar .byte (Int32.toInt8 (nI n)).toInt32)) (nb g 4 ++ (nb n 2 ++ (nb ar 1 ++ (nb cm 4 ++ X)))) := by
  have b1 : zb (vp_nar .byte (Int32.toInt8 (nI n >>> (nI 8 &&& 31))).toInt32) = n / 256 % 256 := by
    have := byte_at (n := n) (t := 1) (by omega) (by omega)
    rw [Nat.pow_one] at this
    exact this
  have b0 : zb (vp_nar .byte (Int32.toInt8 (nI n)).toInt32) = n % 256 := by rw [zb_nar, zb_i8, zb_nI n (by omega)]
  have e : hd0 g ar cm ++ X = nb g 4 ++ (nb 0 2 ++ (nb ar 1 ++ (nb cm 4 ++ X))) := by unfold hd0; simp only [List.append_assoc]
  rw [e] at h
  intro i b hb
  unfold upd
  have hg := nb_len g 4
  rcases Nat.lt_or_ge i 4 with y | y
  · rw [if_neg (by omega), if_neg (by omega)]
    rw [List.getElem?_append_left (by omega)] at hb
    exact h i b (by rw [List.getElem?_append_left (by omega)]; exact hb)
  · rw [List.getElem?_append_right (by omega), hg] at hb
    rcases Nat.lt_or_ge (i - 4) 2 with z | z
    · rw [List.getElem?_append_left (by rw [nb_len]; omega)] at hb
      rcases (show i = 4 ∨ i = 5 by omega) with w | w
      · subst w
        rw [if_neg (by decide), if_pos rfl, b1]
        have : some (n / 256 ^ 1 % 256) = some b := hb
        rw [Nat.pow_one] at this
        exact Option.some.inj this
      · subst w
        rw [if_pos rfl, b0]
        have : some (n / 256 ^ 0 % 256) = some b := hb
        rw [Nat.pow_zero, Nat.div_one] at this
        exact Option.some.inj this
    · rw [if_neg (by omega), if_neg (by omega)]
      rw [List.getElem?_append_right (by rw [nb_len]; omega), nb_len] at hb
      refine h i b ?_
      rw [List.getElem?_append_right (by omega), hg, List.getElem?_append_right (by rw [nb_len]; omega), nb_len]
      exact hb
set_option maxRecDepth 100000 in
set_option maxHeartbeats 4000000 in
theorem l_Head_desc1 {G : zG} {ad : Nat → Nat} {d k0 n0 g ar cm l : Nat} {Ls : Nat → List zF} {M : zM} {Q : zOut → zM → Prop} (hd : 2 ≤ d) (hcb : zC M ≤ 600128 ∧ zS M ≤ 7301098) (hL : Lay ad M) (hV : ∀ l, l < 3 → Lv ad M l (Ls l)) (hbk : ∀ l, l < 3 → ∀ f ∈ Ls l, ∀ b ∈ f.2.1, b < 65536) (hsz : (eLs Ls 3).length ≤ 1900) (hl : l < 3) (hk : ∀ r : Nat → Int32, Rc r (hd0 g ar cm ++ eLs Ls (l + 1)) → zw G mX3_describe d k0 n0 Q 90 [some (.ref ((ad 30))), some (.int (nI ar)), some (.int (nI cm)), some (.ref ((ad 22))), some (.int (nI l)), none] [] (hrM ad M r (hd0 g ar cm ++ eLs Ls (l + 1)).length)) : ∀ (m n : Nat) (r : Nat → Int32), (Ls l).length - n = m → n ≤ (Ls l).length → Rc r (hd0 g ar cm ++ (eLs Ls l ++ (nb (Ls l).length 2 ++ (((Ls l).take n).map (fun f => eTb f.2.1)).flatten))) → zw G mX3_describe d k0 n0 Q 59 [some (.ref ((ad 30))), some (.int (nI ar)), some (.int (nI cm)), some (.ref ((ad 22))), some (.int (nI l)), some (.int (nI n))] [] (hrM ad M r (hd0 g ar cm ++ (eLs Ls l ++ (nb (Ls l).length 2 ++ (((Ls l).take n).map (fun f => eTb f.2.1)).flatten))).length) := by
  intro m
  induction m using Nat.strongRecOn with
  | _ m ih =>
    intro n r hm hn hr
    have hfl := (hV l hl).2.1
    refine zr_iload dX3_describe_59 rfl ?_
    refine zr_aload_n dX3_describe_61 rfl ?_
    refine zr_iload dX3_describe_62 rfl ?_
    refine zr_aaldK dX3_describe_64 (Or.inl (hL.K 22 18)) (hL.N 22 3) (by omega) (by omega) (hL.lv hl) ?_
    refine zr_getI dX3_describe_65 lkX3_59 (by decide) (by decide) rfl (hL.Kl hl) ?_
    refine zr_as (y := (nI ((Ls l).length))) (((hrM_fl hL _ _).rI (by decide) (by omega)).trans (hV l hl).1) ?_
    refine zr_icmp_geN 90 dX3_describe_68 (by decide) (by omega) (by omega) (fun h68 => ?_) (fun h68 => ?_)
    · have e9 : (Ls l).take n = Ls l := List.take_of_length_le (by omega)
      rw [e9] at hr ⊢
      refine zr_drop 5 rfl ?_
      exact hk r hr
    · obtain ⟨f, hf⟩ : ∃ f, (Ls l)[n]? = some f := ⟨_, List.getElem?_eq_getElem (by omega)⟩
      have hf1 := ((hV l hl).2.2.1 n f hf).1
      have hBl : (hd0 g ar cm ++ (eLs Ls l ++ (nb (Ls l).length 2 ++ (((Ls l).take n).map (fun f => eTb f.2.1)).flatten))).length = 11 + (eLs Ls l).length + 2 + (((Ls l).take n).map (fun f => eTb f.2.1)).flatten.length := by rw [List.length_append, List.length_append, List.length_append, hd0_len, nb_len]; omega
      have hle1 := tb_take_le (fs := Ls l) (n + 1)
      rw [tb_take hf, List.length_append, eTb_len] at hle1
      have hle2 := eLs_le (Ls := Ls) (show l + 1 ≤ 3 by omega)
      have hle3 : (eLs Ls (l + 1)).length = (eLs Ls l).length + (2 + ((Ls l).map (fun f => eTb f.2.1)).flatten.length) := by
        show (eLs Ls l ++ (nb (Ls l).length 2 ++ ((Ls l).map (fun f => eTb f.2.1)).flatten)).length = _
        rw [List.length_append, List.length_append, nb_len]
      refine zr_aload_n dX3_describe_71 rfl ?_
      refine zr_aload_n dX3_describe_72 rfl ?_
      refine zr_iload dX3_describe_73 rfl ?_
      refine zr_aaldK dX3_describe_75 (Or.inl (hL.K 22 18)) (hL.N 22 3) (by omega) (by omega) (hL.lv hl) ?_
      refine zr_iload dX3_describe_76 rfl ?_
      refine zr_callVN (md' := mX4_table) (As := [.int (nI n)]) dX3_describe_78 mlX3_64 okX4_table rfl inX4_table slX4_table (by decide) (hL.Kl hl) rfl (by omega) (Nat.le_of_ble_eq_true rfl) hcb (c_Level_table (d := d - 1) (M := (hrM ad M r (hd0 g ar cm ++ (eLs Ls l ++ (nb (Ls l).length 2 ++ (((Ls l).take n).map (fun f => eTb f.2.1)).flatten))).length)) hcb ((hrM_fl hL _ _).lay hL) hl ((hV l hl).fl (hrM_fl hL _ _) hl) hf) (fun k M1 h => by cases h.1) (fun v M9 hq => ?_)
      obtain ⟨e0, e9⟩ := hq
      cases e0
      rw [e9]
      refine zr_callV (md' := mX3_addTable) (As := [.ref ((ad (tA f.1)))]) dX3_describe_81 mlX3_68 okX3_addTable rfl inX3_addTable slX3_addTable (by decide) (hL.K 30 4) rfl (by omega) (Nat.le_of_ble_eq_true rfl) hcb (c_Head_addTable (d := d - 1) (M := (hrM ad M r (hd0 g ar cm ++ (eLs Ls l ++ (nb (Ls l).length 2 ++ (((Ls l).take n).map (fun f => eTb f.2.1)).flatten))).length)) (B := (hd0 g ar cm ++ (eLs Ls l ++ (nb (Ls l).length 2 ++ (((Ls l).take n).map (fun f => eTb f.2.1)).flatten)))) (by omega) hcb ((hrM_fl hL _ _).lay hL) (by omega) (((hV l hl).2.2.1 n f hf).2.2.fl (hrM_fl hL _ _) (by omega)) (hbk l hl f (List.mem_of_getElem? hf)) (by omega) (hrM_n _ _ _ _) (by rw [hrM_r]; exact hr)) (fun k M9 h => by cases h.1) (fun v M9 hq => ?_)
      obtain ⟨e0, r1, e9, hr1⟩ := hq
      cases e0
      rw [e9, hrM_hrM]
      rw [show (hd0 g ar cm ++ (eLs Ls l ++ (nb (Ls l).length 2 ++ (((Ls l).take n).map (fun f => eTb f.2.1)).flatten))) ++ eTb f.2.1 = hd0 g ar cm ++ (eLs Ls l ++ (nb (Ls l).length 2 ++ (((Ls l).take (n + 1)).map (fun f => eTb f.2.1)).flatten)) from by rw [tb_take hf]; simp only [List.append_assoc]] at hr1 ⊢
      refine zr_iincN (n := 1) (lv' := [some (.ref ((ad 30))), some (.int (nI ar)), some (.int (nI cm)), some (.ref ((ad 22))), some (.int (nI l)), some (.int (nI (n + 1)))]) dX3_describe_84 (Nat.le_of_ble_eq_true rfl) (Nat.le_of_ble_eq_true rfl) rfl rfl rfl ?_
      refine zr_goto 59 dX3_describe_87 (by decide) ?_
      exact ih _ (by omega) (n + 1) r1 rfl (by omega) hr1
set_option maxRecDepth 100000 in
set_option maxHeartbeats 4000000 in
theorem l_Head_desc2 {G : zG} {ad : Nat → Nat} {d k0 n0 g ar cm : Nat} {Ls : Nat → List zF} {M : zM} {Q : zOut → zM → Prop} (hd : 2 ≤ d) (hcb : zC M ≤ 600128 ∧ zS M ≤ 7301098) (hL : Lay ad M) (hV : ∀ l, l < 3 → Lv ad M l (Ls l)) (hbk : ∀ l, l < 3 → ∀ f ∈ Ls l, ∀ b ∈ f.2.1, b < 65536) (hsz : (eLs Ls 3).length ≤ 1900) (hk : ∀ r : Nat → Int32, Rc r (hd0 g ar cm ++ eLs Ls 3) → zw G mX3_describe d k0 n0 Q 96 [some (.ref ((ad 30))), some (.int (nI ar)), some (.int (nI cm)), some (.ref ((ad 22))), some (.int (nI 3)), none] [] (hrM ad M r (hd0 g ar cm ++ eLs Ls 3).length)) : ∀ (m l : Nat) (r : Nat → Int32), 3 - l = m → l ≤ 3 → Rc r (hd0 g ar cm ++ eLs Ls l) → zw G mX3_describe d k0 n0 Q 37 [some (.ref ((ad 30))), some (.int (nI ar)), some (.int (nI cm)), some (.ref ((ad 22))), some (.int (nI l)), none] [] (hrM ad M r (hd0 g ar cm ++ eLs Ls l).length) := by
  intro m
  induction m using Nat.strongRecOn with
  | _ m ih =>
    intro l r hm hl3 hr
    refine zr_iload dX3_describe_37 rfl ?_
    refine zr_aload_n dX3_describe_39 rfl ?_
    refine zr_alenN dX3_describe_40 (hL.K 22 18) (by decide) (hL.N 22 3) ?_
    refine zr_icmp_geN 96 dX3_describe_41 (by decide) (by omega) (by omega) (fun h41 => ?_) (fun h41 => ?_)
    · have e9 : l = 3 := by omega
      subst e9
      exact hk r hr
    · have hl : l < 3 := by omega
      have hle := eLs_le (Ls := Ls) (show l ≤ 3 by omega)
      refine zr_aload_n dX3_describe_44 rfl ?_
      refine zr_aload_n dX3_describe_45 rfl ?_
      refine zr_iload dX3_describe_46 rfl ?_
      refine zr_aaldK dX3_describe_48 (Or.inl (hL.K 22 18)) (hL.N 22 3) (by omega) (by omega) (hL.lv hl) ?_
      refine zr_getI dX3_describe_49 lkX3_59 (by decide) (by decide) rfl (hL.Kl hl) ?_
      refine zr_as (y := (nI ((Ls l).length))) (((hrM_fl hL _ _).rI (by decide) (by omega)).trans (hV l hl).1) ?_
      refine zr_iconst (v := nI 2) dX3_describe_52 (by decide) ?_
      refine zr_callV (md' := mX3_addNumber) (As := [.int (nI ((Ls l).length)), .int (nI 2)]) dX3_describe_53 mlX3_55 okX3_addNumber rfl inX3_addNumber slX3_addNumber (by decide) (hL.K 30 4) rfl (by omega) (Nat.le_of_ble_eq_true rfl) hcb (c_Head_addNumber (d := d - 1) (M := (hrM ad M r (hd0 g ar cm ++ eLs Ls l).length)) (B := hd0 g ar cm ++ eLs Ls l) hcb ((hrM_fl hL _ _).lay hL) (hrM_n _ _ _ _) (by rw [hrM_r]; exact hr) (by have := (hV l hl).2.1; omega) (by decide) (by decide) (by rw [List.length_append, hd0_len]; omega)) (fun k M9 h => by cases h.1) (fun v M9 hq => ?_)
      obtain ⟨e0, r1, e9, hr1⟩ := hq
      cases e0
      rw [e9, hrM_hrM]
      refine zr_iconst (v := nI 0) dX3_describe_56 (by decide) ?_
      refine zr_istore (lv' := [some (.ref ((ad 30))), some (.int (nI ar)), some (.int (nI cm)), some (.ref ((ad 22))), some (.int (nI l)), some (.int (nI 0))]) dX3_describe_57 (Nat.le_of_ble_eq_true rfl) (Nat.le_of_ble_eq_true rfl) rfl rfl ?_
      have eB : hd0 g ar cm ++ eLs Ls l ++ nb (Ls l).length 2 = hd0 g ar cm ++ (eLs Ls l ++ (nb (Ls l).length 2 ++ (((Ls l).take 0).map (fun f => eTb f.2.1)).flatten)) := by rw [List.take_zero, List.append_assoc]; simp
      rw [eB] at hr1 ⊢
      refine l_Head_desc1 hd hcb hL hV hbk hsz hl (fun r2 hr2 => ?_) _ 0 r1 rfl (by omega) hr1
      refine zr_iincN (n := 1) (lv' := [some (.ref ((ad 30))), some (.int (nI ar)), some (.int (nI cm)), some (.ref ((ad 22))), some (.int (nI (l + 1))), none]) dX3_describe_90 (Nat.le_of_ble_eq_true rfl) (Nat.le_of_ble_eq_true rfl) rfl rfl rfl ?_
      refine zr_goto 37 dX3_describe_93 (by decide) ?_
      exact ih _ (by omega) (l + 1) r2 rfl (by omega) hr2
set_option maxRecDepth 100000 in
set_option maxHeartbeats 4000000 in
theorem t_Head_desc3 {G : zG} {ad : Nat → Nat} {d k0 n0 g ar cm : Nat} {Ls : Nat → List zF} {r : Nat → Int32} {M : zM} {Q : zOut → zM → Prop} (hd : 2 ≤ d) (hcb : zC M ≤ 600128 ∧ zS M ≤ 7301098) (hL : Lay ad M) (hV : ∀ l, l < 3 → Lv ad M l (Ls l)) (hbk : ∀ l, l < 3 → ∀ f ∈ Ls l, ∀ b ∈ f.2.1, b < 65536) (hsz : (eLs Ls 3).length ≤ 1900) (hq0 : ∀ r : Nat → Int32, Rc r (hdB g ar cm Ls) → Q (.inl none) (hrM ad M r (hdB g ar cm Ls).length)) (hr : Rc r (hd0 g ar cm ++ eLs Ls 3)) : zw G mX3_describe d k0 n0 Q 96 [some (.ref ((ad 30))), some (.int (nI ar)), some (.int (nI cm)), some (.ref ((ad 22))), some (.int (nI 3)), none] [] (hrM ad M r (hd0 g ar cm ++ eLs Ls 3).length) := by
  refine zr_aload_n dX3_describe_96 rfl ?_
  refine zr_getR dX3_describe_97 lkX3_9 (by decide) (by decide) rfl (hL.K 30 4) (hL.R 97 30 31) ?_
  refine zr_iconst (v := nI 4) dX3_describe_100 (by decide) ?_
  refine zr_aload_n dX3_describe_101 rfl ?_
  refine zr_getI dX3_describe_102 lkX3_39 (by decide) (by decide) rfl (hL.K 30 4) ?_
  refine zr_as (y := (nI (11 + (eLs Ls 3).length))) ((hrM_n _ _ _ _).trans (by rw [List.length_append, hd0_len])) ?_
  refine zr_bipush (v := nI 8) dX3_describe_105 (by decide) ?_
  refine zr_ishr dX3_describe_107 ?_
  refine zr_i2b dX3_describe_108 ?_
  refine zr_bastN dX3_describe_109 (hL.K 31 14) (hL.N 31 2048) (by omega) (by omega) ?_
  refine zr_aload_n dX3_describe_110 rfl ?_
  refine zr_getR dX3_describe_111 lkX3_9 (by decide) (by decide) rfl (hL.K 30 4) (hL.R 97 30 31) ?_
  refine zr_iconst (v := nI 5) dX3_describe_114 (by decide) ?_
  refine zr_aload_n dX3_describe_115 rfl ?_
  refine zr_getI dX3_describe_116 lkX3_39 (by decide) (by decide) rfl (hL.K 30 4) ?_
  refine zr_as (y := (nI (11 + (eLs Ls 3).length))) ((hrM_n _ _ _ _).trans (by rw [List.length_append, hd0_len])) ?_
  refine zr_i2b dX3_describe_119 ?_
  refine zr_bastN dX3_describe_120 (hL.K 31 14) (hL.N 31 2048) (by omega) (by omega) ?_
  refine zr_asM (M' := hrM ad M (upd (upd r 4 (vp_nar .byte (Int32.toInt8 (nI (11 + (eLs Ls 3).length) >>> (nI 8 &&& 31))).toInt32)) 5 (vp_nar .byte (Int32.toInt8 (nI (11 + (eLs Ls 3).length))).toInt32)) (nb g 4 ++ (nb (11 + (eLs Ls 3).length) 2 ++ (nb ar 1 ++ (nb cm 4 ++ eLs Ls 3)))).length) (by rw [hrM_r, show zA (zsetA (hrM ad M r (hd0 g ar cm ++ eLs Ls 3).length) (ad 31) (upd r 4 (vp_nar .byte (Int32.toInt8 (nI (11 + (eLs Ls 3).length) >>> (nI 8 &&& 31))).toInt32))) (ad 31) = upd r 4 (vp_nar .byte (Int32.toInt8 (nI (11 + (eLs Ls 3).length) >>> (nI 8 &&& 31))).toInt32) from zsetA_hit _ _ _, zsetA_setA, show (nb g 4 ++ (nb (11 + (eLs Ls 3).length) 2 ++ (nb ar 1 ++ (nb cm 4 ++ eLs Ls 3)))).length = (hd0 g ar cm ++ eLs Ls 3).length from by unfold hd0; simp only [List.length_append, nb_len]; omega]; unfold hrM; rw [zsetA_put, zsetA_setA]) ?_
  refine zr_aload_n dX3_describe_121 rfl ?_
  refine zr_sipush (v := nI 165) dX3_describe_122 (by decide) ?_
  refine zr_iconst (v := nI 1) dX3_describe_125 (by decide) ?_
  refine zr_callV (md' := mX3_addNumber) (As := [.int (nI 165), .int (nI 1)]) dX3_describe_126 mlX3_55 okX3_addNumber rfl inX3_addNumber slX3_addNumber (by decide) (hL.K 30 4) rfl (by omega) (Nat.le_of_ble_eq_true rfl) hcb (c_Head_addNumber (d := d - 1) (M := hrM ad M (upd (upd r 4 (vp_nar .byte (Int32.toInt8 (nI (11 + (eLs Ls 3).length) >>> (nI 8 &&& 31))).toInt32)) 5 (vp_nar .byte (Int32.toInt8 (nI (11 + (eLs Ls 3).length))).toInt32)) (nb g 4 ++ (nb (11 + (eLs Ls 3).length) 2 ++ (nb ar 1 ++ (nb cm 4 ++ eLs Ls 3)))).length) (B := (nb g 4 ++ (nb (11 + (eLs Ls 3).length) 2 ++ (nb ar 1 ++ (nb cm 4 ++ eLs Ls 3))))) hcb ((hrM_fl hL _ _).lay hL) (hrM_n _ _ _ _) (by rw [hrM_r]; exact hd_patch hr (by omega)) (by decide) (by decide) (by decide) (by simp only [List.length_append, nb_len]; omega)) (fun k M9 h => by cases h.1) (fun v M9 hq => ?_)
  obtain ⟨e0, r1, e9, hr1⟩ := hq
  cases e0
  rw [e9, hrM_hrM]
  rw [show (nb g 4 ++ (nb (11 + (eLs Ls 3).length) 2 ++ (nb ar 1 ++ (nb cm 4 ++ eLs Ls 3)))) ++ nb 165 1 = hdB g ar cm Ls from by unfold hdB; simp only [List.append_assoc]; rfl] at hr1 ⊢
  refine zr_vret dX3_describe_129 rfl ?_
  exact hq0 r1 hr1
set_option maxRecDepth 100000 in
set_option maxHeartbeats 4000000 in
theorem c_Head_describe {G : zG} {ad : Nat → Nat} {d g0 ar cm : Nat} {Ls : Nat → List zF} {M : zM} (hd : 2 ≤ d) (hcb : zC M ≤ 600128 ∧ zS M ≤ 7301098) (hL : Lay ad M) (hV : ∀ l, l < 3 → Lv ad M l (Ls l)) (hbk : ∀ l, l < 3 → ∀ f ∈ Ls l, ∀ b ∈ f.2.1, b < 65536) (hsz : (eLs Ls 3).length ≤ 1900) (hg : zI M 100 (ad 30) = nI g0) (hg2 : g0 < 2 ^ 30) (har : ar ≤ 1) (hcm : cm < 2 ^ 31)  : zMet G mX3_describe d [.ref ((ad 30)), .int (nI ar), .int (nI cm), .ref ((ad 22))] M (fun o M' => o = .inl none ∧ ∃ r : Nat → Int32, M' = hrM ad M r (hdB (g0 + 1) ar cm Ls).length ∧ Rc r (hdB (g0 + 1) ar cm Ls)) := by
  refine zMet_of (by decide +kernel) (Nat.le_of_ble_eq_true rfl) rfl hcb ?_
  show zw G mX3_describe d _ _ _ 0 [some (.ref ((ad 30))), some (.int (nI ar)), some (.int (nI cm)), some (.ref ((ad 22))), none, none] [] M
  refine zr_aload_n dX3_describe_0 rfl ?_
  refine zr_iconst (v := nI 0) dX3_describe_1 (by decide) ?_
  refine zr_putI dX3_describe_2 lkX3_39 (by decide) (by decide) rfl rfl (hL.K 30 4) ?_
  refine zr_aload_n dX3_describe_5 rfl ?_
  refine zr_aload_n dX3_describe_6 rfl ?_
  refine zr_getI dX3_describe_7 lkX3_23 (by decide) (by decide) rfl (hL.K 30 4) ?_
  refine zr_as (y := (nI g0)) (zput_ms (by decide) hg) ?_
  refine zr_iconst (v := nI 1) dX3_describe_10 (by decide) ?_
  refine zr_iaddN dX3_describe_11 ?_
  refine zr_iconst (v := nI 4) dX3_describe_12 (by decide) ?_
  refine zr_callV (md' := mX3_addNumber) (As := [.int (nI (g0 + 1)), .int (nI 4)]) dX3_describe_13 mlX3_55 okX3_addNumber rfl inX3_addNumber slX3_addNumber (by decide) (hL.K 30 4) rfl (by omega) (Nat.le_of_ble_eq_true rfl) hcb (c_Head_addNumber (d := d - 1) (M := (zput M 98 (ad 30) (nI 0))) (B := ([] : List Nat)) hcb hL (zput_hit _ _ _ _) (Rc.nil _) (by omega) (by decide) (by decide) (by simp only [List.length_append, nb_len, List.length_nil]; omega)) (fun k M9 h => by cases h.1) (fun v M9 hq => ?_)
  obtain ⟨e0, r1, e9, hr1⟩ := hq
  cases e0
  rw [e9, show hrM ad (zput M 98 (ad 30) (nI 0)) r1 (([] : List Nat) ++ nb (g0 + 1) 4).length = hrM ad M r1 (nb (g0 + 1) 4).length from by unfold hrM; rw [zsetA_put, zput_put, List.nil_append]]
  rw [List.nil_append] at hr1
  refine zr_aload_n dX3_describe_16 rfl ?_
  refine zr_iconst (v := nI 0) dX3_describe_17 (by decide) ?_
  refine zr_iconst (v := nI 2) dX3_describe_18 (by decide) ?_
  refine zr_callV (md' := mX3_addNumber) (As := [.int (nI 0), .int (nI 2)]) dX3_describe_19 mlX3_55 okX3_addNumber rfl inX3_addNumber slX3_addNumber (by decide) (hL.K 30 4) rfl (by omega) (Nat.le_of_ble_eq_true rfl) hcb (c_Head_addNumber (d := d - 1) (M := (hrM ad M r1 (nb (g0 + 1) 4).length)) (B := (nb (g0 + 1) 4)) hcb ((hrM_fl hL _ _).lay hL) (hrM_n _ _ _ _) (by rw [hrM_r]; exact hr1) (by omega) (by decide) (by decide) (by simp only [List.length_append, nb_len, List.length_nil]; omega)) (fun k M9 h => by cases h.1) (fun v M9 hq => ?_)
  obtain ⟨e0, r2, e9, hr2⟩ := hq
  cases e0
  rw [e9, hrM_hrM]
  refine zr_aload_n dX3_describe_22 rfl ?_
  refine zr_iload_n dX3_describe_23 rfl ?_
  refine zr_iconst (v := nI 1) dX3_describe_24 (by decide) ?_
  refine zr_callV (md' := mX3_addNumber) (As := [.int (nI ar), .int (nI 1)]) dX3_describe_25 mlX3_55 okX3_addNumber rfl inX3_addNumber slX3_addNumber (by decide) (hL.K 30 4) rfl (by omega) (Nat.le_of_ble_eq_true rfl) hcb (c_Head_addNumber (d := d - 1) (M := (hrM ad M r2 (nb (g0 + 1) 4 ++ nb 0 2).length)) (B := (nb (g0 + 1) 4 ++ nb 0 2)) hcb ((hrM_fl hL _ _).lay hL) (hrM_n _ _ _ _) (by rw [hrM_r]; exact hr2) (by omega) (by decide) (by decide) (by simp only [List.length_append, nb_len, List.length_nil]; omega)) (fun k M9 h => by cases h.1) (fun v M9 hq => ?_)
  obtain ⟨e0, r3, e9, hr3⟩ := hq
  cases e0
  rw [e9, hrM_hrM]
  refine zr_aload_n dX3_describe_28 rfl ?_
  refine zr_iload_n dX3_describe_29 rfl ?_
  refine zr_iconst (v := nI 4) dX3_describe_30 (by decide) ?_
  refine zr_callV (md' := mX3_addNumber) (As := [.int (nI cm), .int (nI 4)]) dX3_describe_31 mlX3_55 okX3_addNumber rfl inX3_addNumber slX3_addNumber (by decide) (hL.K 30 4) rfl (by omega) (Nat.le_of_ble_eq_true rfl) hcb (c_Head_addNumber (d := d - 1) (M := (hrM ad M r3 (nb (g0 + 1) 4 ++ nb 0 2 ++ nb ar 1).length)) (B := (nb (g0 + 1) 4 ++ nb 0 2 ++ nb ar 1)) hcb ((hrM_fl hL _ _).lay hL) (hrM_n _ _ _ _) (by rw [hrM_r]; exact hr3) (by omega) (by decide) (by decide) (by simp only [List.length_append, nb_len, List.length_nil]; omega)) (fun k M9 h => by cases h.1) (fun v M9 hq => ?_)
  obtain ⟨e0, r4, e9, hr4⟩ := hq
  cases e0
  rw [e9, hrM_hrM]
  refine zr_iconst (v := nI 0) dX3_describe_34 (by decide) ?_
  refine zr_istore (lv' := [some (.ref ((ad 30))), some (.int (nI ar)), some (.int (nI cm)), some (.ref ((ad 22))), some (.int (nI 0)), none]) dX3_describe_35 (Nat.le_of_ble_eq_true rfl) (Nat.le_of_ble_eq_true rfl) rfl rfl ?_
  rw [show (nb (g0 + 1) 4 ++ nb 0 2 ++ nb ar 1 ++ nb cm 4) = hd0 (g0 + 1) ar cm ++ eLs Ls 0 from by rw [show eLs Ls 0 = [] from rfl]; unfold hd0; simp only [List.append_assoc, List.append_nil]] at hr4 ⊢
  exact l_Head_desc2 hd hcb hL hV hbk hsz (fun r hr => t_Head_desc3 hd hcb hL hV hbk hsz (fun r hr => ⟨rfl, r, rfl, hr⟩) hr) _ 0 r4 rfl (by omega) hr4
