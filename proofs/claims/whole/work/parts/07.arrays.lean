/-! ===== ROWS of zw: arrays, new, static, copying ===== -/
theorem zsetA_A (M : zM) (a : Nat) (g : Nat → Int32) : zA (zsetA M a g) = va_up (zA M) a g := rfl
theorem zfitU {M : zM} {a : Nat} {g : Nat → Int32} (hF : ∀ b i, zK M b = 14 → fits .byte (.int (zA M b i)) = true) (hg : zK M a = 14 → ∀ i, fits .byte (.int (g i)) = true) : ∀ b i, zK (zsetA M a g) b = 14 → fits .byte (.int (zA (zsetA M a g) b i)) = true := by
  intro b i hb
  rw [zsetA_A]
  by_cases e : b = a
  · subst e
    rw [va_up_self]
    exact hg hb i
  · rw [va_up_ne _ _ e]
    exact hF b i hb
section ZA
variable {G : zG} {md : zD} {d k0 n0 : Nat} {Q : zOut → zM → Prop} {pc : Nat} {lv : List (Option Value)} {st : List Value} {M : zM}
theorem zr_iald {a : Nat} {i : Int32} (hd : decode md.2.1 pc = .ok (.iaload, 1)) (hK : zK M a = 15) (hi : vp_in i (zN M a)) (kk : zw G md d k0 n0 Q (pc + 1) lv (.int (zA M a i.toNatClampNeg) :: st) M) : zw G md d k0 n0 Q pc lv (.int i :: .ref a :: st) M := by
  intro p e R s m args below meth c9 H locs ls B hr hm hw hS hl
  have kk' := kk p e R s m args below meth c9 H locs ls B hr hm hw hS hl
  obtain ⟨L, hL, hP, hD, hF, hN⟩ := hw
  obtain ⟨q, hq⟩ := zat (f := zE (gi G) M) ((hL a).mpr (by omega))
  rw [zE_I hK] at hq
  exact va_iald B.1 B.2.1 B.2.2.2.2.2.2.2.2.2.1 hP q 1 hq rfl hi hd kk'
theorem zr_bald {a : Nat} {i : Int32} (hd : decode md.2.1 pc = .ok (.baload, 1)) (hK : zK M a = 14) (hi : vp_in i (zN M a)) (kk : fits .byte (.int (zA M a i.toNatClampNeg)) = true → zw G md d k0 n0 Q (pc + 1) lv (.int (zA M a i.toNatClampNeg) :: st) M) : zw G md d k0 n0 Q pc lv (.int i :: .ref a :: st) M := by
  intro p e R s m args below meth c9 H locs ls B hr hm hw hS hl
  have hw0 := hw
  obtain ⟨L, hL, hP, hD, hF, hN⟩ := hw
  have kk' := kk (hF a _ hK) p e R s m args below meth c9 H locs ls B hr hm hw0 hS hl
  obtain ⟨q, hq⟩ := zat (f := zE (gi G) M) ((hL a).mpr (by omega))
  rw [zE_B hK] at hq
  exact va_bald B.1 B.2.1 B.2.2.2.2.2.2.2.2.2.1 hP q 0 hq rfl hi hd kk'
theorem zr_zald {a : Nat} {i : Int32} (hd : decode md.2.1 pc = .ok (.baload, 1)) (hK : zK M a = 16) (hi : vp_in i (zN M a)) (kk : zw G md d k0 n0 Q (pc + 1) lv (.int (zA M a i.toNatClampNeg) :: st) M) : zw G md d k0 n0 Q pc lv (.int i :: .ref a :: st) M := by
  intro p e R s m args below meth c9 H locs ls B hr hm hw hS hl
  have kk' := kk p e R s m args below meth c9 H locs ls B hr hm hw hS hl
  obtain ⟨L, hL, hP, hD, hF, hN⟩ := hw
  obtain ⟨q, hq⟩ := zat (f := zE (gi G) M) ((hL a).mpr (by omega))
  rw [zE_Z hK] at hq
  exact va_zald B.1 B.2.1 B.2.2.2.2.2.2.2.2.2.1 hP q 2 hq rfl hi hd kk'
theorem zr_lald {a : Nat} {i : Int32} (hd : decode md.2.1 pc = .ok (.laload, 1)) (hK : zK M a = 17) (hi : vp_in i (zN M a)) (kk : zw G md d k0 n0 Q (pc + 1) lv (.long (zJ M a i.toNatClampNeg) :: st) M) : zw G md d k0 n0 Q pc lv (.int i :: .ref a :: st) M := by
  intro p e R s m args below meth c9 H locs ls B hr hm hw hS hl
  have kk' := kk p e R s m args below meth c9 H locs ls B hr hm hw hS hl
  obtain ⟨L, hL, hP, hD, hF, hN⟩ := hw
  obtain ⟨q, hq⟩ := zat (f := zE (gi G) M) ((hL a).mpr (by omega))
  rw [zE_J hK] at hq
  exact va_lald B.1 B.2.1 B.2.2.2.2.2.2.2.2.2.1 hP q 3 hq rfl hi hd kk'
theorem zr_aald {a b : Nat} {i : Int32} (hd : decode md.2.1 pc = .ok (.aaload, 1)) (hK : zK M a = 18 ∨ zK M a = 19) (hi : vp_in i (zN M a)) (hb : zB M a i.toNatClampNeg = some b) (kk : zw G md d k0 n0 Q (pc + 1) lv (.ref b :: st) M) : zw G md d k0 n0 Q pc lv (.int i :: .ref a :: st) M := by
  intro p e R s m args below meth c9 H locs ls B hr hm hw hS hl
  have kk' := kk p e R s m args below meth c9 H locs ls B hr hm hw hS hl
  obtain ⟨L, hL, hP, hD, hF, hN⟩ := hw
  obtain ⟨q, hq⟩ := zat (f := zE (gi G) M) ((hL a).mpr (by omega))
  rcases hK with hK | hK
  · rw [zE_V hK] at hq
    exact va_aldq B.1 B.2.1 B.2.2.2.2.2.2.2.2.2.1 hP q 4 hq rfl hi hd (by rw [hb]; exact kk')
  · rw [zE_T hK] at hq
    exact va_aldq B.1 B.2.1 B.2.2.2.2.2.2.2.2.2.1 hP q 5 hq rfl hi hd (by rw [hb]; exact kk')
theorem zr_aaldN {a : Nat} {i : Int32} (hd : decode md.2.1 pc = .ok (.aaload, 1)) (hK : zK M a = 18 ∨ zK M a = 19) (hi : vp_in i (zN M a)) (hb : zB M a i.toNatClampNeg = none) (kk : zw G md d k0 n0 Q (pc + 1) lv (.null :: st) M) : zw G md d k0 n0 Q pc lv (.int i :: .ref a :: st) M := by
  intro p e R s m args below meth c9 H locs ls B hr hm hw hS hl
  have kk' := kk p e R s m args below meth c9 H locs ls B hr hm hw hS hl
  obtain ⟨L, hL, hP, hD, hF, hN⟩ := hw
  obtain ⟨q, hq⟩ := zat (f := zE (gi G) M) ((hL a).mpr (by omega))
  rcases hK with hK | hK
  · rw [zE_V hK] at hq
    exact va_aldq B.1 B.2.1 B.2.2.2.2.2.2.2.2.2.1 hP q 4 hq rfl hi hd (by rw [hb]; exact kk')
  · rw [zE_T hK] at hq
    exact va_aldq B.1 B.2.1 B.2.2.2.2.2.2.2.2.2.1 hP q 5 hq rfl hi hd (by rw [hb]; exact kk')
theorem zr_alen {a : Nat} (hd : decode md.2.1 pc = .ok (.arraylength, 1)) (hK : 14 ≤ zK M a ∧ zK M a ≤ 19) (kk : zw G md d k0 n0 Q (pc + 1) lv (.int (nI (zN M a)) :: st) M) : zw G md d k0 n0 Q pc lv (.ref a :: st) M := by
  intro p e R s m args below meth c9 H locs ls B hr hm hw hS hl
  have kk' := kk p e R s m args below meth c9 H locs ls B hr hm hw hS hl
  obtain ⟨L, hL, hP, hD, hF, hN⟩ := hw
  obtain ⟨q, hq⟩ := zat (f := zE (gi G) M) ((hL a).mpr (by omega))
  have hT := B.2.2.2.2.2.2.2.2.2.1
  rcases (show zK M a = 14 ∨ zK M a = 15 ∨ zK M a = 16 ∨ zK M a = 17 ∨ zK M a = 18 ∨ zK M a = 19 by omega) with h | h | h | h | h | h
  · rw [zE_B h] at hq; exact va_alen B.1 B.2.1 hT hP q 0 hq rfl rfl hd kk'
  · rw [zE_I h] at hq; exact va_alen B.1 B.2.1 hT hP q 1 hq rfl rfl hd kk'
  · rw [zE_Z h] at hq; exact va_alen B.1 B.2.1 hT hP q 2 hq rfl rfl hd kk'
  · rw [zE_J h] at hq; exact va_alen B.1 B.2.1 hT hP q 3 hq rfl rfl hd kk'
  · rw [zE_V h] at hq; exact va_alen B.1 B.2.1 hT hP q 4 hq rfl rfl hd kk'
  · rw [zE_T h] at hq; exact va_alen B.1 B.2.1 hT hP q 5 hq rfl rfl hd kk'
/-- the script, and LEVEL_FULL -/
theorem zr_sld {i : Int32} (hd : decode md.2.1 pc = .ok (.iaload, 1)) (hi : vp_in i (gn G)) (kk : zw G md d k0 n0 Q (pc + 1) lv (.int (gx G i.toNatClampNeg) :: st) M) : zw G md d k0 n0 Q pc lv (.int i :: .ref (gb G) :: st) M := by
  intro p e R s m args below meth c9 H locs ls B hr hm hw hS hl
  have hO := B.2.2.2.2.2.2.2.2
  obtain ⟨h1, h2, h3, h4, h5, h6, h7, h8, h9, h10, h11, h12⟩ := id hO
  exact va_sld B.1 B.2.1 h4 (by omega) (Nat.not_le.mpr h10) hS hi hd (kk p e R s m args below meth c9 H locs ls B hr hm hw hS hl)
theorem zr_slen (hd : decode md.2.1 pc = .ok (.arraylength, 1)) (kk : zw G md d k0 n0 Q (pc + 1) lv (.int (nI (gn G)) :: st) M) : zw G md d k0 n0 Q pc lv (.ref (gb G) :: st) M := by
  intro p e R s m args below meth c9 H locs ls B hr hm hw hS hl
  have hO := B.2.2.2.2.2.2.2.2
  obtain ⟨h1, h2, h3, h4, h5, h6, h7, h8, h9, h10, h11, h12⟩ := id hO
  exact va_slen B.1 B.2.1 h4 (by omega) (Nat.not_le.mpr h10) hS hd (kk p e R s m args below meth c9 H locs ls B hr hm hw hS hl)
theorem zr_fld {i : Int32} (hd : decode md.2.1 pc = .ok (.iaload, 1)) (hi : vp_in i 2) (kk : zw G md d k0 n0 Q (pc + 1) lv (.int (zlf i.toNatClampNeg) :: st) M) : zw G md d k0 n0 Q pc lv (.int i :: .ref (gf G) :: st) M := by
  intro p e R s m args below meth c9 H locs ls B hr hm hw hS hl
  have hO := B.2.2.2.2.2.2.2.2
  obtain ⟨h1, h2, h3, h4, h5, h6, h7, h8, h9, h10, h11, h12⟩ := id hO
  exact va_sld B.1 B.2.1 h5 (by omega) (Nat.not_le.mpr h11) hS hi hd (kk p e R s m args below meth c9 H locs ls B hr hm hw hS hl)
theorem zr_gets {idx : Nat} (hd : decode md.2.1 pc = .ok (.getstatic idx, 3)) (hlk : Cond.fieldLink md.1.cls idx "LsmStore" "LEVEL_FULL" "[I" ∈ lw_tbl) (kk : zw G md d k0 n0 Q (pc + 3) lv (.ref (gf G) :: st) M) : zw G md d k0 n0 Q pc lv st M := by
  intro p e R s m args below meth c9 H locs ls B hr hm hw hS hl
  have hO := B.2.2.2.2.2.2.2.2
  obtain ⟨h1, h2, h3, h4, h5, h6, h7, h8, h9, h10, h11, h12⟩ := id hO
  exact va_gets B.1 B.2.1 h3 hS B.2.2.2.2.2.1 (zgw_use rfl (h1 _ hlk rfl) args) (fun x h => h) hd (kk p e R s m args below meth c9 H locs ls B hr hm hw hS hl)
/-- a row of ints, bytes or booleans is written -/
theorem zr_iast {a : Nat} {i x : Int32} (hd : decode md.2.1 pc = .ok (.iastore, 1)) (hK : zK M a = 15) (hi : vp_in i (zN M a)) (kk : zw G md d k0 n0 Q (pc + 1) lv st (zsetA M a (upd (zA M a) i.toNatClampNeg x))) : zw G md d k0 n0 Q pc lv (.int x :: .int i :: .ref a :: st) M := by
  intro p e R s m args below meth c9 H locs ls B hr hm hw hS hl
  obtain ⟨L, hL, hP, hD, hF, hN⟩ := hw
  have ha : a ∈ L := (hL a).mpr (by omega)
  obtain ⟨q, hq⟩ := zat (f := zE (gi G) M) ha
  have hq0 := hq
  rw [zE_I hK] at hq
  refine va_iast B.1 B.2.1 B.2.2.2.2.2.2.2.2.2.1 hP hD hS q 1 hq rfl hi hd (fun H1 locs1 hP1 hD1 hS1 => ?_)
  rw [zset hD ha hq0, zup (ids := gi G) (M := M) (M' := zsetA M a (upd (zA M a) i.toNatClampNeg x)) (by rw [zE_I (by exact hK), zsetA_A, va_up_self]; rfl) (fun b hb => zE_congr rfl rfl (by rw [zsetA_A, va_up_ne _ _ hb]) rfl rfl (fun _ => rfl) (fun _ => rfl))] at hP1 hD1
  exact kk p e R s m args below meth c9 H1 locs1 ls B hr hm ⟨L, hL, hP1, hD1, zfitU hF (fun h => by omega), hN⟩ hS1 hl
theorem zfit_nar (x : Int32) : fits .byte (.int (vp_nar .byte x)) = true := by rw [vp_nar_byte]; exact pk_fb x
theorem zr_bast {a : Nat} {i x : Int32} (hd : decode md.2.1 pc = .ok (.bastore, 1)) (hK : zK M a = 14) (hi : vp_in i (zN M a)) (kk : zw G md d k0 n0 Q (pc + 1) lv st (zsetA M a (upd (zA M a) i.toNatClampNeg (vp_nar .byte x)))) : zw G md d k0 n0 Q pc lv (.int x :: .int i :: .ref a :: st) M := by
  intro p e R s m args below meth c9 H locs ls B hr hm hw hS hl
  obtain ⟨L, hL, hP, hD, hF, hN⟩ := hw
  have ha : a ∈ L := (hL a).mpr (by omega)
  obtain ⟨q, hq⟩ := zat (f := zE (gi G) M) ha
  have hq0 := hq
  rw [zE_B hK] at hq
  refine va_bast B.1 B.2.1 B.2.2.2.2.2.2.2.2.2.1 hP hD hS q 0 hq rfl hi hd (fun H1 locs1 hP1 hD1 hS1 => ?_)
  rw [zset hD ha hq0, zup (ids := gi G) (M := M) (M' := zsetA M a (upd (zA M a) i.toNatClampNeg (vp_nar .byte x))) (by rw [zE_B (by exact hK), zsetA_A, va_up_self]; rfl) (fun b hb => zE_congr rfl rfl (by rw [zsetA_A, va_up_ne _ _ hb]) rfl rfl (fun _ => rfl) (fun _ => rfl))] at hP1 hD1
  refine kk p e R s m args below meth c9 H1 locs1 ls B hr hm ⟨L, hL, hP1, hD1, zfitU hF (fun h j => ?_), hN⟩ hS1 hl
  unfold upd
  split
  · exact zfit_nar x
  · exact hF a j hK
theorem zr_zast {a : Nat} {i x : Int32} (hd : decode md.2.1 pc = .ok (.bastore, 1)) (hK : zK M a = 16) (hi : vp_in i (zN M a)) (kk : zw G md d k0 n0 Q (pc + 1) lv st (zsetA M a (upd (zA M a) i.toNatClampNeg (vp_nar .boolean x)))) : zw G md d k0 n0 Q pc lv (.int x :: .int i :: .ref a :: st) M := by
  intro p e R s m args below meth c9 H locs ls B hr hm hw hS hl
  obtain ⟨L, hL, hP, hD, hF, hN⟩ := hw
  have ha : a ∈ L := (hL a).mpr (by omega)
  obtain ⟨q, hq⟩ := zat (f := zE (gi G) M) ha
  have hq0 := hq
  rw [zE_Z hK] at hq
  refine va_zast B.1 B.2.1 B.2.2.2.2.2.2.2.2.2.1 hP hD hS q 2 hq rfl hi hd (fun H1 locs1 hP1 hD1 hS1 => ?_)
  rw [zset hD ha hq0, zup (ids := gi G) (M := M) (M' := zsetA M a (upd (zA M a) i.toNatClampNeg (vp_nar .boolean x))) (by rw [zE_Z (by exact hK), zsetA_A, va_up_self]; rfl) (fun b hb => zE_congr rfl rfl (by rw [zsetA_A, va_up_ne _ _ hb]) rfl rfl (fun _ => rfl) (fun _ => rfl))] at hP1 hD1
  exact kk p e R s m args below meth c9 H1 locs1 ls B hr hm ⟨L, hL, hP1, hD1, zfitU hF (fun h => by omega), hN⟩ hS1 hl
theorem zsetJ_J (M : zM) (a : Nat) (g : Nat → Int64) : zJ (zsetJ M a g) = va_up (zJ M) a g := rfl
theorem zsetB_B (M : zM) (a : Nat) (g : Nat → Option Nat) : zB (zsetB M a g) = va_up (zB M) a g := rfl
theorem zr_last {a : Nat} {i : Int32} {x : Int64} (hd : decode md.2.1 pc = .ok (.lastore, 1)) (hK : zK M a = 17) (hi : vp_in i (zN M a)) (kk : zw G md d k0 n0 Q (pc + 1) lv st (zsetJ M a (vp_updL (zJ M a) i.toNatClampNeg x))) : zw G md d k0 n0 Q pc lv (.long x :: .int i :: .ref a :: st) M := by
  intro p e R s m args below meth c9 H locs ls B hr hm hw hS hl
  obtain ⟨L, hL, hP, hD, hF, hN⟩ := hw
  have ha : a ∈ L := (hL a).mpr (by omega)
  obtain ⟨q, hq⟩ := zat (f := zE (gi G) M) ha
  have hq0 := hq
  rw [zE_J hK] at hq
  refine va_last B.1 B.2.1 B.2.2.2.2.2.2.2.2.2.1 hP hD hS q 3 hq rfl hi hd (fun H1 locs1 hP1 hD1 hS1 => ?_)
  rw [zset hD ha hq0, zup (ids := gi G) (M := M) (M' := zsetJ M a (vp_updL (zJ M a) i.toNatClampNeg x)) (by rw [zE_J (by exact hK), zsetJ_J, va_up_self]; rfl) (fun b hb => zE_congr rfl rfl rfl rfl (by rw [zsetJ_J, va_up_ne _ _ hb]) (fun _ => rfl) (fun _ => rfl))] at hP1 hD1
  exact kk p e R s m args below meth c9 H1 locs1 ls B hr hm ⟨L, hL, hP1, hD1, hF, hN⟩ hS1 hl
theorem zr_aast {a v : Nat} {i : Int32} (hd : decode md.2.1 pc = .ok (.aastore, 1)) (hK : (zK M a = 18 ∧ zK M v = 5) ∨ (zK M a = 19 ∧ zK M v = 9)) (hi : vp_in i (zN M a)) (kk : zw G md d k0 n0 Q (pc + 1) lv st (zsetB M a (va_up (zB M a) i.toNatClampNeg (some v)))) : zw G md d k0 n0 Q pc lv (.ref v :: .int i :: .ref a :: st) M := by
  intro p e R s m args below meth c9 H locs ls B hr hm hw hS hl
  obtain ⟨L, hL, hP, hD, hF, hN⟩ := hw
  have ha : a ∈ L := (hL a).mpr (by omega)
  have hva : v ∈ L := (hL v).mpr (by omega)
  obtain ⟨q, hq⟩ := zat (f := zE (gi G) M) ha
  obtain ⟨qv, hqv⟩ := zat (f := zE (gi G) M) hva
  have hq0 := hq
  have hT := B.2.2.2.2.2.2.2.2.2.1
  have fin : ∀ (H1 : Heap) (locs1 : List Loc), va_P (gD G) vwCl (va_pl L (zE (gi G) (zsetB M a (va_up (zB M a) i.toNatClampNeg (some v))))) H1 → va_D (gA G) (va_pl L (zE (gi G) (zsetB M a (va_up (zB M a) i.toNatClampNeg (some v))))) → va_S (gA G) s.heap H1 locs1 → W p (gL G) e R s m args below meth c9 H1 locs1 (zC M - k0) (zS M - n0) (zZ G k0 n0 Q below s) (F0 m (pc + 1) ls st) :=
    fun H1 locs1 hP1 hD1 hS1 => kk p e R s m args below meth c9 H1 locs1 ls B hr hm ⟨L, hL, hP1, hD1, hF, hN⟩ hS1 hl
  have oth : ∀ b, b ≠ a → zE (gi G) (zsetB M a (va_up (zB M a) i.toNatClampNeg (some v))) b = zE (gi G) M b := fun b hb => zE_congr rfl rfl rfl (by rw [zsetB_B, va_up_ne _ _ hb]) rfl (fun _ => rfl) (fun _ => rfl)
  rcases hK with ⟨hK, hKv⟩ | ⟨hK, hKv⟩
  · rw [zE_V hK] at hq
    rw [zE_obj (c := 4) hKv (by omega)] at hqv
    refine va_astq B.1 B.2.1 hT hP hD hS q 4 qv 4 (r := (RX4, TX4, 6)) hq rfl hqv rfl hi hd (fun H1 locs1 hP1 hD1 hS1 => ?_)
    rw [zset hD ha hq0, zup (ids := gi G) (M := M) (M' := zsetB M a (va_up (zB M a) i.toNatClampNeg (some v))) (by rw [zE_V (by exact hK), zsetB_B, va_up_self]; rfl) oth] at hP1 hD1
    exact fin H1 locs1 hP1 hD1 hS1
  · rw [zE_T hK] at hq
    rw [zE_obj (c := 8) hKv (by omega)] at hqv
    refine va_astq B.1 B.2.1 hT hP hD hS q 5 qv 8 (r := (RX8, TX8, 5)) hq rfl hqv rfl hi hd (fun H1 locs1 hP1 hD1 hS1 => ?_)
    rw [zset hD ha hq0, zup (ids := gi G) (M := M) (M' := zsetB M a (va_up (zB M a) i.toNatClampNeg (some v))) (by rw [zE_T (by exact hK), zsetB_B, va_up_self]; rfl) oth] at hP1 hD1
    exact fin H1 locs1 hP1 hD1 hS1
/-- System.arraycopy of bytes or ints -/
theorem zr_copy {idx a b : Nat} {sp dp n : Int32} (hd : decode md.2.1 pc = .ok (.invokestatic idx, 3)) (hlk : Cond.methodLink md.1.cls idx arraycopyName ∈ lw_tbl) (hK : (zK M a = 14 ∧ zK M b = 14) ∨ (zK M a = 15 ∧ zK M b = 15))
    (h1 : ¬ sp < 0) (h2 : ¬ dp < 0) (h3 : ¬ n < 0) (h4 : sp.toNatClampNeg + n.toNatClampNeg ≤ zN M a) (h5 : dp.toNatClampNeg + n.toNatClampNeg ≤ zN M b) (hd1 : 2 ≤ d) (hst : (st.map fun v => v.category).sum ≤ 8)
    (kk : zw G md d k0 n0 Q (pc + 3) lv st (zsetA M b (va_cpy (zA M a) (zA M b) sp.toNatClampNeg dp.toNatClampNeg n.toNatClampNeg))) : zw G md d k0 n0 Q pc lv (.int n :: .int dp :: .ref b :: .int sp :: .ref a :: st) M := by
  intro p e R s m args below meth c9 H locs ls B hr hm hw hS hl
  obtain ⟨L, hL, hP, hD, hF, hN⟩ := hw
  have ha : a ∈ L := (hL a).mpr (by omega)
  have hb : b ∈ L := (hL b).mpr (by omega)
  obtain ⟨qa, hqa⟩ := zat (f := zE (gi G) M) ha
  obtain ⟨qb, hqb⟩ := zat (f := zE (gi G) M) hb
  have hq0 := hqb
  have hO := B.2.2.2.2.2.2.2.2
  have hT := hO.2.1
  have oth : ∀ x, x ≠ b → zE (gi G) (zsetA M b (va_cpy (zA M a) (zA M b) sp.toNatClampNeg dp.toNatClampNeg n.toNatClampNeg)) x = zE (gi G) M x := fun x hx => zE_congr rfl rfl (by rw [zsetA_A, va_up_ne _ _ hx]) rfl rfl (fun _ => rfl) (fun _ => rfl)
  have hml : c9.maxLocals = ls.size := by rw [B.2.2.2.2.1, hl.1]
  have hnw : nativeFrameWords "java/lang/System" "arraycopy" 5 + 11 ≤ 68 := by decide +kernel
  have hfr : 1 ≤ R.frames := by omega
  have hlo : (st.map fun v => v.category).sum + (nativeFrameWords "java/lang/System" "arraycopy" 5 + 11) ≤ R.locals := by omega
  have hfit : ∀ x i, zK M x = 14 → fits .byte (.int (zA M x i)) = true := hF
  rcases hK with ⟨hKa, hKb⟩ | ⟨hKa, hKb⟩
  · rw [zE_B hKa] at hqa
    rw [zE_B hKb] at hqb
    refine va_copyi B.1 B.2.1 hml B.2.2.2.2.2.1 (zgw_use rfl (hO.1 _ hlk rfl) args) (zgw_use rfl (hO.1 _ (show Cond.native arraycopyName ∈ lw_tbl by decide +kernel) rfl) args) (zgw_use rfl (hO.1 _ (show Cond.static arraycopyName ∈ lw_tbl by decide +kernel) rfl) args) (zgw_use rfl (hO.1 _ (show Cond.initialized "java/lang/System" ∈ lw_tbl by decide +kernel) rfl) args) hT hP hD hS qa qb 0 0 hqa hqb rfl rfl rfl h1 h2 h3 h4 h5 (fun i _ => hF a _ hKa) hfr hlo hd (fun H1 locs1 hP1 hD1 hS1 => ?_)
    rw [zset hD hb hq0, zup (ids := gi G) (M := M) (M' := zsetA M b (va_cpy (zA M a) (zA M b) sp.toNatClampNeg dp.toNatClampNeg n.toNatClampNeg)) (by rw [zE_B (by exact hKb), zsetA_A, va_up_self]; rfl) oth] at hP1 hD1
    refine kk p e R s m args below meth c9 H1 locs1 ls B hr hm ⟨L, hL, hP1, hD1, zfitU hF (fun h j => ?_), hN⟩ hS1 hl
    unfold va_cpy
    split
    · exact hF a _ hKa
    · exact hF b _ hKb
  · rw [zE_I hKa] at hqa
    rw [zE_I hKb] at hqb
    refine va_copyi B.1 B.2.1 hml B.2.2.2.2.2.1 (zgw_use rfl (hO.1 _ hlk rfl) args) (zgw_use rfl (hO.1 _ (show Cond.native arraycopyName ∈ lw_tbl by decide +kernel) rfl) args) (zgw_use rfl (hO.1 _ (show Cond.static arraycopyName ∈ lw_tbl by decide +kernel) rfl) args) (zgw_use rfl (hO.1 _ (show Cond.initialized "java/lang/System" ∈ lw_tbl by decide +kernel) rfl) args) hT hP hD hS qa qb 1 1 hqa hqb rfl rfl rfl h1 h2 h3 h4 h5 (fun i _ => rfl) hfr hlo hd (fun H1 locs1 hP1 hD1 hS1 => ?_)
    rw [zset hD hb hq0, zup (ids := gi G) (M := M) (M' := zsetA M b (va_cpy (zA M a) (zA M b) sp.toNatClampNeg dp.toNatClampNeg n.toNatClampNeg)) (by rw [zE_I (by exact hKb), zsetA_A, va_up_self]; rfl) oth] at hP1 hD1
    exact kk p e R s m args below meth c9 H1 locs1 ls B hr hm ⟨L, hL, hP1, hD1, zfitU hF (fun h => by omega), hN⟩ hS1 hl
end ZA
