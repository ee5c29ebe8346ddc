/-! ===== LsmStore$Log: enlist, append, replay, clearOther, collect; Rows.add ===== -/
theorem insM_self {ad : Nat → Nat} {M : zM} {E : List Nat} (h : Lg ad M E) : insM ad M (zA M (ad 16)) E.length = M := by
  unfold insM
  rw [zsetA_self rfl, zput_self h.1]
theorem insM_A {ad : Nat → Nat} {M : zM} (hL : Lay ad M) (g : Nat → Int32) (c : Nat) {i : Nat} (h : i ≠ 16) (hi : i < 582) : zA (insM ad M g c) (ad i) = zA M (ad i) := zsetA_ms (M := M) (hL.ne h) rfl
theorem insM_lg {ad : Nat → Nat} {M : zM} {g : Nat → Int32} {E : List Nat} (h : Ld g E) (hl : E.length ≤ 2048) : Lg ad (insM ad M g E.length) E := ⟨zput_hit _ _ _ _, hl, fun i q hi => (congrFun (zsetA_hit _ _ _) i).trans (h i q hi)⟩
theorem Ins.eb {D : Nat → Int32} {E E' : List Nat} {a : Nat} (h : Ins D E a E') (hE : Eb D E) (ha : a < 303096 ∧ ecm D a < 2 ^ 31) : Eb D E' := fun q hq => by
  rcases (h.2.1 q).mp hq with rfl | ⟨hq, -⟩
  · exact ha
  · exact hE q hq
theorem InsL.facts {D : Nat → Int32} : ∀ {ps E E' : List Nat}, InsL D E ps E' → Eb D E → E.Pairwise (pre D) → Eb D ps → Eb D E' ∧ E'.Pairwise (pre D) ∧ E'.length ≤ E.length + ps.length
  | [], E, E', h, h1, h2, _ => by cases h; exact ⟨h1, h2, by simp⟩
  | a :: ps, E, E', h, h1, h2, h3 => by
    obtain ⟨E1, hI, h⟩ := h
    have := InsL.facts h (hI.eb h1 (h3 a List.mem_cons_self)) hI.1 (fun q hq => h3 q (List.mem_cons_of_mem _ hq))
    exact ⟨this.1, this.2.1, by have := this.2.2; have := hI.2.2; rw [List.length_cons]; omega⟩
set_option maxRecDepth 100000 in
set_option maxHeartbeats 4000000 in
theorem l_Log_enlist {G : zG} {ad : Nat → Nat} {d k0 n0 s0 e : Nat} {Q : zOut → zM → Prop} (hd : 3 ≤ d) (he : e < 2 ^ 31) : ∀ (ps : List Nat) (i at_ : Nat) (E : List Nat) (M : zM), (zC M ≤ 600128 ∧ zS M ≤ 7301098) → Lay ad M → Lg ad M E → Eb (zA M (ad 2)) E → E.Pairwise (pre (zA M (ad 2))) → Chn (zA M (ad 2)) at_ ps e → Eb (zA M (ad 2)) ps → E.length + ps.length ≤ 2048 → i + ps.length ≤ 2048 → (∀ (g : Nat → Int32) (E' : List Nat), InsL (zA M (ad 2)) E ps E' → Ld g E' → Q (.inl none) (insM ad M g E'.length)) → zw G mX5_enlist d k0 n0 Q 5 [some (.ref ((ad 15))), some (.int (nI s0)), some (.int (nI e)), some (.int (nI at_)), some (.int (nI i))] [] M := by
  intro ps
  induction ps with
  | nil =>
    intro i at_ E M hcb hL hG hE hs hch hps hl1 hl2 hq
    obtain ⟨hg1, hg2, hg3⟩ := id hG
    have hch2 : at_ = e := hch
    rw [List.length_nil] at hl2
    refine zr_iload dX5_enlist_5 rfl ?_
    refine zr_sipush (v := nI 2048) dX5_enlist_7 (by decide) ?_
    refine zr_icmp_geN 40 dX5_enlist_10 (by decide) (by omega) (by omega) (fun h10 => ?_) (fun h10 => ?_)
    · refine zr_vret dX5_enlist_40 rfl ?_
      first | (exfalso; omega) | (have h9 := hq (zA M (ad 16)) E rfl hg3; rw [insM_self hG] at h9; exact h9)
    · refine zr_iload_n dX5_enlist_13 rfl ?_
      refine zr_iload_n dX5_enlist_14 rfl ?_
      refine zr_icmp_geN 40 dX5_enlist_15 (by decide) (by omega) (by omega) (fun h15 => ?_) (fun h15 => ?_)
      · refine zr_vret dX5_enlist_40 rfl ?_
        first | (exfalso; omega) | (have h9 := hq (zA M (ad 16)) E rfl hg3; rw [insM_self hG] at h9; exact h9)
      · exfalso; omega
  | cons p ps ih =>
    intro i at_ E M hcb hL hG hE hs hch hps hl1 hl2 hq
    obtain ⟨hg1, hg2, hg3⟩ := id hG
    obtain ⟨e9, hch⟩ := id hch
    subst e9
    have hle := hch.le.1
    have hb := hps p List.mem_cons_self
    rw [List.length_cons] at hl1 hl2
    have hln : eln (zA M (ad 2)) p = 8 + ekl (zA M (ad 2)) p + evl (zA M (ad 2)) p := rfl
    refine zr_iload dX5_enlist_5 rfl ?_
    refine zr_sipush (v := nI 2048) dX5_enlist_7 (by decide) ?_
    refine zr_icmp_geN 40 dX5_enlist_10 (by decide) (by omega) (by omega) (fun h10 => ?_) (fun h10 => ?_)
    · refine zr_vret dX5_enlist_40 rfl ?_
      exfalso; omega
    · refine zr_iload_n dX5_enlist_13 rfl ?_
      refine zr_iload_n dX5_enlist_14 rfl ?_
      refine zr_icmp_geN 40 dX5_enlist_15 (by decide) (by omega) (by omega) (fun h15 => ?_) (fun h15 => ?_)
      · refine zr_vret dX5_enlist_40 rfl ?_
        exfalso; omega
      · refine zr_aload_n dX5_enlist_18 rfl ?_
        refine zr_iload_n dX5_enlist_19 rfl ?_
        refine zr_callV (md' := mX5_enlistOne) (As := [.int (nI p)]) dX5_enlist_20 mlX5_63 okX5_enlistOne rfl inX5_enlistOne slX5_enlistOne (by decide) (hL.K 15 6) rfl (by omega) (Nat.le_of_ble_eq_true rfl) hcb (c_Log_enlistOne (d := d - 1) (by omega) hcb hL hG hE hs hb.1 hb.2 (by omega)) (fun k M1 h => by cases h.1) (fun v M1 hq => ?_)
        obtain ⟨e0, g, E1, eM, hLd, hI⟩ := hq
        cases e0
        have hL1 : Lay ad M1 := by rw [eM]; exact hL
        have hcb1 : zC M1 ≤ 600128 ∧ zS M1 ≤ 7301098 := by rw [eM]; exact hcb
        have hD1 : zA M1 (ad 2) = zA M (ad 2) := by rw [eM]; exact insM_A hL _ _ (by decide) (by decide)
        have hI3 := hI.2.2
        refine zr_iload_n dX5_enlist_23 rfl ?_
        refine zr_aload_n dX5_enlist_24 rfl ?_
        refine zr_getR dX5_enlist_25 lkX5_15 (by decide) (by decide) rfl (hL1.K 15 6) (hL1.R 160 15 1) ?_
        refine zr_iload_n dX5_enlist_28 rfl ?_
        refine zr_callV (md' := mX1_entryLength) (As := [.int (nI p)]) dX5_enlist_29 mlX5_67 okX1_entryLength rfl inX1_entryLength slX1_entryLength (by decide) (hL1.K 1 2) rfl (by omega) (Nat.le_of_ble_eq_true rfl) hcb1 (c_Disk_entryLength (d := d - 1) hcb1 hL1.dk (by omega)) (fun k M1 h => by cases h.1) (fun v M2 hq => ?_)
        obtain ⟨e0, e1⟩ := hq
        cases e0
        rw [e1, hD1]
        refine zr_iaddN dX5_enlist_32 ?_
        refine zr_istore_n (lv' := [some (.ref ((ad 15))), some (.int (nI s0)), some (.int (nI e)), some (.int (nI (p + (eln (zA M (ad 2)) p)))), some (.int (nI i))]) dX5_enlist_33 (Nat.le_of_ble_eq_true rfl) (Nat.le_of_ble_eq_true rfl) rfl rfl ?_
        refine zr_iincN (n := 1) (lv' := [some (.ref ((ad 15))), some (.int (nI s0)), some (.int (nI e)), some (.int (nI (p + (eln (zA M (ad 2)) p)))), some (.int (nI (i + 1)))]) dX5_enlist_34 (Nat.le_of_ble_eq_true rfl) (Nat.le_of_ble_eq_true rfl) rfl rfl rfl ?_
        refine zr_goto 5 dX5_enlist_37 (by decide) ?_
        subst eM
        refine ih (i + 1) (p + eln (zA M (ad 2)) p) E1 (insM ad M g E1.length) hcb hL (insM_lg hLd (by omega)) (by rw [hD1]; exact hI.eb hE hb) (by rw [hD1]; exact hI.1) (by rw [hD1]; exact hch) (by rw [hD1]; exact fun q hq => hps q (List.mem_cons_of_mem _ hq)) (by omega) (by omega) (fun g2 E2 h1 h2 => ?_)
        rw [insM_insM]
        rw [hD1] at h1
        exact hq g2 E2 ⟨E1, hI, h1⟩ h2
set_option maxRecDepth 100000 in
set_option maxHeartbeats 4000000 in
theorem c_Log_enlist {G : zG} {ad : Nat → Nat} {d s0 e : Nat} {E ps : List Nat} {M : zM} (hd : 3 ≤ d) (hcb : zC M ≤ 600128 ∧ zS M ≤ 7301098) (hL : Lay ad M) (hG : Lg ad M E) (hE : Eb (zA M (ad 2)) E) (hs : E.Pairwise (pre (zA M (ad 2)))) (he : e < 2 ^ 31) (hch : Chn (zA M (ad 2)) s0 ps e) (hps : Eb (zA M (ad 2)) ps) (hl1 : E.length + ps.length ≤ 2048)  : zMet G mX5_enlist d [.ref ((ad 15)), .int (nI s0), .int (nI e)] M (fun o M' => o = .inl none ∧ ∃ (g : Nat → Int32) (E' : List Nat), M' = insM ad M g E'.length ∧ InsL (zA M (ad 2)) E ps E' ∧ Ld g E') := by
  refine zMet_of (by decide +kernel) (Nat.le_of_ble_eq_true rfl) rfl hcb ?_
  show zw G mX5_enlist d _ _ _ 0 [some (.ref ((ad 15))), some (.int (nI s0)), some (.int (nI e)), none, none] [] M
  refine zr_iload_n dX5_enlist_0 rfl ?_
  refine zr_istore_n (lv' := [some (.ref ((ad 15))), some (.int (nI s0)), some (.int (nI e)), some (.int (nI s0)), none]) dX5_enlist_1 (Nat.le_of_ble_eq_true rfl) (Nat.le_of_ble_eq_true rfl) rfl rfl ?_
  refine zr_iconst (v := nI 0) dX5_enlist_2 (by decide) ?_
  refine zr_istore (lv' := [some (.ref ((ad 15))), some (.int (nI s0)), some (.int (nI e)), some (.int (nI s0)), some (.int (nI 0))]) dX5_enlist_3 (Nat.le_of_ble_eq_true rfl) (Nat.le_of_ble_eq_true rfl) rfl rfl ?_
  refine l_Log_enlist hd he ps 0 s0 E M hcb hL hG hE hs hch hps hl1 (by omega) (fun g E1 h1 h2 => ⟨rfl, g, E1, rfl, h1, h2⟩)
/-- the memory with other bytes on the disk and other counters of the power -/
def pwM (ad : Nat → Nat) (M : zM) (D : Nat → Int32) (lf cn : Nat) : zM := zput (zput (zsetA M (ad 2) D) 36 (ad 1) (nI lf)) 39 (ad 1) (nI cn)
def cutM (ad : Nat → Nat) (M : zM) (D : Nat → Int32) (lf cn : Nat) : zM := zthr (zput (zput (pwM ad M D lf cn) 34 (ad 1) (nI 0)) 35 (ad 1) (nI 3))
theorem zput_comm (M : zM) {f f' : Nat} (a a' : Nat) (v w : Int32) (h : f ≠ f') : zput (zput M f a v) f' a' w = zput (zput M f' a' w) f a v := by
  have e : (fun x y => if x = f' ∧ y = a' then w else zI (zput M f a v) x y) = (fun x y => if x = f ∧ y = a then v else zI (zput M f' a' w) x y) := by
    funext x y
    rw [zput_I, zput_I]
    by_cases h1 : x = f ∧ y = a
    · rw [if_neg (fun z => h (h1.1.symm.trans z.1)), if_pos h1, if_pos h1]
    · rw [if_neg h1, if_neg h1]
  exact Prod.ext e rfl
theorem pwM_pwM (ad : Nat → Nat) (M : zM) (D D' : Nat → Int32) (lf cn lf' cn' : Nat) : pwM ad (pwM ad M D lf cn) D' lf' cn' = pwM ad M D' lf' cn' := by
  unfold pwM
  rw [zsetA_put, zsetA_put, zsetA_setA, zput_comm _ _ _ _ _ (show (39 : Nat) ≠ 36 by decide), zput_put, zput_put]
theorem cutM_pwM (ad : Nat → Nat) (M : zM) (D D' : Nat → Int32) (lf cn lf' cn' : Nat) : cutM ad (pwM ad M D lf cn) D' lf' cn' = cutM ad M D' lf' cn' := by
  unfold cutM; rw [pwM_pwM]
theorem pwM_set (ad : Nat → Nat) (M : zM) (D D' : Nat → Int32) (lf cn : Nat) : zsetA (pwM ad M D lf cn) (ad 2) D' = pwM ad M D' lf cn := by
  unfold pwM
  rw [zsetA_put, zsetA_put, zsetA_setA]
theorem pwM_hit (ad : Nat → Nat) (M : zM) (D : Nat → Int32) (lf cn : Nat) : zA (pwM ad M D lf cn) (ad 2) = D := va_up_self _ _ _
theorem pwM_A {ad : Nat → Nat} {M : zM} (hL : Lay ad M) (D : Nat → Int32) (lf cn : Nat) {i : Nat} (h : i ≠ 2) (hi : i < 582) : zA (pwM ad M D lf cn) (ad i) = zA M (ad i) := zsetA_ms (M := M) (hL.ne h) rfl
theorem pwM_I {ad : Nat → Nat} {M : zM} (D : Nat → Int32) (lf cn : Nat) {f a : Nat} (h1 : f ≠ 36) (h2 : f ≠ 39) : zI (pwM ad M D lf cn) f a = zI M f a := zput_ms h2 (zput_ms h1 rfl)
theorem pwM_self {ad : Nat → Nat} {M : zM} {on wh lf ct du cn : Nat} (h : Pw ad M on wh lf ct du cn) : pwM ad M (zA M (ad 2)) lf cn = M := by
  unfold pwM
  rw [zsetA_self rfl, zput_self h.2.2.1, zput_self h.2.2.2.2.2.1]
theorem wOk_pw (ad : Nat → Nat) (M : zM) (fr s p n lf cn : Nat) : wOk ad M fr s p n lf cn = pwM ad M (va_cpy (zA M fr) (zA M (ad 2)) s p n) lf cn := rfl
theorem wCut_pw (ad : Nat → Nat) (M : zM) (D : Nat → Int32) (fr s p n lf cn : Nat) : wCut ad (pwM ad M D lf cn) fr s p n = cutM ad M (va_cpy (zA (pwM ad M D lf cn) fr) D s p n) lf cn := by
  unfold wCut cutM
  rw [pwM_hit, pwM_set]
theorem Pw.pw {ad : Nat → Nat} {M : zM} {on wh lf ct du cn : Nat} (h : Pw ad M on wh lf ct du cn) (D : Nat → Int32) {lf' cn' : Nat} (h1 : lf' ≤ 400) (h2 : cn' ≤ 1) : Pw ad (pwM ad M D lf' cn') on wh lf' ct du cn' := by
  obtain ⟨a1, a2, a3, a4, a5, a6, b1, b2, b3, b4, b5, b6⟩ := h
  exact ⟨(pwM_I D _ _ (by decide) (by decide)).trans a1, (pwM_I D _ _ (by decide) (by decide)).trans a2, zput_ms (by decide) (zput_hit _ _ _ _), (pwM_I D _ _ (by decide) (by decide)).trans a4, (pwM_I D _ _ (by decide) (by decide)).trans a5, zput_hit _ _ _ _, b1, b2, h1, b4, b5, h2⟩
theorem va_cpy_app {α : Type} (f g : Nat → α) (s p n m : Nat) : va_cpy f (va_cpy f g s p n) (s + n) (p + n) m = va_cpy f g s p (n + m) := by
  funext k
  unfold va_cpy
  by_cases h1 : p + n ≤ k ∧ k < p + n + m
  · rw [if_pos h1, if_pos (by omega)]; congr 1; omega
  · rw [if_neg h1]
    by_cases h2 : p ≤ k ∧ k < p + n
    · rw [if_pos h2, if_pos (by omega)]
    · rw [if_neg h2, if_neg (by omega)]
theorem Lay.pw {ad : Nat → Nat} {M : zM} (h : Lay ad M) (D : Nat → Int32) (lf cn : Nat) : Lay ad (pwM ad M D lf cn) := h
set_option maxRecDepth 100000 in
set_option maxHeartbeats 4000000 in
theorem l_Log_append {G : zG} {ad : Nat → Nat} {d k0 n0 on wh lf0 ct du st ar us len : Nat} {M : zM} {Q : zOut → zM → Prop} (hd : 8 ≤ d) (hcb : zC M ≤ 600128 ∧ zS M ≤ 7301098) (hcx : zC M + 1 ≤ 600128 ∧ zS M + 6 ≤ 7301098) (hL : Lay ad M) (hb3 : zI M 3 (ad 10) = nI len) (hP : Pw ad M on wh lf0 ct du 0) (hst : st = 4096 + ar * 18432 + us) (har : ar ≤ 1) (hus : us + len < 18432) (hlen : 3 ≤ len) (hl15 : len ≤ 15363) (hk : ∀ i lf cn : Nat, lf ≤ 400 → cn ≤ 1 → (cn = 1 ↔ du = 1) → ¬ (du = 1 ∧ wh = 0) → zw G mX5_append d k0 n0 Q 107 [some (.ref ((ad 15))), some (.ref ((ad 10))), some (.int (nI st)), some (.int (nI len)), some (.int (nI i)), none, none] [] (pwM ad M (va_cpy (zA M (ad 11)) (zA M (ad 2)) 0 st len) lf cn)) (hx : ∀ r lf cn : Nat, r < len → du = 1 → wh = 0 → lf ≤ 400 → cn ≤ 1 → Q (.inr 2) (cutM ad M (va_cpy (zA M (ad 11)) (zA M (ad 2)) 0 st r) lf cn)) : ∀ (m dn i lf cn : Nat), len - dn = m → dn ≤ len → lf ≤ 400 → (dn < len → cn = 0 ∧ 512 * i ≤ us + dn) → cn ≤ 1 → (dn = len → (cn = 1 ↔ du = 1) ∧ ¬ (du = 1 ∧ wh = 0)) → i ≤ 36 → zw G mX5_append d k0 n0 Q 23 [some (.ref ((ad 15))), some (.ref ((ad 10))), some (.int (nI st)), some (.int (nI dn)), some (.int (nI i)), none, none] [] (pwM ad M (va_cpy (zA M (ad 11)) (zA M (ad 2)) 0 st dn) lf cn) := by
  intro m
  induction m using Nat.strongRecOn with
  | _ m ih =>
    intro dn i lf cn hm hdn hlf hcn hcn1 hend hi
    have hdu := hP.2.2.2.2.2.2.2.2.2.2.1
    refine zr_iload dX5_append_23 rfl ?_
    refine zr_bipush (v := nI 36) dX5_append_25 (by decide) ?_
    refine zr_icmp_geN 107 dX5_append_27 (by decide) (by omega) (by omega) (fun h27 => ?_) (fun h27 => ?_)
    · have e9 : dn = len := by omega
      subst e9
      exact hk i lf cn hlf (by omega) (by omega) (by omega)
    · refine zr_iload_n dX5_append_30 rfl ?_
      refine zr_aload_n dX5_append_31 rfl ?_
      refine zr_getI dX5_append_32 lkX5_26 (by decide) (by decide) rfl (hL.K 10 1) ?_
      refine zr_as (y := (nI len)) ((pwM_I _ _ _ (by decide) (by decide)).trans hb3) ?_
      refine zr_icmp_geN 107 dX5_append_35 (by decide) (by omega) (by omega) (fun h35 => ?_) (fun h35 => ?_)
      · have e9 : dn = len := by omega
        subst e9
        exact hk i lf cn hlf (by omega) (by omega) (by omega)
      · refine zr_iload_n dX5_append_38 rfl ?_
        refine zr_iload_n dX5_append_39 rfl ?_
        refine zr_iaddN dX5_append_40 ?_
        refine zr_istore (lv' := [some (.ref ((ad 15))), some (.ref ((ad 10))), some (.int (nI st)), some (.int (nI dn)), some (.int (nI i)), some (.int (nI (st + dn))), none]) dX5_append_41 (Nat.le_of_ble_eq_true rfl) (Nat.le_of_ble_eq_true rfl) rfl rfl ?_
        refine zr_aload_n dX5_append_43 rfl ?_
        refine zr_getI dX5_append_44 lkX5_26 (by decide) (by decide) rfl (hL.K 10 1) ?_
        refine zr_as (y := (nI len)) ((pwM_I _ _ _ (by decide) (by decide)).trans hb3) ?_
        refine zr_iload_n dX5_append_47 rfl ?_
        refine zr_isubN dX5_append_48 (by omega) ?_
        refine zr_sipush (v := nI 512) dX5_append_49 (by decide) ?_
        refine zr_iload dX5_append_52 rfl ?_
        refine zr_sipush (v := nI 512) dX5_append_54 (by decide) ?_
        refine zr_iremN dX5_append_57 (by omega) (by omega) (by omega) ?_
        refine zr_isubN dX5_append_58 (by omega) ?_
        refine zr_callS (md' := mJ9_min_7cf53) (As := [.int (nI (len - dn)), .int (nI (512 - ((st + dn) % 512)))]) dX5_append_59 mlX5_37 okJ9_min_7cf53 rfl stJ9_min_7cf53 rfl (by omega) (Nat.le_of_ble_eq_true rfl) hcb (c_min (d := d - 1) hcb (by omega) (by omega)) (fun k M1 h => by cases h.1) (fun v M1 hq => ?_)
        obtain ⟨e0, e1⟩ := hq
        cases e0
        rw [e1]
        obtain ⟨pi, hpi⟩ : ∃ pi, pi = min (len - dn) (512 - ((st + dn) % 512)) := ⟨_, rfl⟩
        rw [← hpi]
        refine zr_istore (lv' := [some (.ref ((ad 15))), some (.ref ((ad 10))), some (.int (nI st)), some (.int (nI dn)), some (.int (nI i)), some (.int (nI (st + dn))), some (.int (nI pi))]) dX5_append_62 (Nat.le_of_ble_eq_true rfl) (Nat.le_of_ble_eq_true rfl) rfl rfl ?_
        refine zr_aload_n dX5_append_64 rfl ?_
        refine zr_getR dX5_append_65 lkX5_15 (by decide) (by decide) rfl (hL.K 15 6) (hL.R 160 15 1) ?_
        refine zr_iload dX5_append_68 rfl ?_
        refine zr_aload_n dX5_append_70 rfl ?_
        refine zr_getR dX5_append_71 lkX5_43 (by decide) (by decide) rfl (hL.K 10 1) (hL.R 0 10 11) ?_
        refine zr_iload_n dX5_append_74 rfl ?_
        refine zr_iload dX5_append_75 rfl ?_
        refine zr_iload_n dX5_append_77 rfl ?_
        refine zr_iload dX5_append_78 rfl ?_
        refine zr_iaddN dX5_append_80 ?_
        refine zr_aload_n dX5_append_81 rfl ?_
        refine zr_getI dX5_append_82 lkX5_26 (by decide) (by decide) rfl (hL.K 10 1) ?_
        refine zr_as (y := (nI len)) ((pwM_I _ _ _ (by decide) (by decide)).trans hb3) ?_
        refine zr_icmp_neN 92 dX5_append_85 (by decide) (by omega) (by omega) (fun h85 => ?_) (fun h85 => ?_)
        · refine zr_iconst (v := nI 0) dX5_append_92 (by decide) ?_
          refine zr_callV (md' := mX1_write) (As := [.int (nI (st + dn)), .ref ((ad 11)), .int (nI dn), .int (nI pi), .int (nI 0)]) dX5_append_93 mlX5_47 okX1_write rfl inX1_write slX1_write (by decide) (hL.K 1 2) rfl (by omega) (Nat.le_of_ble_eq_true rfl) hcb (c_Disk_write (d := d - 1) (by omega) hcb hcx (hL.pw _ _ _) (hP.pw _ hlf (by omega)) (hL.K 11 14) (hL.N 11 15363) (by decide) (by decide) (by omega) (by omega) (by omega)) (fun k M1 h => zt_out rfl (by rcases h with ⟨lf', cn', h1, h2, h3, h4, h5, h6, h7⟩ | ⟨r, h1, h2, h3, h4⟩; exact absurd h6 (by simp); cases h3; rw [h4, wCut_pw, pwM_A hL _ _ _ (by decide) (by decide), show va_cpy (zA M (ad 11)) (va_cpy (zA M (ad 11)) (zA M (ad 2)) 0 st dn) dn (st + dn) r = va_cpy (zA M (ad 11)) (zA M (ad 2)) 0 st (dn + r) from by rw [← va_cpy_app, Nat.zero_add]]; exact hx (dn + r) lf cn (by omega) (by omega) (by omega) hlf (by omega))) (fun v M1 hq => ?_)
          rcases hq with ⟨lf', cn', h1, h2, h3, h4, h5, h6, h7⟩ | ⟨r, h1, h2, h3, h4⟩
          case inr => cases h3
          cases h6
          rw [h7, wOk_pw, pwM_pwM, pwM_hit, pwM_A hL _ _ _ (by decide) (by decide), show va_cpy (zA M (ad 11)) (va_cpy (zA M (ad 11)) (zA M (ad 2)) 0 st dn) dn (st + dn) pi = va_cpy (zA M (ad 11)) (zA M (ad 2)) 0 st (dn + pi) from by rw [← va_cpy_app, Nat.zero_add]]
          refine zr_iload_n dX5_append_96 rfl ?_
          refine zr_iload dX5_append_97 rfl ?_
          refine zr_iaddN dX5_append_99 ?_
          refine zr_istore_n (lv' := [some (.ref ((ad 15))), some (.ref ((ad 10))), some (.int (nI st)), some (.int (nI (dn + pi))), some (.int (nI i)), some (.int (nI (st + dn))), some (.int (nI pi))]) dX5_append_100 (Nat.le_of_ble_eq_true rfl) (Nat.le_of_ble_eq_true rfl) rfl rfl ?_
          refine zr_iincN (n := 1) (lv' := [some (.ref ((ad 15))), some (.ref ((ad 10))), some (.int (nI st)), some (.int (nI (dn + pi))), some (.int (nI (i + 1))), some (.int (nI (st + dn))), some (.int (nI pi))]) dX5_append_101 (Nat.le_of_ble_eq_true rfl) (Nat.le_of_ble_eq_true rfl) rfl rfl rfl ?_
          refine zr_goto 23 dX5_append_104 (by decide) ?_
          refine zr_drop 5 rfl ?_
          refine zr_drop 6 rfl ?_
          exact ih _ (by omega) (dn + pi) (i + 1) lf' cn' rfl (by omega) (by omega) (by omega) (by omega) (by omega) (by omega)
        · refine zr_iconst (v := nI 1) dX5_append_88 (by decide) ?_
          refine zr_goto 93 dX5_append_89 (by decide) ?_
          refine zr_callV (md' := mX1_write) (As := [.int (nI (st + dn)), .ref ((ad 11)), .int (nI dn), .int (nI pi), .int (nI 1)]) dX5_append_93 mlX5_47 okX1_write rfl inX1_write slX1_write (by decide) (hL.K 1 2) rfl (by omega) (Nat.le_of_ble_eq_true rfl) hcb (c_Disk_write (d := d - 1) (by omega) hcb hcx (hL.pw _ _ _) (hP.pw _ hlf (by omega)) (hL.K 11 14) (hL.N 11 15363) (by decide) (by decide) (by omega) (by omega) (by omega)) (fun k M1 h => zt_out rfl (by rcases h with ⟨lf', cn', h1, h2, h3, h4, h5, h6, h7⟩ | ⟨r, h1, h2, h3, h4⟩; exact absurd h6 (by simp); cases h3; rw [h4, wCut_pw, pwM_A hL _ _ _ (by decide) (by decide), show va_cpy (zA M (ad 11)) (va_cpy (zA M (ad 11)) (zA M (ad 2)) 0 st dn) dn (st + dn) r = va_cpy (zA M (ad 11)) (zA M (ad 2)) 0 st (dn + r) from by rw [← va_cpy_app, Nat.zero_add]]; exact hx (dn + r) lf cn (by omega) (by omega) (by omega) hlf (by omega))) (fun v M1 hq => ?_)
          rcases hq with ⟨lf', cn', h1, h2, h3, h4, h5, h6, h7⟩ | ⟨r, h1, h2, h3, h4⟩
          case inr => cases h3
          cases h6
          rw [h7, wOk_pw, pwM_pwM, pwM_hit, pwM_A hL _ _ _ (by decide) (by decide), show va_cpy (zA M (ad 11)) (va_cpy (zA M (ad 11)) (zA M (ad 2)) 0 st dn) dn (st + dn) pi = va_cpy (zA M (ad 11)) (zA M (ad 2)) 0 st (dn + pi) from by rw [← va_cpy_app, Nat.zero_add]]
          refine zr_iload_n dX5_append_96 rfl ?_
          refine zr_iload dX5_append_97 rfl ?_
          refine zr_iaddN dX5_append_99 ?_
          refine zr_istore_n (lv' := [some (.ref ((ad 15))), some (.ref ((ad 10))), some (.int (nI st)), some (.int (nI (dn + pi))), some (.int (nI i)), some (.int (nI (st + dn))), some (.int (nI pi))]) dX5_append_100 (Nat.le_of_ble_eq_true rfl) (Nat.le_of_ble_eq_true rfl) rfl rfl ?_
          refine zr_iincN (n := 1) (lv' := [some (.ref ((ad 15))), some (.ref ((ad 10))), some (.int (nI st)), some (.int (nI (dn + pi))), some (.int (nI (i + 1))), some (.int (nI (st + dn))), some (.int (nI pi))]) dX5_append_101 (Nat.le_of_ble_eq_true rfl) (Nat.le_of_ble_eq_true rfl) rfl rfl rfl ?_
          refine zr_goto 23 dX5_append_104 (by decide) ?_
          refine zr_drop 5 rfl ?_
          refine zr_drop 6 rfl ?_
          exact ih _ (by omega) (dn + pi) (i + 1) lf' cn' rfl (by omega) (by omega) (by omega) (by omega) (by omega) (by omega)
