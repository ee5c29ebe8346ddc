/-! ===== LsmStore$Log: append, replay, clearOther, collect; Rows.add ===== -/
/-- bytes of a row laid on the disk: entries go with it -/
theorem Esame.shift {R D : Nat → Int32} {s p : Nat} (h : ∀ j, p ≤ j → j < p + eln R p → D (s + j) = R j) : zb (D (s + p)) = zb (R p) ∧ ekl D (s + p) = ekl R p ∧ evl D (s + p) = evl R p ∧ eky D (s + p) = eky R p ∧ eva D (s + p) = eva R p ∧ ecm D (s + p) = ecm R p := by
  have h8 : 8 ≤ eln R p := by unfold eln; omega
  have e0 : zb (D (s + p)) = zb (R p) := by rw [h p (by omega) (by omega)]
  have e1 : ekl D (s + p) = ekl R p := by unfold ekl; rw [Nat.add_assoc, h (p + 1) (by omega) (by omega)]
  have e2 : evl D (s + p) = evl R p := by unfold evl; rw [Nat.add_assoc, h (p + 2) (by omega) (by omega)]
  have hn : ∀ k, k ≤ 4 → nuN D (s + p + 4) k = nuN R (p + 4) k := by
    intro k
    induction k with
    | zero => intro _; rfl
    | succ k ih =>
      intro hk
      show nuN D (s + p + 4) k * 256 + zb (D (s + p + 4 + k)) = nuN R (p + 4) k * 256 + zb (R (p + 4 + k))
      rw [ih (by omega), show s + p + 4 + k = s + (p + 4 + k) by omega, h (p + 4 + k) (by omega) (by omega)]
  refine ⟨e0, e1, e2, ?_, ?_, hn 4 (Nat.le_refl _)⟩
  · unfold eky; rw [e1]; exact rwl_congr (fun i hi => by rw [show s + p + 8 + i = s + (p + 8 + i) by omega, h _ (by omega) (by unfold eln; omega)])
  · unfold eva; rw [e1, e2]; exact rwl_congr (fun i hi => by rw [show s + p + 8 + ekl R p + i = s + (p + 8 + ekl R p + i) by omega, h _ (by omega) (by unfold eln; omega)])
theorem Chn.shift {R D : Nat → Int32} {s : Nat} : ∀ {ps : List Nat} {a e : Nat}, Chn R a ps e → (∀ j, a ≤ j → j < e → D (s + j) = R j) → Chn D (s + a) (ps.map (s + ·)) (s + e)
  | [], a, e, h, _ => by cases h; exact rfl
  | q :: ps, a, e, h, hj => by
    obtain ⟨rfl, h⟩ := h
    have hle := h.le.1
    refine ⟨rfl, ?_⟩
    have e1 : eln D (s + q) = eln R q := by
      obtain ⟨-, e1, e2, -⟩ := Esame.shift (R := R) (D := D) (s := s) (p := q) (fun j h1 h2 => hj j h1 (by omega))
      unfold eln; rw [e1, e2]
    rw [e1, Nat.add_assoc]
    exact Chn.shift h (fun j h1 h2 => hj j (by omega) h2)
/-- entries that the change of the disk's bytes leaves alone -/
def Eall (D D' : Nat → Int32) (p : Nat) : Prop := Esame D D' p ∧ ecm D' p = ecm D p
theorem Eall.of {D D' : Nat → Int32} {p : Nat} (h : ∀ j, p ≤ j → j < p + eln D p → D' j = D j) : Eall D D' p := by
  have h8 : 8 ≤ eln D p := by unfold eln; omega
  refine ⟨Esame.of (fun j h1 h2 _ => by rw [h j h1 h2]), ?_⟩
  have hn : ∀ k, k ≤ 4 → nuN D' (p + 4) k = nuN D (p + 4) k := by
    intro k
    induction k with
    | zero => intro _; rfl
    | succ k ih =>
      intro hk
      show nuN D' (p + 4) k * 256 + zb (D' (p + 4 + k)) = nuN D (p + 4) k * 256 + zb (D (p + 4 + k))
      rw [ih (by omega), h (p + 4 + k) (by omega) (by omega)]
  exact hn 4 (Nat.le_refl _)
theorem Eall.pr {D D' : Nat → Int32} {p q : Nat} (hp : Eall D D' p) (hq : Eall D D' q) : pre D' p q ↔ pre D p q := by
  unfold pre
  rw [hp.1.2.2.2.1, hq.1.2.2.2.1, hp.2, hq.2]
theorem Eall.srt {D D' : Nat → Int32} {E : List Nat} (h : ∀ p ∈ E, Eall D D' p) (hs : E.Pairwise (pre D)) : E.Pairwise (pre D') := by
  refine List.Pairwise.imp_of_mem ?_ hs
  intro a b ha hb hab
  exact (Eall.pr (h a ha) (h b hb)).mpr hab
theorem Eall.eb {D D' : Nat → Int32} {E : List Nat} (h : ∀ p ∈ E, Eall D D' p) (hE : Eb D E) : Eb D' E := fun p hp => ⟨(hE p hp).1, by rw [(h p hp).2]; exact (hE p hp).2⟩
/-- the memory behind the append of a record: D the disk's bytes, c and g the index -/
def apM (ad : Nat → Nat) (M : zM) (D : Nat → Int32) (lf cn us to : Nat) (g : Nat → Int32) (c : Nat) : zM := insM ad (zput (zput (pwM ad M D lf cn) 163 (ad 15) (nI us)) 165 (ad 15) (nI to)) g c
set_option maxRecDepth 100000 in
set_option maxHeartbeats 4000000 in
theorem t_Log_append {G : zG} {ad : Nat → Nat} {d k0 n0 lf cn ar us to len i : Nat} {E offs : List Nat} {M : zM} {Q : zOut → zM → Prop} (hd : 8 ≤ d) (hcb : zC M ≤ 600128 ∧ zS M ≤ 7301098) (hL : Lay ad M) (hG : Lg ad M E) (hb3 : zI M 3 (ad 10) = nI len) (har : ar ≤ 1) (hus : us + len < 18432) (hlen : 3 ≤ len) (hl15 : len ≤ 15363) (h163 : zI M 163 (ad 15) = nI us) (h164 : zI M 164 (ad 15) = nI ar) (h165 : zI M 165 (ad 15) = nI to) (hto : to ≤ 36) (hch : Chn (zA M (ad 11)) 2 offs (len - 1)) (hcm : ∀ p ∈ offs, ecm (zA M (ad 11)) p < 2 ^ 31) (hl1 : E.length + offs.length ≤ 2048) (hE : Eb (zA M (ad 2)) E) (hs : E.Pairwise (pre (zA M (ad 2)))) (hEu : ∀ p ∈ E, p + eln (zA M (ad 2)) p ≤ 4096 + ar * 18432 + us) (hq0 : ∀ (g : Nat → Int32) (E' : List Nat), InsL (va_cpy (zA M (ad 11)) (zA M (ad 2)) 0 (4096 + ar * 18432 + us) len) E (offs.map (4096 + ar * 18432 + us + ·)) E' → Ld g E' → Q (.inl none) (apM ad M (va_cpy (zA M (ad 11)) (zA M (ad 2)) 0 (4096 + ar * 18432 + us) len) lf cn (us + len) (max to ((us + len + 512 - 1) / 512)) g E'.length)) : zw G mX5_append d k0 n0 Q 107 [some (.ref ((ad 15))), some (.ref ((ad 10))), some (.int (nI (4096 + ar * 18432 + us))), some (.int (nI len)), some (.int (nI i)), none, none] [] (pwM ad M (va_cpy (zA M (ad 11)) (zA M (ad 2)) 0 (4096 + ar * 18432 + us) len) lf cn) := by
  obtain ⟨hg1, hg2, hg3⟩ := id hG
  have hall : ∀ p ∈ E, Eall (zA M (ad 2)) (va_cpy (zA M (ad 11)) (zA M (ad 2)) 0 (4096 + ar * 18432 + us) len) p := fun p hp => Eall.of (fun j h1 h2 => by rw [pk_cpy_out (by have := hEu p hp; omega)])
  have hch2 : Chn (va_cpy (zA M (ad 11)) (zA M (ad 2)) 0 (4096 + ar * 18432 + us) len) (4096 + ar * 18432 + us + 2) (offs.map (4096 + ar * 18432 + us + ·)) (4096 + ar * 18432 + us + (len - 1)) := hch.shift (fun j h1 h2 => by rw [pk_cpy_in (by omega) (by omega)]; congr 1; omega)
  have hps : Eb (va_cpy (zA M (ad 11)) (zA M (ad 2)) 0 (4096 + ar * 18432 + us) len) (offs.map (4096 + ar * 18432 + us + ·)) := fun q hq => by
    obtain ⟨p, hp, rfl⟩ := List.mem_map.mp hq
    have h1 := hch.le.2 p hp
    have h2 := (Esame.shift (R := zA M (ad 11)) (D := (va_cpy (zA M (ad 11)) (zA M (ad 2)) 0 (4096 + ar * 18432 + us) len)) (s := 4096 + ar * 18432 + us) (p := p) (fun j h1 h2 => by rw [pk_cpy_in (by omega) (by omega)]; congr 1; omega)).2.2.2.2.2
    refine ⟨by omega, ?_⟩
    rw [h2]; exact hcm p hp
  have hz : zA (zput (zput (pwM ad M (va_cpy (zA M (ad 11)) (zA M (ad 2)) 0 (4096 + ar * 18432 + us) len) lf cn) 163 (ad 15) (nI (us + len))) 165 (ad 15) (nI (max to ((us + len + 512 - 1) / 512)))) (ad 2) = (va_cpy (zA M (ad 11)) (zA M (ad 2)) 0 (4096 + ar * 18432 + us) len) := pwM_hit ad M (va_cpy (zA M (ad 11)) (zA M (ad 2)) 0 (4096 + ar * 18432 + us) len) lf cn
  refine zr_aload_n dX5_append_107 rfl ?_
  refine zr_dup dX5_append_108 rfl ?_
  refine zr_getI dX5_append_109 lkX5_23 (by decide) (by decide) rfl (hL.K 15 6) ?_
  refine zr_as (y := (nI us)) ((pwM_I _ _ _ (by decide) (by decide)).trans h163) ?_
  refine zr_aload_n dX5_append_112 rfl ?_
  refine zr_getI dX5_append_113 lkX5_26 (by decide) (by decide) rfl (hL.K 10 1) ?_
  refine zr_as (y := (nI len)) ((pwM_I _ _ _ (by decide) (by decide)).trans hb3) ?_
  refine zr_iaddN dX5_append_116 ?_
  refine zr_putI dX5_append_117 lkX5_23 (by decide) (by decide) rfl rfl (hL.K 15 6) ?_
  refine zr_aload_n dX5_append_120 rfl ?_
  refine zr_aload_n dX5_append_121 rfl ?_
  refine zr_getI dX5_append_122 lkX5_53 (by decide) (by decide) rfl (hL.K 15 6) ?_
  refine zr_as (y := (nI to)) (zput_ms (by decide) ((pwM_I _ _ _ (by decide) (by decide)).trans h165)) ?_
  refine zr_aload_n dX5_append_125 rfl ?_
  refine zr_getI dX5_append_126 lkX5_23 (by decide) (by decide) rfl (hL.K 15 6) ?_
  refine zr_as (y := (nI (us + len))) (zput_hit _ _ _ _) ?_
  refine zr_sipush (v := nI 512) dX5_append_129 (by decide) ?_
  refine zr_iaddN dX5_append_132 ?_
  refine zr_iconst (v := nI 1) dX5_append_133 (by decide) ?_
  refine zr_isubN dX5_append_134 (by omega) ?_
  refine zr_sipush (v := nI 512) dX5_append_135 (by decide) ?_
  refine zr_idivN dX5_append_138 (by omega) (by omega) (by omega) ?_
  refine zr_callS (md' := mJ9_max_7cf53) (As := [.int (nI to), .int (nI ((((us + len) + 512) - 1) / 512))]) dX5_append_139 mlX5_56 okJ9_max_7cf53 rfl stJ9_max_7cf53 rfl (by omega) (Nat.le_of_ble_eq_true rfl) hcb (c_max (d := d - 1) hcb (by omega) (by omega)) (fun k M1 h => by cases h.1) (fun v M1 hq => ?_)
  obtain ⟨e0, e1⟩ := hq
  cases e0
  rw [e1]
  refine zr_putI dX5_append_142 lkX5_53 (by decide) (by decide) rfl rfl (hL.K 15 6) ?_
  refine zr_aload_n dX5_append_145 rfl ?_
  refine zr_iload_n dX5_append_146 rfl ?_
  refine zr_iconst (v := nI 2) dX5_append_147 (by decide) ?_
  refine zr_iaddN dX5_append_148 ?_
  refine zr_iload_n dX5_append_149 rfl ?_
  refine zr_aload_n dX5_append_150 rfl ?_
  refine zr_getI dX5_append_151 lkX5_26 (by decide) (by decide) rfl (hL.K 10 1) ?_
  refine zr_as (y := (nI len)) (zput_ms (by decide) (zput_ms (by decide) ((pwM_I _ _ _ (by decide) (by decide)).trans hb3))) ?_
  refine zr_iaddN dX5_append_154 ?_
  refine zr_iconst (v := nI 1) dX5_append_155 (by decide) ?_
  refine zr_isubN dX5_append_156 (by omega) ?_
  refine zr_callV (md' := mX5_enlist) (As := [.int (nI ((4096 + ar * 18432 + us) + 2)), .int (nI (((4096 + ar * 18432 + us) + len) - 1))]) dX5_append_157 mlX5_59 okX5_enlist rfl inX5_enlist slX5_enlist (by decide) (hL.K 15 6) rfl (by omega) (Nat.le_of_ble_eq_true rfl) hcb (c_Log_enlist (d := d - 1) (E := E) (ps := offs.map (4096 + ar * 18432 + us + ·)) (by omega) hcb hL ⟨(zput_ms (by decide) (zput_ms (by decide) ((pwM_I _ _ _ (by decide) (by decide)).trans hg1))), hg2, fun i q hi => (congrFun (pwM_A hL _ lf cn (by decide) (by decide)) i).trans (hg3 i q hi)⟩ (by rw [hz]; exact Eall.eb hall hE) (by rw [hz]; exact Eall.srt hall hs) (by omega) (by rw [hz, show 4096 + ar * 18432 + us + len - 1 = 4096 + ar * 18432 + us + (len - 1) by omega]; exact hch2) (by rw [hz]; exact hps) (by rw [List.length_map]; exact hl1)) (fun k M1 h => by cases h.1) (fun v M1 hq => ?_)
  obtain ⟨e0, g, E1, e1, hI, hLd⟩ := hq
  cases e0
  rw [hz] at hI
  refine zr_vret dX5_append_160 rfl ?_
  subst e1
  exact hq0 g E1 hI hLd
set_option maxRecDepth 100000 in
set_option maxHeartbeats 4000000 in
theorem c_Log_append {G : zG} {ad : Nat → Nat} {d on wh lf0 ct du ar us to len : Nat} {E offs : List Nat} {M : zM} (hd : 8 ≤ d) (hcb : zC M ≤ 600128 ∧ zS M ≤ 7301098) (hcx : zC M + 1 ≤ 600128 ∧ zS M + 6 ≤ 7301098) (hL : Lay ad M) (hG : Lg ad M E) (hb3 : zI M 3 (ad 10) = nI len) (hP : Pw ad M on wh lf0 ct du 0) (har : ar ≤ 1) (hus : us + len < 18432) (hlen : 3 ≤ len) (hl15 : len ≤ 15363) (h163 : zI M 163 (ad 15) = nI us) (h164 : zI M 164 (ad 15) = nI ar) (h165 : zI M 165 (ad 15) = nI to) (hto : to ≤ 36) (hch : Chn (zA M (ad 11)) 2 offs (len - 1)) (hcm : ∀ p ∈ offs, ecm (zA M (ad 11)) p < 2 ^ 31) (hl1 : E.length + offs.length ≤ 2048) (hE : Eb (zA M (ad 2)) E) (hs : E.Pairwise (pre (zA M (ad 2)))) (hEu : ∀ p ∈ E, p + eln (zA M (ad 2)) p ≤ 4096 + ar * 18432 + us)  : zMet G mX5_append d [.ref ((ad 15)), .ref ((ad 10))] M (fun o M' => (∃ (lf cn : Nat) (g : Nat → Int32) (E' : List Nat), lf ≤ 400 ∧ cn ≤ 1 ∧ (cn = 1 ↔ du = 1) ∧ ¬ (du = 1 ∧ wh = 0) ∧ o = .inl none ∧ M' = apM ad M (va_cpy (zA M (ad 11)) (zA M (ad 2)) 0 (4096 + ar * 18432 + us) len) lf cn (us + len) (max to ((us + len + 512 - 1) / 512)) g E'.length ∧ InsL (va_cpy (zA M (ad 11)) (zA M (ad 2)) 0 (4096 + ar * 18432 + us) len) E (offs.map (4096 + ar * 18432 + us + ·)) E' ∧ Ld g E') ∨ (∃ r lf cn : Nat, r < len ∧ du = 1 ∧ wh = 0 ∧ lf ≤ 400 ∧ cn ≤ 1 ∧ o = .inr 2 ∧ M' = cutM ad M (va_cpy (zA M (ad 11)) (zA M (ad 2)) 0 (4096 + ar * 18432 + us) r) lf cn)) := by
  refine zMet_of (by decide +kernel) (Nat.le_of_ble_eq_true rfl) rfl hcb ?_
  show zw G mX5_append d _ _ _ 0 [some (.ref ((ad 15))), some (.ref ((ad 10))), none, none, none, none, none] [] M
  obtain ⟨hg1, hg2, hg3⟩ := id hG
  refine zr_sipush (v := nI 4096) dX5_append_0 (by decide) ?_
  refine zr_aload_n dX5_append_3 rfl ?_
  refine zr_getI dX5_append_4 lkX5_19 (by decide) (by decide) rfl (hL.K 15 6) ?_
  refine zr_as (y := (nI ar)) h164 ?_
  refine zr_sipush (v := nI 18432) dX5_append_7 (by decide) ?_
  refine zr_imulN dX5_append_10 ?_
  refine zr_iaddN dX5_append_11 ?_
  refine zr_aload_n dX5_append_12 rfl ?_
  refine zr_getI dX5_append_13 lkX5_23 (by decide) (by decide) rfl (hL.K 15 6) ?_
  refine zr_as (y := (nI us)) h163 ?_
  refine zr_iaddN dX5_append_16 ?_
  refine zr_istore_n (lv' := [some (.ref ((ad 15))), some (.ref ((ad 10))), some (.int (nI ((4096 + (ar * 18432)) + us))), none, none, none, none]) dX5_append_17 (Nat.le_of_ble_eq_true rfl) (Nat.le_of_ble_eq_true rfl) rfl rfl ?_
  refine zr_iconst (v := nI 0) dX5_append_18 (by decide) ?_
  refine zr_istore_n (lv' := [some (.ref ((ad 15))), some (.ref ((ad 10))), some (.int (nI ((4096 + (ar * 18432)) + us))), some (.int (nI 0)), none, none, none]) dX5_append_19 (Nat.le_of_ble_eq_true rfl) (Nat.le_of_ble_eq_true rfl) rfl rfl ?_
  refine zr_iconst (v := nI 0) dX5_append_20 (by decide) ?_
  refine zr_istore (lv' := [some (.ref ((ad 15))), some (.ref ((ad 10))), some (.int (nI ((4096 + (ar * 18432)) + us))), some (.int (nI 0)), some (.int (nI 0)), none, none]) dX5_append_21 (Nat.le_of_ble_eq_true rfl) (Nat.le_of_ble_eq_true rfl) rfl rfl ?_
  refine zr_asM (M' := pwM ad M (va_cpy (zA M (ad 11)) (zA M (ad 2)) 0 (4096 + ar * 18432 + us) 0) lf0 0) (by rw [va_cpy0, pwM_self hP]) ?_
  refine l_Log_append hd hcb hcx hL hb3 hP rfl har hus hlen hl15 (fun i lf cn h1 h2 h3 h4 => ?_) (fun r lf cn h1 h2 h3 h4 h5 => ?_) _ 0 0 lf0 0 rfl (by omega) hP.2.2.2.2.2.2.2.2.1 (by omega) (by omega) (by omega) (by omega)
  · exact t_Log_append hd hcb hL hG hb3 har hus hlen hl15 h163 h164 h165 hto hch hcm hl1 hE hs hEu (fun g E1 hI hLd => Or.inl ⟨lf, cn, g, E1, h1, h2, h3, h4, rfl, rfl, hI, hLd⟩)
  · exact Or.inr ⟨r, lf, cn, h1, h2, h3, h4, h5, rfl, rfl⟩
/-- n bytes from a on become 0 -/
def zer (D : Nat → Int32) (a n : Nat) : Nat → Int32 := fun j => if a ≤ j ∧ j < a + n then 0 else D j
theorem zer_0 (D : Nat → Int32) (a : Nat) : zer D a 0 = D := by
  funext j
  unfold zer
  rw [if_neg (by omega)]
theorem zer_app (D : Nat → Int32) (a n m : Nat) : zer (zer D a n) (a + n) m = zer D a (n + m) := by
  funext k
  unfold zer
  by_cases h1 : a + n ≤ k ∧ k < a + n + m
  · rw [if_pos h1, if_pos (by omega)]
  · rw [if_neg h1]
    by_cases h2 : a ≤ k ∧ k < a + n
    · rw [if_pos h2, if_pos (by omega)]
    · rw [if_neg h2, if_neg (by omega)]
theorem zer_cpy {f D : Nat → Int32} {p n : Nat} (h : ∀ i, i < n → f i = 0) : va_cpy f D 0 p n = zer D p n := by
  funext k
  unfold va_cpy zer
  by_cases h1 : p ≤ k ∧ k < p + n
  · rw [if_pos h1, if_pos h1]; exact h _ (by omega)
  · rw [if_neg h1, if_neg h1]
set_option maxRecDepth 100000 in
set_option maxHeartbeats 4000000 in
theorem l_Log_clearOther {G : zG} {ad : Nat → Nat} {d k0 n0 on wh lf0 ct du cn0 ar to : Nat} {M : zM} {Q : zOut → zM → Prop} (hd : 8 ≤ d) (hcb : zC M ≤ 600128 ∧ zS M ≤ 7301098) (hcx : zC M + 1 ≤ 600128 ∧ zS M + 6 ≤ 7301098) (hL : Lay ad M) (h164 : zI M 164 (ad 15) = nI ar) (har : ar ≤ 1) (h166 : zI M 166 (ad 15) = nI to) (hto : to ≤ 36) (hbl : ∀ i, i < 512 → zA M (ad 3) i = 0) (hP : Pw ad M on wh lf0 ct du cn0) (hq0 : ∀ lf cn : Nat, lf ≤ 400 → cn ≤ 1 → (cn = 1 ↔ cn0 = 1) → Q (.inl none) (pwM ad M (zer (zA M (ad 2)) (4096 + (1 - ar) * 18432) (512 * to)) lf cn)) (hx : ∀ r lf cn : Nat, r ≤ 512 * to → lf ≤ 400 → cn ≤ 1 → cn0 = 1 → Q (.inr 2) (cutM ad M (zer (zA M (ad 2)) (4096 + (1 - ar) * 18432) r) lf cn)) : ∀ (m i lf cn : Nat), to - i = m → i ≤ to → lf ≤ 400 → cn ≤ 1 → (cn = 1 ↔ cn0 = 1) → zw G mX5_clearOther d k0 n0 Q 17 [some (.ref ((ad 15))), some (.int (nI (4096 + (1 - ar) * 18432))), some (.int (nI i))] [] (pwM ad M (zer (zA M (ad 2)) (4096 + (1 - ar) * 18432) (512 * i)) lf cn) := by
  intro m
  induction m using Nat.strongRecOn with
  | _ m ih =>
    intro i lf cn hm hi hlf hcn hcn2
    refine zr_iload_n dX5_clearOther_17 rfl ?_
    refine zr_aload_n dX5_clearOther_18 rfl ?_
    refine zr_getI dX5_clearOther_19 lkX5_81 (by decide) (by decide) rfl (hL.K 15 6) ?_
    refine zr_as (y := (nI to)) ((pwM_I _ _ _ (by decide) (by decide)).trans h166) ?_
    refine zr_icmp_geN 45 dX5_clearOther_22 (by decide) (by omega) (by omega) (fun h22 => ?_) (fun h22 => ?_)
    · refine zr_vret dX5_clearOther_45 rfl ?_
      rw [show i = to by omega]
      exact hq0 lf cn hlf hcn hcn2
    · refine zr_aload_n dX5_clearOther_25 rfl ?_
      refine zr_getR dX5_clearOther_26 lkX5_15 (by decide) (by decide) rfl (hL.K 15 6) (hL.R 160 15 1) ?_
      refine zr_iload_n dX5_clearOther_29 rfl ?_
      refine zr_iload_n dX5_clearOther_30 rfl ?_
      refine zr_sipush (v := nI 512) dX5_clearOther_31 (by decide) ?_
      refine zr_imulN dX5_clearOther_34 ?_
      refine zr_iaddN dX5_clearOther_35 ?_
      refine zr_callV (md' := mX1_erase) (As := [.int (nI ((4096 + (1 - ar) * 18432) + (i * 512)))]) dX5_clearOther_36 mlX5_90 okX1_erase rfl inX1_erase slX1_erase (by decide) (hL.K 1 2) rfl (by omega) (Nat.le_of_ble_eq_true rfl) hcb (c_Disk_erase (d := d - 1) (by omega) hcb hcx (hL.pw _ _ _) (hP.pw _ hlf hcn) (by omega)) (fun k M1 h => zt_out rfl (by rcases h with ⟨lf', cn', h2, h3, h4, h5, h6, h7⟩ | ⟨r, h1, h2, h3, h4⟩; exact absurd h6 (by simp); cases h3; rw [h4, wCut_pw, pwM_A hL _ _ _ (by decide) (by decide), zer_cpy (fun i hi => hbl i (by omega)), show 4096 + (1 - ar) * 18432 + i * 512 = 4096 + (1 - ar) * 18432 + 512 * i by omega, zer_app]; exact hx (512 * i + r) lf cn (by omega) hlf hcn (hcn2.mp h2))) (fun v M1 hq => ?_)
      rcases hq with ⟨lf', cn', h2, h3, h4, h5, h6, h7⟩ | ⟨r, h1, h2, h3, h4⟩
      case inr => cases h3
      cases h6
      rw [h7, wOk_pw, pwM_pwM, pwM_hit, pwM_A hL _ _ _ (by decide) (by decide), zer_cpy (fun i hi => hbl i (by omega)), show 4096 + (1 - ar) * 18432 + i * 512 = 4096 + (1 - ar) * 18432 + 512 * i by omega, zer_app, show 512 * i + 512 = 512 * (i + 1) by omega]
      refine zr_iincN (n := 1) (lv' := [some (.ref ((ad 15))), some (.int (nI (4096 + (1 - ar) * 18432))), some (.int (nI (i + 1)))]) dX5_clearOther_39 (Nat.le_of_ble_eq_true rfl) (Nat.le_of_ble_eq_true rfl) rfl rfl rfl ?_
      refine zr_goto 17 dX5_clearOther_42 (by decide) ?_
      exact ih _ (by omega) (i + 1) lf' cn' rfl (by omega) (by omega) h4 (by omega)
set_option maxRecDepth 100000 in
set_option maxHeartbeats 4000000 in
theorem c_Log_clearOther {G : zG} {ad : Nat → Nat} {d on wh lf0 ct du cn0 ar to : Nat} {M : zM} (hd : 8 ≤ d) (hcb : zC M ≤ 600128 ∧ zS M ≤ 7301098) (hcx : zC M + 1 ≤ 600128 ∧ zS M + 6 ≤ 7301098) (hL : Lay ad M) (h164 : zI M 164 (ad 15) = nI ar) (har : ar ≤ 1) (h166 : zI M 166 (ad 15) = nI to) (hto : to ≤ 36) (hbl : ∀ i, i < 512 → zA M (ad 3) i = 0) (hP : Pw ad M on wh lf0 ct du cn0)  : zMet G mX5_clearOther d [.ref ((ad 15))] M (fun o M' => (∃ lf cn : Nat, lf ≤ 400 ∧ cn ≤ 1 ∧ (cn = 1 ↔ cn0 = 1) ∧ o = .inl none ∧ M' = pwM ad M (zer (zA M (ad 2)) (4096 + (1 - ar) * 18432) (512 * to)) lf cn) ∨ (∃ r lf cn : Nat, r ≤ 512 * to ∧ lf ≤ 400 ∧ cn ≤ 1 ∧ cn0 = 1 ∧ o = .inr 2 ∧ M' = cutM ad M (zer (zA M (ad 2)) (4096 + (1 - ar) * 18432) r) lf cn)) := by
  refine zMet_of (by decide +kernel) (Nat.le_of_ble_eq_true rfl) rfl hcb ?_
  show zw G mX5_clearOther d _ _ _ 0 [some (.ref ((ad 15))), none, none] [] M
  refine zr_sipush (v := nI 4096) dX5_clearOther_0 (by decide) ?_
  refine zr_iconst (v := nI 1) dX5_clearOther_3 (by decide) ?_
  refine zr_aload_n dX5_clearOther_4 rfl ?_
  refine zr_getI dX5_clearOther_5 lkX5_19 (by decide) (by decide) rfl (hL.K 15 6) ?_
  refine zr_as (y := (nI ar)) h164 ?_
  refine zr_isubN dX5_clearOther_8 (by omega) ?_
  refine zr_sipush (v := nI 18432) dX5_clearOther_9 (by decide) ?_
  refine zr_imulN dX5_clearOther_12 ?_
  refine zr_iaddN dX5_clearOther_13 ?_
  refine zr_istore_n (lv' := [some (.ref ((ad 15))), some (.int (nI (4096 + ((1 - ar) * 18432)))), none]) dX5_clearOther_14 (Nat.le_of_ble_eq_true rfl) (Nat.le_of_ble_eq_true rfl) rfl rfl ?_
  refine zr_iconst (v := nI 0) dX5_clearOther_15 (by decide) ?_
  refine zr_istore_n (lv' := [some (.ref ((ad 15))), some (.int (nI (4096 + ((1 - ar) * 18432)))), some (.int (nI 0))]) dX5_clearOther_16 (Nat.le_of_ble_eq_true rfl) (Nat.le_of_ble_eq_true rfl) rfl rfl ?_
  refine zr_asM (M' := pwM ad M (zer (zA M (ad 2)) (4096 + (1 - ar) * 18432) (512 * 0)) lf0 cn0) (by rw [Nat.mul_zero, zer_0, pwM_self hP]) ?_
  exact l_Log_clearOther hd hcb hcx hL h164 har h166 hto hbl hP (fun lf cn h1 h2 h3 => Or.inl ⟨lf, cn, h1, h2, h3, rfl, rfl⟩) (fun r lf cn h1 h2 h3 h4 => Or.inr ⟨r, lf, cn, h1, h2, h3, h4, rfl, rfl⟩) _ 0 lf0 cn0 rfl (by omega) hP.2.2.2.2.2.2.2.2.1 hP.2.2.2.2.2.2.2.2.2.2.2 Iff.rfl
/-- the rows: entries gathered -/
def Rs (ad : Nat → Nat) (M : zM) (E : List Nat) : Prop := zI M 227 (ad 23) = nI E.length ∧ E.length ≤ 2048 ∧ Ld (zA M (ad 24)) E
def rsM (ad : Nat → Nat) (M : zM) (g : Nat → Int32) (c : Nat) : zM := zput (zsetA M (ad 24) g) 227 (ad 23) (nI c)
theorem rsM_rsM (ad : Nat → Nat) (M : zM) (g g' : Nat → Int32) (c c' : Nat) : rsM ad (rsM ad M g c) g' c' = rsM ad M g' c' := by
  unfold rsM
  rw [zsetA_put, zsetA_setA, zput_put]
theorem rsM_self {ad : Nat → Nat} {M : zM} {E : List Nat} (h : Rs ad M E) : rsM ad M (zA M (ad 24)) E.length = M := by
  unfold rsM
  rw [zsetA_self rfl, zput_self h.1]
theorem rsM_A {ad : Nat → Nat} {M : zM} (hL : Lay ad M) (g : Nat → Int32) (c : Nat) {i : Nat} (h : i ≠ 24) (hi : i < 582) : zA (rsM ad M g c) (ad i) = zA M (ad i) := zsetA_ms (M := M) (hL.ne h) rfl
theorem rsM_I {ad : Nat → Nat} {M : zM} (g : Nat → Int32) (c : Nat) {f a : Nat} (h : f ≠ 227) : zI (rsM ad M g c) f a = zI M f a := zput_ms h rfl
theorem rsM_rs {ad : Nat → Nat} {M : zM} {g : Nat → Int32} {E : List Nat} (h : Ld g E) (hl : E.length ≤ 2048) : Rs ad (rsM ad M g E.length) E := ⟨zput_hit _ _ _ _, hl, fun i q hi => (congrFun (zsetA_hit _ _ _) i).trans (h i q hi)⟩
theorem Ld.snoc {g : Nat → Int32} {E : List Nat} {a : Nat} (h : Ld g E) : Ld (upd g E.length (nI a)) (E ++ [a]) := by
  intro i q hi
  rcases Nat.lt_or_ge i E.length with e | e
  · rw [List.getElem?_append_left e] at hi
    rw [pk_un (by omega)]; exact h i q hi
  · rw [List.getElem?_append_right e] at hi
    have h1 := (List.getElem?_eq_some_iff.mp hi).1
    rw [List.length_singleton] at h1
    rw [show i - E.length = 0 by omega, List.getElem?_cons_zero] at hi
    cases hi
    rw [show i = E.length by omega, pk_us]
set_option maxRecDepth 100000 in
set_option maxHeartbeats 4000000 in
theorem c_Rows_add {G : zG} {ad : Nat → Nat} {d a : Nat} {R : List Nat} {M : zM} (hcb : zC M ≤ 600128 ∧ zS M ≤ 7301098) (hL : Lay ad M) (hR : Rs ad M R) (hlt : R.length < 2048)  : zMet G mX7_add d [.ref ((ad 23)), .int (nI a)] M (fun o M' => o = .inl none ∧ M' = rsM ad M (upd (zA M (ad 24)) R.length (nI a)) (R.length + 1)) := by
  refine zMet_of (by decide +kernel) (Nat.le_of_ble_eq_true rfl) rfl hcb ?_
  show zw G mX7_add d _ _ _ 0 [some (.ref ((ad 23))), some (.int (nI a))] [] M
  obtain ⟨h1, h2, h3⟩ := id hR
  refine zr_aload_n dX7_add_0 rfl ?_
  refine zr_getI dX7_add_1 lkX7_22 (by decide) (by decide) rfl (hL.K 23 8) ?_
  refine zr_as (y := (nI R.length)) h1 ?_
  refine zr_sipush (v := nI 2048) dX7_add_4 (by decide) ?_
  refine zr_icmp_ltN 16 dX7_add_7 (by decide) (by omega) (by omega) (fun h7 => ?_) (fun h7 => ?_)
  · refine zr_aload_n dX7_add_16 rfl ?_
    refine zr_getR dX7_add_17 lkX7_9 (by decide) (by decide) rfl (hL.K 23 8) (hL.R 225 23 24) ?_
    refine zr_aload_n dX7_add_20 rfl ?_
    refine zr_getI dX7_add_21 lkX7_22 (by decide) (by decide) rfl (hL.K 23 8) ?_
    refine zr_as (y := (nI R.length)) h1 ?_
    refine zr_iload_n dX7_add_24 rfl ?_
    refine zr_iastN dX7_add_25 (hL.K 24 15) (hL.N 24 2048) (by omega) (by omega) ?_
    refine zr_aload_n dX7_add_26 rfl ?_
    refine zr_dup dX7_add_27 rfl ?_
    refine zr_getI dX7_add_28 lkX7_22 (by decide) (by decide) rfl (hL.K 23 8) ?_
    refine zr_as (y := (nI R.length)) h1 ?_
    refine zr_iconst (v := nI 1) dX7_add_31 (by decide) ?_
    refine zr_iaddN dX7_add_32 ?_
    refine zr_putI dX7_add_33 lkX7_22 (by decide) (by decide) rfl rfl (hL.K 23 8) ?_
    refine zr_vret dX7_add_36 rfl ?_
    first | (exfalso; omega) | exact ⟨rfl, rfl⟩
  · refine zr_aload_n dX7_add_10 rfl ?_
    refine zr_iconst (v := nI 0) dX7_add_11 (by decide) ?_
    refine zr_putZ dX7_add_12 lkX7_26 (by decide) (by decide) rfl rfl (Or.inl rfl) (hL.K 23 8) ?_
    refine zr_vret dX7_add_15 rfl ?_
    first | (exfalso; omega) | exact ⟨rfl, rfl⟩
set_option maxRecDepth 100000 in
set_option maxHeartbeats 4000000 in
theorem l_Log_collect {G : zG} {ad : Nat → Nat} {d k0 n0 : Nat} {E R : List Nat} {M : zM} {Q : zOut → zM → Prop} (hd : 1 ≤ d) (hcb : zC M ≤ 600128 ∧ zS M ≤ 7301098) (hL : Lay ad M) (hG : Lg ad M E) (hR : Rs ad M R) (hl : R.length + E.length ≤ 2048) (hq0 : ∀ g : Nat → Int32, Ld g (R ++ E) → Q (.inl none) (rsM ad M g (R ++ E).length)) : ∀ (m i : Nat) (g : Nat → Int32), E.length - i = m → i ≤ E.length → Ld g (R ++ E.take i) → zw G mX5_collect d k0 n0 Q 2 [some (.ref ((ad 15))), some (.ref ((ad 23))), some (.int (nI i))] [] (rsM ad M g (R ++ E.take i).length) := by
  intro m
  induction m using Nat.strongRecOn with
  | _ m ih =>
    intro i g hm hi hLd
    obtain ⟨hg1, hg2, hg3⟩ := id hG
    refine zr_iload_n dX5_collect_2 rfl ?_
    refine zr_aload_n dX5_collect_3 rfl ?_
    refine zr_getI dX5_collect_4 lkX5_31 (by decide) (by decide) rfl (hL.K 15 6) ?_
    refine zr_as (y := (nI E.length)) ((rsM_I _ _ (by decide)).trans hg1) ?_
    refine zr_icmp_geN 26 dX5_collect_7 (by decide) (by omega) (by omega) (fun h7 => ?_) (fun h7 => ?_)
    · refine zr_vret dX5_collect_26 rfl ?_
      have e9 : i = E.length := by omega
      subst e9
      rw [List.take_length] at *
      exact hq0 g hLd
    · obtain ⟨p, hp⟩ : ∃ p, E[i]? = some p := ⟨_, List.getElem?_eq_getElem (by omega)⟩
      refine zr_aload_n dX5_collect_10 rfl ?_
      refine zr_aload_n dX5_collect_11 rfl ?_
      refine zr_getR dX5_collect_12 lkX5_9 (by decide) (by decide) rfl (hL.K 15 6) (hL.R 161 15 16) ?_
      refine zr_iload_n dX5_collect_15 rfl ?_
      refine zr_ialdN dX5_collect_16 (hL.K 16 15) (hL.N 16 2048) (by omega) (by omega) ?_
      refine zr_as (y := (nI p)) ((congrFun (rsM_A hL _ _ (by decide) (by decide)) i).trans (hg3 i p hp)) ?_
      refine zr_callV (md' := mX7_add) (As := [.int (nI p)]) dX5_collect_17 mlX5_106 okX7_add rfl inX7_add slX7_add (by decide) (hL.K 23 8) rfl (by omega) (Nat.le_of_ble_eq_true rfl) hcb (c_Rows_add (d := d - 1) (R := R ++ E.take i) hcb hL (rsM_rs hLd (by rw [List.length_append, List.length_take]; omega)) (by rw [List.length_append, List.length_take]; omega)) (fun k M1 h => by cases h.1) (fun v M1 hq => ?_)
      obtain ⟨e0, e1⟩ := hq
      cases e0
      rw [e1, rsM_rsM, show zA (rsM ad M g (R ++ E.take i).length) (ad 24) = g from zsetA_hit _ _ _]
      refine zr_iincN (n := 1) (lv' := [some (.ref ((ad 15))), some (.ref ((ad 23))), some (.int (nI (i + 1)))]) dX5_collect_20 (Nat.le_of_ble_eq_true rfl) (Nat.le_of_ble_eq_true rfl) rfl rfl rfl ?_
      refine zr_goto 2 dX5_collect_23 (by decide) ?_
      have e9 : R ++ E.take (i + 1) = R ++ E.take i ++ [p] := by rw [List.take_succ, hp, ← List.append_assoc]; rfl
      refine zr_asM (M' := rsM ad M (upd g (R ++ E.take i).length (nI p)) (R ++ E.take (i + 1)).length) (by rw [show (R ++ E.take (i + 1)).length = (R ++ E.take i).length + 1 from by rw [e9]; exact List.length_append (as := R ++ E.take i)]) ?_
      exact ih _ (by omega) (i + 1) _ rfl (by omega) (by rw [e9]; exact hLd.snoc)
set_option maxRecDepth 100000 in
set_option maxHeartbeats 4000000 in
theorem c_Log_collect {G : zG} {ad : Nat → Nat} {d : Nat} {E R : List Nat} {M : zM} (hd : 1 ≤ d) (hcb : zC M ≤ 600128 ∧ zS M ≤ 7301098) (hL : Lay ad M) (hG : Lg ad M E) (hR : Rs ad M R) (hl : R.length + E.length ≤ 2048)  : zMet G mX5_collect d [.ref ((ad 15)), .ref ((ad 23))] M (fun o M' => o = .inl none ∧ ∃ g : Nat → Int32, M' = rsM ad M g (R ++ E).length ∧ Ld g (R ++ E)) := by
  refine zMet_of (by decide +kernel) (Nat.le_of_ble_eq_true rfl) rfl hcb ?_
  show zw G mX5_collect d _ _ _ 0 [some (.ref ((ad 15))), some (.ref ((ad 23))), none] [] M
  refine zr_iconst (v := nI 0) dX5_collect_0 (by decide) ?_
  refine zr_istore_n (lv' := [some (.ref ((ad 15))), some (.ref ((ad 23))), some (.int (nI 0))]) dX5_collect_1 (Nat.le_of_ble_eq_true rfl) (Nat.le_of_ble_eq_true rfl) rfl rfl ?_
  refine zr_asM (M' := rsM ad M (zA M (ad 24)) (R ++ E.take 0).length) (by rw [List.take_zero, List.append_nil, rsM_self hR]) ?_
  exact l_Log_collect hd hcb hL hG hR hl (fun g h => ⟨rfl, g, rfl, h⟩) _ 0 _ rfl (by omega) (by rw [List.take_zero, List.append_nil]; exact hR.2.2)
/-- records of the log, one behind the other, from a to e (b: where its place begins): the entries of each -/
def Recs (D : Nat → Int32) (b : Nat) : Nat → List (List Nat) → Nat → Prop
  | a, [], e => a = e
  | a, ps :: rs, e => Chn D (b + a + 2) ps (b + a + 2 + nuN D (b + a) 2) ∧ zb (D (b + a + 2 + nuN D (b + a) 2)) = 165 ∧ a + nuN D (b + a) 2 + 3 ≤ 18432 ∧ Recs D b (a + nuN D (b + a) 2 + 3) rs e
/-- no record stands at e -/
def Stop (D : Nat → Int32) (b e : Nat) : Prop := 18432 < e + nuN D (b + e) 2 + 3 ∨ zb (D (b + e + 2 + nuN D (b + e) 2)) ≠ 165
theorem nuN2 (D : Nat → Int32) (p : Nat) : nuN D p 2 < 65536 := by
  show (0 * 256 + zb (D (p + 0))) * 256 + zb (D (p + 1)) < 65536
  have := zb_lt (D (p + 0))
  have := zb_lt (D (p + 1))
  omega
def lgM (ad : Nat → Nat) (M : zM) (g : Nat → Int32) (c us : Nat) : zM := zput (insM ad M g c) 163 (ad 15) (nI us)
theorem lgM_lgM (ad : Nat → Nat) (M : zM) (g g' : Nat → Int32) (c c' us us' : Nat) : lgM ad (lgM ad M g c us) g' c' us' = lgM ad M g' c' us' := by
  unfold lgM insM
  rw [zsetA_put, zsetA_put, zsetA_setA, zput_comm _ _ _ _ _ (show (163 : Nat) ≠ 162 by decide), zput_put, zput_put]
theorem lgM_ins (ad : Nat → Nat) (M : zM) (g g' : Nat → Int32) (c c' us : Nat) : insM ad (lgM ad M g c us) g' c' = lgM ad M g' c' us := by
  unfold lgM insM
  rw [zsetA_put, zsetA_put, zsetA_setA, zput_comm _ _ _ _ _ (show (163 : Nat) ≠ 162 by decide), zput_put]
theorem lgM_A {ad : Nat → Nat} {M : zM} (hL : Lay ad M) (g : Nat → Int32) (c us : Nat) {i : Nat} (h : i ≠ 16) (hi : i < 582) : zA (lgM ad M g c us) (ad i) = zA M (ad i) := zsetA_ms (M := M) (hL.ne h) rfl
theorem lgM_self {ad : Nat → Nat} {M : zM} {E : List Nat} {us : Nat} (h : Lg ad M E) (hu : zI M 163 (ad 15) = nI us) : lgM ad M (zA M (ad 16)) E.length us = M := by
  unfold lgM
  rw [insM_self h, zput_self hu]
theorem lgM_lg {ad : Nat → Nat} {M : zM} {g : Nat → Int32} {E : List Nat} {us : Nat} (h : Ld g E) (hl : E.length ≤ 2048) : Lg ad (lgM ad M g E.length us) E := ⟨zput_ms (by decide) (zput_hit _ _ _ _), hl, fun i q hi => (congrFun (zsetA_hit _ _ _) i).trans (h i q hi)⟩
def InsR (D : Nat → Int32) : List Nat → List (List Nat) → List Nat → Prop
  | E, [], E' => E = E'
  | E, ps :: rs, E' => ∃ E1, InsL D E ps E1 ∧ InsR D E1 rs E'
set_option maxRecDepth 100000 in
set_option maxHeartbeats 4000000 in
theorem l_Log_replay {G : zG} {ad : Nat → Nat} {d k0 n0 ar e n1 : Nat} {M : zM} {Q : zOut → zM → Prop} (hd : 4 ≤ d) (hL : Lay ad M) (h164 : zI M 164 (ad 15) = nI ar) (har : ar ≤ 1) (hn1 : n1 ≤ 18432) (hstop : Stop (zA M (ad 2)) (4096 + ar * 18432) e) : ∀ (rs : List (List Nat)) (k i us : Nat) (g : Nat → Int32) (E : List Nat), (zC M ≤ 600128 ∧ zS M ≤ 7301098) → Ld g E → Eb (zA M (ad 2)) E → E.Pairwise (pre (zA M (ad 2))) → Recs (zA M (ad 2)) (4096 + ar * 18432) us rs e → (∀ ps ∈ rs, Eb (zA M (ad 2)) ps) → E.length + (rs.map List.length).sum ≤ 2048 → i + rs.length < 18432 → us ≤ 18432 → (∀ (g' : Nat → Int32) (k' : Nat) (E' : List Nat), InsR (zA M (ad 2)) E rs E' → Ld g' E' → k' = k + rs.length → Q (.inl (some (.int (nI k')))) (lgM ad M g' E'.length e)) → zw G mX5_replay d k0 n0 Q 17 [some (.ref ((ad 15))), some (.int (nI k)), some (.int (nI (4096 + ar * 18432))), some (.int (nI i)), none, none] [] (lgM ad M g E.length us) := by
  intro rs
  induction rs with
  | nil =>
    intro k i us g E hcb hLd hE hs hrec hps hl1 hl2 hus hq0
    have hA2 : zA (lgM ad M g E.length us) (ad 2) = zA M (ad 2) := lgM_A hL _ _ _ (by decide) (by decide)
    have hrec2 : us = e := hrec
    subst hrec2
    rw [List.length_nil] at hl2
    simp only [List.map_nil, List.sum_nil] at hl1
    have hn2 := nuN2 (zA M (ad 2)) ((4096 + ar * 18432) + us)
    refine zr_iload_n dX5_replay_17 rfl ?_
    refine zr_sipush (v := nI 18432) dX5_replay_18 (by decide) ?_
    refine zr_icmp_geN 115 dX5_replay_21 (by decide) (by omega) (by omega) (fun h21 => ?_) (fun h21 => ?_)
    · refine zr_iload_n dX5_replay_115 rfl ?_
      refine zr_iret dX5_replay_116 rfl ?_
      first | (exfalso; omega) | exact hq0 g k E rfl hLd (by simp)
    · refine zr_aload_n dX5_replay_24 rfl ?_
      refine zr_getR dX5_replay_25 lkX5_15 (by decide) (by decide) rfl (hL.K 15 6) (hL.R 160 15 1) ?_
      refine zr_iload_n dX5_replay_28 rfl ?_
      refine zr_aload_n dX5_replay_29 rfl ?_
      refine zr_getI dX5_replay_30 lkX5_23 (by decide) (by decide) rfl (hL.K 15 6) ?_
      refine zr_as (y := (nI us)) (zput_hit _ _ _ _) ?_
      refine zr_iaddN dX5_replay_33 ?_
      refine zr_iconst (v := nI 2) dX5_replay_34 (by decide) ?_
      refine zr_callV (md' := mX1_number) (As := [.int (nI ((4096 + ar * 18432) + us)), .int (nI 2)]) dX5_replay_35 mlX5_84 okX1_number rfl inX1_number slX1_number (by decide) (hL.K 1 2) rfl (by omega) (Nat.le_of_ble_eq_true rfl) hcb (c_Disk_number (d := d - 1) (M := lgM ad M g E.length us) hcb hL.dk (by omega) (by decide) (Nat.lt_trans (nuN2 _ _) (by decide))) (fun k M1 h => by cases h.1) (fun v M1 hq => ?_)
      obtain ⟨e0, e1⟩ := hq
      cases e0
      rw [e1, hA2]
      refine zr_istore (lv' := [some (.ref ((ad 15))), some (.int (nI k)), some (.int (nI (4096 + ar * 18432))), some (.int (nI i)), some (.int (nI (nuN (zA M (ad 2)) ((4096 + ar * 18432) + us) 2))), none]) dX5_replay_38 (Nat.le_of_ble_eq_true rfl) (Nat.le_of_ble_eq_true rfl) rfl rfl ?_
      refine zr_aload_n dX5_replay_40 rfl ?_
      refine zr_getI dX5_replay_41 lkX5_23 (by decide) (by decide) rfl (hL.K 15 6) ?_
      refine zr_as (y := (nI us)) (zput_hit _ _ _ _) ?_
      refine zr_iconst (v := nI 2) dX5_replay_44 (by decide) ?_
      refine zr_iaddN dX5_replay_45 ?_
      refine zr_iload dX5_replay_46 rfl ?_
      refine zr_iaddN dX5_replay_48 ?_
      refine zr_iconst (v := nI 1) dX5_replay_49 (by decide) ?_
      refine zr_iaddN dX5_replay_50 ?_
      refine zr_istore (lv' := [some (.ref ((ad 15))), some (.int (nI k)), some (.int (nI (4096 + ar * 18432))), some (.int (nI i)), some (.int (nI (nuN (zA M (ad 2)) ((4096 + ar * 18432) + us) 2))), some (.int (nI (((us + 2) + (nuN (zA M (ad 2)) ((4096 + ar * 18432) + us) 2)) + 1)))]) dX5_replay_51 (Nat.le_of_ble_eq_true rfl) (Nat.le_of_ble_eq_true rfl) rfl rfl ?_
      refine zr_iload dX5_replay_53 rfl ?_
      refine zr_sipush (v := nI 18432) dX5_replay_55 (by decide) ?_
      refine zr_icmp_gtN 80 dX5_replay_58 (by decide) (by omega) (by omega) (fun h58 => ?_) (fun h58 => ?_)
      · refine zr_iload_n dX5_replay_80 rfl ?_
        refine zr_iret dX5_replay_81 rfl ?_
        first | (exfalso; omega) | exact hq0 g k E rfl hLd (by simp)
      · refine zr_aload_n dX5_replay_61 rfl ?_
        refine zr_getR dX5_replay_62 lkX5_15 (by decide) (by decide) rfl (hL.K 15 6) (hL.R 160 15 1) ?_
        refine zr_iload_n dX5_replay_65 rfl ?_
        refine zr_iload dX5_replay_66 rfl ?_
        refine zr_iaddN dX5_replay_68 ?_
        refine zr_iconst (v := nI 1) dX5_replay_69 (by decide) ?_
        refine zr_isubN dX5_replay_70 (by omega) ?_
        refine zr_callV (md' := mX1_kind) (As := [.int (nI (((4096 + ar * 18432) + (((us + 2) + (nuN (zA M (ad 2)) ((4096 + ar * 18432) + us) 2)) + 1)) - 1))]) dX5_replay_71 mlX5_87 okX1_kind rfl inX1_kind slX1_kind (by decide) (hL.K 1 2) rfl (by omega) (Nat.le_of_ble_eq_true rfl) hcb (c_Disk_kind (d := d - 1) (M := lgM ad M g E.length us) hcb hL.dk (by omega)) (fun k M1 h => by cases h.1) (fun v M1 hq => ?_)
        obtain ⟨e0, e1⟩ := hq
        cases e0
        rw [e1, hA2]
        refine zr_sipush (v := nI 165) dX5_replay_74 (by decide) ?_
        refine zr_icmp_eqN 82 dX5_replay_77 (by decide) (Nat.lt_trans (zb_lt _) (by decide)) (by decide) (fun h77 => ?_) (fun h77 => ?_)
        · exfalso
          rcases hstop with z | z
          · omega
          · exact z (by rw [show (4096 + ar * 18432) + us + 2 + (nuN (zA M (ad 2)) ((4096 + ar * 18432) + us) 2) = (4096 + ar * 18432) + (us + 2 + (nuN (zA M (ad 2)) ((4096 + ar * 18432) + us) 2) + 1) - 1 by omega]; exact h77)
        · refine zr_iload_n dX5_replay_80 rfl ?_
          refine zr_iret dX5_replay_81 rfl ?_
          first | (exfalso; omega) | exact hq0 g k E rfl hLd (by simp)
  | cons ps rs ih =>
    intro k i us g E hcb hLd hE hs hrec hps hl1 hl2 hus hq0
    have hA2 : zA (lgM ad M g E.length us) (ad 2) = zA M (ad 2) := lgM_A hL _ _ _ (by decide) (by decide)
    obtain ⟨r1, r2, r3, r4⟩ := id hrec
    rw [List.length_cons] at hl2 hq0
    simp only [List.map_cons, List.sum_cons] at hl1
    have hn2 := nuN2 (zA M (ad 2)) ((4096 + ar * 18432) + us)
    refine zr_iload_n dX5_replay_17 rfl ?_
    refine zr_sipush (v := nI 18432) dX5_replay_18 (by decide) ?_
    refine zr_icmp_geN 115 dX5_replay_21 (by decide) (by omega) (by omega) (fun h21 => ?_) (fun h21 => ?_)
    · refine zr_iload_n dX5_replay_115 rfl ?_
      refine zr_iret dX5_replay_116 rfl ?_
      first | (exfalso; omega) | exact absurd (by rw [show (4096 + ar * 18432) + (us + 2 + (nuN (zA M (ad 2)) ((4096 + ar * 18432) + us) 2) + 1) - 1 = (4096 + ar * 18432) + us + 2 + (nuN (zA M (ad 2)) ((4096 + ar * 18432) + us) 2) by omega]; exact r2) h77
    · refine zr_aload_n dX5_replay_24 rfl ?_
      refine zr_getR dX5_replay_25 lkX5_15 (by decide) (by decide) rfl (hL.K 15 6) (hL.R 160 15 1) ?_
      refine zr_iload_n dX5_replay_28 rfl ?_
      refine zr_aload_n dX5_replay_29 rfl ?_
      refine zr_getI dX5_replay_30 lkX5_23 (by decide) (by decide) rfl (hL.K 15 6) ?_
      refine zr_as (y := (nI us)) (zput_hit _ _ _ _) ?_
      refine zr_iaddN dX5_replay_33 ?_
      refine zr_iconst (v := nI 2) dX5_replay_34 (by decide) ?_
      refine zr_callV (md' := mX1_number) (As := [.int (nI ((4096 + ar * 18432) + us)), .int (nI 2)]) dX5_replay_35 mlX5_84 okX1_number rfl inX1_number slX1_number (by decide) (hL.K 1 2) rfl (by omega) (Nat.le_of_ble_eq_true rfl) hcb (c_Disk_number (d := d - 1) (M := lgM ad M g E.length us) hcb hL.dk (by omega) (by decide) (Nat.lt_trans (nuN2 _ _) (by decide))) (fun k M1 h => by cases h.1) (fun v M1 hq => ?_)
      obtain ⟨e0, e1⟩ := hq
      cases e0
      rw [e1, hA2]
      refine zr_istore (lv' := [some (.ref ((ad 15))), some (.int (nI k)), some (.int (nI (4096 + ar * 18432))), some (.int (nI i)), some (.int (nI (nuN (zA M (ad 2)) ((4096 + ar * 18432) + us) 2))), none]) dX5_replay_38 (Nat.le_of_ble_eq_true rfl) (Nat.le_of_ble_eq_true rfl) rfl rfl ?_
      refine zr_aload_n dX5_replay_40 rfl ?_
      refine zr_getI dX5_replay_41 lkX5_23 (by decide) (by decide) rfl (hL.K 15 6) ?_
      refine zr_as (y := (nI us)) (zput_hit _ _ _ _) ?_
      refine zr_iconst (v := nI 2) dX5_replay_44 (by decide) ?_
      refine zr_iaddN dX5_replay_45 ?_
      refine zr_iload dX5_replay_46 rfl ?_
      refine zr_iaddN dX5_replay_48 ?_
      refine zr_iconst (v := nI 1) dX5_replay_49 (by decide) ?_
      refine zr_iaddN dX5_replay_50 ?_
      refine zr_istore (lv' := [some (.ref ((ad 15))), some (.int (nI k)), some (.int (nI (4096 + ar * 18432))), some (.int (nI i)), some (.int (nI (nuN (zA M (ad 2)) ((4096 + ar * 18432) + us) 2))), some (.int (nI (((us + 2) + (nuN (zA M (ad 2)) ((4096 + ar * 18432) + us) 2)) + 1)))]) dX5_replay_51 (Nat.le_of_ble_eq_true rfl) (Nat.le_of_ble_eq_true rfl) rfl rfl ?_
      refine zr_iload dX5_replay_53 rfl ?_
      refine zr_sipush (v := nI 18432) dX5_replay_55 (by decide) ?_
      refine zr_icmp_gtN 80 dX5_replay_58 (by decide) (by omega) (by omega) (fun h58 => ?_) (fun h58 => ?_)
      · refine zr_iload_n dX5_replay_80 rfl ?_
        refine zr_iret dX5_replay_81 rfl ?_
        first | (exfalso; omega) | exact absurd (by rw [show (4096 + ar * 18432) + (us + 2 + (nuN (zA M (ad 2)) ((4096 + ar * 18432) + us) 2) + 1) - 1 = (4096 + ar * 18432) + us + 2 + (nuN (zA M (ad 2)) ((4096 + ar * 18432) + us) 2) by omega]; exact r2) h77
      · refine zr_aload_n dX5_replay_61 rfl ?_
        refine zr_getR dX5_replay_62 lkX5_15 (by decide) (by decide) rfl (hL.K 15 6) (hL.R 160 15 1) ?_
        refine zr_iload_n dX5_replay_65 rfl ?_
        refine zr_iload dX5_replay_66 rfl ?_
        refine zr_iaddN dX5_replay_68 ?_
        refine zr_iconst (v := nI 1) dX5_replay_69 (by decide) ?_
        refine zr_isubN dX5_replay_70 (by omega) ?_
        refine zr_callV (md' := mX1_kind) (As := [.int (nI (((4096 + ar * 18432) + (((us + 2) + (nuN (zA M (ad 2)) ((4096 + ar * 18432) + us) 2)) + 1)) - 1))]) dX5_replay_71 mlX5_87 okX1_kind rfl inX1_kind slX1_kind (by decide) (hL.K 1 2) rfl (by omega) (Nat.le_of_ble_eq_true rfl) hcb (c_Disk_kind (d := d - 1) (M := lgM ad M g E.length us) hcb hL.dk (by omega)) (fun k M1 h => by cases h.1) (fun v M1 hq => ?_)
        obtain ⟨e0, e1⟩ := hq
        cases e0
        rw [e1, hA2]
        refine zr_sipush (v := nI 165) dX5_replay_74 (by decide) ?_
        refine zr_icmp_eqN 82 dX5_replay_77 (by decide) (Nat.lt_trans (zb_lt _) (by decide)) (by decide) (fun h77 => ?_) (fun h77 => ?_)
        · refine zr_aload_n dX5_replay_82 rfl ?_
          refine zr_iload_n dX5_replay_83 rfl ?_
          refine zr_aload_n dX5_replay_84 rfl ?_
          refine zr_getI dX5_replay_85 lkX5_23 (by decide) (by decide) rfl (hL.K 15 6) ?_
          refine zr_as (y := (nI us)) (zput_hit _ _ _ _) ?_
          refine zr_iaddN dX5_replay_88 ?_
          refine zr_iconst (v := nI 2) dX5_replay_89 (by decide) ?_
          refine zr_iaddN dX5_replay_90 ?_
          refine zr_iload_n dX5_replay_91 rfl ?_
          refine zr_iload dX5_replay_92 rfl ?_
          refine zr_iaddN dX5_replay_94 ?_
          refine zr_iconst (v := nI 1) dX5_replay_95 (by decide) ?_
          refine zr_isubN dX5_replay_96 (by omega) ?_
          refine zr_callV (md' := mX5_enlist) (As := [.int (nI (((4096 + ar * 18432) + us) + 2)), .int (nI (((4096 + ar * 18432) + (((us + 2) + (nuN (zA M (ad 2)) ((4096 + ar * 18432) + us) 2)) + 1)) - 1))]) dX5_replay_97 mlX5_59 okX5_enlist rfl inX5_enlist slX5_enlist (by decide) (hL.K 15 6) rfl (by omega) (Nat.le_of_ble_eq_true rfl) hcb (c_Log_enlist (d := d - 1) (M := lgM ad M g E.length us) (E := E) (ps := ps) (by omega) hcb hL (lgM_lg hLd (by omega)) (by rw [hA2]; exact hE) (by rw [hA2]; exact hs) (by omega) (by rw [hA2, show (4096 + ar * 18432) + (us + 2 + (nuN (zA M (ad 2)) ((4096 + ar * 18432) + us) 2) + 1) - 1 = (4096 + ar * 18432) + us + 2 + (nuN (zA M (ad 2)) ((4096 + ar * 18432) + us) 2) by omega]; exact r1) (by rw [hA2]; exact hps ps List.mem_cons_self) (by omega)) (fun k M1 h => by cases h.1) (fun v M1 hq => ?_)
          obtain ⟨e0, g2, E2, e1, hI, hLd2⟩ := hq
          cases e0
          rw [hA2] at hI
          rw [e1, lgM_ins]
          have hF := hI.facts hE hs (hps ps List.mem_cons_self)
          refine zr_aload_n dX5_replay_100 rfl ?_
          refine zr_iload dX5_replay_101 rfl ?_
          refine zr_putI dX5_replay_103 lkX5_23 (by decide) (by decide) rfl rfl (hL.K 15 6) ?_
          refine zr_iincN (n := 1) (lv' := [some (.ref ((ad 15))), some (.int (nI (k + 1))), some (.int (nI (4096 + ar * 18432))), some (.int (nI i)), some (.int (nI (nuN (zA M (ad 2)) ((4096 + ar * 18432) + us) 2))), some (.int (nI (((us + 2) + (nuN (zA M (ad 2)) ((4096 + ar * 18432) + us) 2)) + 1)))]) dX5_replay_106 (Nat.le_of_ble_eq_true rfl) (Nat.le_of_ble_eq_true rfl) rfl rfl rfl ?_
          refine zr_iincN (n := 1) (lv' := [some (.ref ((ad 15))), some (.int (nI (k + 1))), some (.int (nI (4096 + ar * 18432))), some (.int (nI (i + 1))), some (.int (nI (nuN (zA M (ad 2)) ((4096 + ar * 18432) + us) 2))), some (.int (nI (((us + 2) + (nuN (zA M (ad 2)) ((4096 + ar * 18432) + us) 2)) + 1)))]) dX5_replay_109 (Nat.le_of_ble_eq_true rfl) (Nat.le_of_ble_eq_true rfl) rfl rfl rfl ?_
          refine zr_goto 17 dX5_replay_112 (by decide) ?_
          refine zr_drop 4 rfl ?_
          refine zr_drop 5 rfl ?_
          refine zr_asM (M' := lgM ad M g2 E2.length (us + (nuN (zA M (ad 2)) ((4096 + ar * 18432) + us) 2) + 3)) (by rw [show us + (nuN (zA M (ad 2)) ((4096 + ar * 18432) + us) 2) + 3 = us + 2 + (nuN (zA M (ad 2)) ((4096 + ar * 18432) + us) 2) + 1 by omega]; unfold lgM; rw [zput_put]) ?_
          exact ih (k + 1) (i + 1) (us + (nuN (zA M (ad 2)) ((4096 + ar * 18432) + us) 2) + 3) g2 E2 hcb hLd2 hF.1 hF.2.1 r4 (fun q hq => hps q (List.mem_cons_of_mem _ hq)) (by omega) (by omega) (by omega) (fun g3 k3 E3 h1 h2 h3 => hq0 g3 k3 E3 ⟨E2, hI, h1⟩ h2 (by omega))
        · refine zr_iload_n dX5_replay_80 rfl ?_
          refine zr_iret dX5_replay_81 rfl ?_
          first | (exfalso; omega) | exact absurd (by rw [show (4096 + ar * 18432) + (us + 2 + (nuN (zA M (ad 2)) ((4096 + ar * 18432) + us) 2) + 1) - 1 = (4096 + ar * 18432) + us + 2 + (nuN (zA M (ad 2)) ((4096 + ar * 18432) + us) 2) by omega]; exact r2) h77
set_option maxRecDepth 100000 in
set_option maxHeartbeats 4000000 in
theorem c_Log_replay {G : zG} {ad : Nat → Nat} {d ar e : Nat} {rs : List (List Nat)} {E : List Nat} {M : zM} (hd : 4 ≤ d) (hcb : zC M ≤ 600128 ∧ zS M ≤ 7301098) (hL : Lay ad M) (hG : Lg ad M E) (h164 : zI M 164 (ad 15) = nI ar) (har : ar ≤ 1) (h163 : zI M 163 (ad 15) = nI 0) (hE : Eb (zA M (ad 2)) E) (hs : E.Pairwise (pre (zA M (ad 2)))) (hrec : Recs (zA M (ad 2)) (4096 + ar * 18432) 0 rs e) (hstop : Stop (zA M (ad 2)) (4096 + ar * 18432) e) (hps : ∀ ps ∈ rs, Eb (zA M (ad 2)) ps) (hl1 : E.length + (rs.map List.length).sum ≤ 2048) (hl2 : rs.length < 18432)  : zMet G mX5_replay d [.ref ((ad 15))] M (fun o M' => o = .inl (some (.int (nI rs.length))) ∧ ∃ (g : Nat → Int32) (E' : List Nat), M' = lgM ad M g E'.length e ∧ InsR (zA M (ad 2)) E rs E' ∧ Ld g E') := by
  refine zMet_of (by decide +kernel) (Nat.le_of_ble_eq_true rfl) rfl hcb ?_
  show zw G mX5_replay d _ _ _ 0 [some (.ref ((ad 15))), none, none, none, none, none] [] M
  refine zr_iconst (v := nI 0) dX5_replay_0 (by decide) ?_
  refine zr_istore_n (lv' := [some (.ref ((ad 15))), some (.int (nI 0)), none, none, none, none]) dX5_replay_1 (Nat.le_of_ble_eq_true rfl) (Nat.le_of_ble_eq_true rfl) rfl rfl ?_
  refine zr_sipush (v := nI 4096) dX5_replay_2 (by decide) ?_
  refine zr_aload_n dX5_replay_5 rfl ?_
  refine zr_getI dX5_replay_6 lkX5_19 (by decide) (by decide) rfl (hL.K 15 6) ?_
  refine zr_as (y := (nI ar)) h164 ?_
  refine zr_sipush (v := nI 18432) dX5_replay_9 (by decide) ?_
  refine zr_imulN dX5_replay_12 ?_
  refine zr_iaddN dX5_replay_13 ?_
  refine zr_istore_n (lv' := [some (.ref ((ad 15))), some (.int (nI 0)), some (.int (nI (4096 + (ar * 18432)))), none, none, none]) dX5_replay_14 (Nat.le_of_ble_eq_true rfl) (Nat.le_of_ble_eq_true rfl) rfl rfl ?_
  refine zr_iconst (v := nI 0) dX5_replay_15 (by decide) ?_
  refine zr_istore_n (lv' := [some (.ref ((ad 15))), some (.int (nI 0)), some (.int (nI (4096 + (ar * 18432)))), some (.int (nI 0)), none, none]) dX5_replay_16 (Nat.le_of_ble_eq_true rfl) (Nat.le_of_ble_eq_true rfl) rfl rfl ?_
  refine zr_asM (M' := lgM ad M (zA M (ad 16)) E.length 0) (by rw [lgM_self hG h163]) ?_
  exact l_Log_replay (n1 := 0) hd hL h164 har (by omega) hstop rs 0 0 0 _ E hcb hG.2.2 hE hs hrec hps hl1 (by omega) (by omega) (fun g k E1 h1 h2 h3 => ⟨by rw [h3, Nat.zero_add], g, E1, rfl, h1, h2⟩)
