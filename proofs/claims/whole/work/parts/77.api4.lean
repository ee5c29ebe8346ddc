/-! ===== LsmStore: calls (4): what reads ===== -/
theorem hit_mapW {D : Nat → Int32} {U : List Nat} {ms : Mp} {k : List Nat} {w : Nat} {y : Option Nat} (hu : Ud D U) (hv : ∀ k v, vw (U.map (ent D)) w k v ↔ (k, v) ∈ ms) (h : Hit D U k w y) : (∀ s, y = some s → zb (D s) = 1 → (k, eva D s) ∈ ms) ∧ (kdO D y ≠ 1 → ∀ v, (k, v) ∉ ms) := by
  constructor
  · intro s hs h1
    obtain ⟨a1, a2, a3, a4⟩ := h.1 s hs
    refine (hv k _).mp ⟨ent D s, List.mem_map_of_mem a1, a2, a3, h1, rfl, fun f hf hk hw => ?_⟩
    obtain ⟨q, hq, rfl⟩ := List.mem_map.mp hf
    exact a4 q hq hk hw
  · intro hn v hx
    obtain ⟨e, h1, h2, h3, h4, h5, h6⟩ := (hv k v).mpr hx
    obtain ⟨q, hq, rfl⟩ := List.mem_map.mp h1
    cases y with
    | none =>
      have h7 := h.2 rfl q hq h2
      have h8 : ecm D q ≤ w := h3
      omega
    | some s =>
      obtain ⟨a1, a2, a3, a4⟩ := h.1 s rfl
      have b1 := a4 q hq h2 h3
      have b2 := h6 (ent D s) (List.mem_map_of_mem a1) a2 a3
      have e : s = q := hu.2 s a1 q hq (a2.trans (Eq.symm h2)) (Nat.le_antisymm b2 b1)
      subst e
      exact hn h4
theorem see_ms {D : Nat → Int32} {U : List Nat} {ms : Mp} {k v : List Nat} {w : Nat} (hv : ∀ k v, vw (U.map (ent D)) w k v ↔ (k, v) ∈ ms) (h : (k, v) ∈ ms) : SeeP D U w k ∧ ∃ q ∈ U, eky D q = k := by
  obtain ⟨e, h1, h2, h3, h4, h5, h6⟩ := (hv k v).mpr h
  obtain ⟨q, hq, rfl⟩ := List.mem_map.mp h1
  exact ⟨⟨q, ⟨fun p hp => by cases hp; exact ⟨hq, h2, h3, fun q' hq' hk hw => h6 (ent D q') (List.mem_map_of_mem hq') hk hw⟩, fun z => by cases z⟩, h4⟩, q, hq, h2⟩
theorem find_min {ms : Mp} {f : List Nat × List Nat → Bool} {a : List Nat × List Nat} (hs : Srt ms) (ha : a ∈ ms) (hp : f a = true) (hm : ∀ b ∈ ms, f b = true → ¬ klt b.1 a.1) : ms.find? f = some a := by
  induction ms with
  | nil => cases ha
  | cons b ms ih =>
    have h1 := List.pairwise_cons.mp hs
    by_cases hb : f b = true
    · rw [List.find?_cons_of_pos hb]
      rcases List.mem_cons.mp ha with e | e
      · rw [e]
      · exact absurd (h1.1 a e) (hm b List.mem_cons_self hb)
    · rw [List.find?_cons_of_neg hb]
      rcases List.mem_cons.mp ha with e | e
      · rw [e] at hp; exact absurd hp hb
      · exact ih h1.2 e (fun x hx => hm x (List.mem_cons_of_mem _ hx))
theorem last_max {l : Mp} {a : List Nat × List Nat} (hs : Srt l) (ha : a ∈ l) (hm : ∀ b ∈ l, ¬ klt a.1 b.1) : l.getLast? = some a := by
  obtain ⟨A, B, e⟩ := List.append_of_mem ha
  cases B with
  | nil => rw [e, List.getLast?_append]; rfl
  | cons b B =>
    rw [e] at hs
    have h1 := (List.pairwise_append.mp hs).2.1
    have h2 := (List.pairwise_cons.mp h1).1 b List.mem_cons_self
    exact absurd h2 (hm b (by rw [e]; exact List.mem_append_right _ (List.mem_cons_of_mem _ List.mem_cons_self)))
theorem seek_spec {D : Nat → Int32} {U : List Nat} {ms : Mp} {K : List Nat} {w e : Nat} {bh : Int32} {x : Option Nat} (hu : Ud D U) (he : Edg e) (heb : e = 0 ↔ bh ≠ 0) (hs : Srt ms) (hv : ∀ k v, vw (U.map (ent D)) w k v ↔ (k, v) ∈ ms) (h : Nea D U w K e x) : ms.find? (fun a => !(kltb a.1 K) && !(decide (a.1 = K) && decide (bh ≠ 0))) = x.map (fun s => (eky D s, eva D s)) := by
  have hf : ∀ a : List Nat × List Nat, ((fun a : List Nat × List Nat => !(kltb a.1 K) && !(decide (a.1 = K) && decide (bh ≠ 0))) a = true ↔ (¬ klt a.1 K ∧ (e = 0 → a.1 ≠ K))) := fun a => by
    dsimp only
    rw [Bool.and_eq_true, Bool.not_eq_true', Bool.not_eq_true', Bool.and_eq_false_iff, decide_eq_false_iff_not, decide_eq_false_iff_not, ← Bool.not_eq_true, kltb_iff]
    constructor
    · rintro ⟨a1, a2⟩
      exact ⟨a1, fun z => a2.elim id (fun y => absurd (heb.mp z) y)⟩
    · rintro ⟨a1, a2⟩
      refine ⟨a1, ?_⟩
      by_cases hz : e = 0
      · exact Or.inl (a2 hz)
      · exact Or.inr (fun y => hz (heb.mpr y))
  cases x with
  | none =>
    refine List.find?_eq_none.mpr (fun a ha hp => ?_)
    obtain ⟨h1, q, hq, h2⟩ := see_ms (v := a.2) hv ha
    exact h.2 rfl q hq ((nbef hu he hq).mpr (by rw [h2]; exact (hf a).mp hp)) (by rw [h2]; exact h1)
  | some s =>
    obtain ⟨h1, h2, h3, h4⟩ := h.1 s rfl
    have hin := (hit_mapW hu hv h1).1 s rfl h2
    refine find_min hs hin ((hf _).mpr ((nbef hu he (h1.1 s rfl).1).mp h3)) (fun b hb hp hlt => ?_)
    obtain ⟨g1, q, hq, g2⟩ := see_ms (v := b.2) hv hb
    exact h4 q hq ((nbef hu he hq).mpr (by rw [g2]; exact (hf b).mp hp)) (by rw [g2]; exact hlt) (by rw [g2]; exact g1)
theorem bef_spec {D : Nat → Int32} {U : List Nat} {ms : Mp} {K : List Nat} {w : Nat} {x : Option Nat} (hu : Ud D U) (hs : Srt ms) (hv : ∀ k v, vw (U.map (ent D)) w k v ↔ (k, v) ∈ ms) (h : Neb D U w K x) : (ms.filter (fun a => kltb a.1 K)).getLast? = x.map (fun s => (eky D s, eva D s)) := by
  have hsf : Srt (ms.filter (fun a => kltb a.1 K)) := List.Pairwise.sublist List.filter_sublist hs
  cases x with
  | none =>
    have e : ms.filter (fun a => kltb a.1 K) = [] := by
      refine List.filter_eq_nil_iff.mpr (fun a ha hp => ?_)
      obtain ⟨h1, q, hq, h2⟩ := see_ms (v := a.2) hv ha
      exact h.2 rfl q hq (by rw [h2]; exact (kltb_iff _ _).mp hp) (by rw [h2]; exact h1)
    rw [e]; rfl
  | some s =>
    obtain ⟨h1, h2, h3, h4⟩ := h.1 s rfl
    have hin := (hit_mapW hu hv h1).1 s rfl h2
    refine last_max hsf (List.mem_filter.mpr ⟨hin, (kltb_iff _ _).mpr h3⟩) (fun b hb hlt => ?_)
    obtain ⟨c1, c2⟩ := List.mem_filter.mp hb
    obtain ⟨g1, q, hq, g2⟩ := see_ms (v := b.2) hv c1
    exact h4 q hq (by rw [g2]; exact (kltb_iff _ _).mp c2) (by rw [g2]; exact hlt) (by rw [g2]; exact g1)
theorem get_spec {D : Nat → Int32} {U : List Nat} {ms : Mp} {K : List Nat} {w : Nat} {y : Option Nat} (hu : Ud D U) (hs : Srt ms) (hv : ∀ k v, vw (U.map (ent D)) w k v ↔ (k, v) ∈ ms) (h : Hit D U K w y) : (kdO D y ≠ 1 → ms.find? (fun a => decide (a.1 = K)) = none) ∧ ∀ s, y = some s → zb (D s) = 1 → ms.find? (fun a => decide (a.1 = K)) = some (K, eva D s) := by
  obtain ⟨h1, h2⟩ := hit_mapW hu hv h
  refine ⟨fun hn => List.find?_eq_none.mpr (fun a ha hp => ?_), fun s hy hk => ?_⟩
  · have := of_decide_eq_true hp
    exact h2 hn a.2 (by rw [← this]; exact ha)
  · refine find_min hs (h1 s hy hk) (decide_eq_true rfl) (fun b hb hp hlt => ?_)
    have := of_decide_eq_true hp
    rw [this] at hlt
    exact klt_irrefl _ hlt
/-- the files of a store that is on -/
def Ond (ad : Nat → Nat) (M : zM) (A : As) (E : List Nat) (Ls : Nat → List zF) (n1 gm : Nat) (v : Nat → Option Nat) : Prop := Onn ad M E Ls (aC A) n1 gm 1 (aM A) ∧ zVw M (ad 13) (ad 14) v ∧ Vws (zA M (ad 2)) E Ls v (aN A) (aC A) ∧ n1 ≤ 64
theorem Sa.ond {ad : Nat → Nat} {M : zM} {A : As} {n : Nat} (h : Sa ad M A n) (hn : n ≤ 64) : ∃ E Ls n1 gm v, aF A = 0 → Ond ad M A E Ls n1 gm v := by
  rcases h.2 with ⟨a0, ⟨E, Ls, n1, v, a1, a2, a3, a4⟩, -⟩ | ⟨a0, -⟩
  · exact ⟨E, Ls, n1, _, v, fun _ => ⟨a1, a3, a4, by omega⟩⟩
  · exact ⟨[], fun _ => [], 0, 0, fun _ => none, fun z => by omega⟩
/-- the map of a number, and its view -/
def Vwm (D : Nat → Int32) (E : List Nat) (Ls : Nat → List zF) (A : As) (s : Int32) (w : Nat) (ms : Mp) : Prop := vmp A s = some ms ∧ w < 2 ^ 31 ∧ Srt ms ∧ ∀ k x, vw ((up E Ls 3).map (ent D)) w k x ↔ (k, x) ∈ ms
set_option maxRecDepth 100000 in
set_option maxHeartbeats 4000000 in
theorem c_viewOf {G : zG} {ad : Nat → Nat} {d n : Nat} {s0 : Int32} {E : List Nat} {Ls : Nat → List zF} {n1 gm : Nat} {v : Nat → Option Nat} {A : As} {M : zM} (hd : 7 ≤ d) (hS : Sa ad M A n) (hn : n < 64) (hO9 : aF A = 0 → Ond ad M A E Ls n1 gm v)  : zMet G mX11_viewOf d [.ref ((ad 0)), .int s0] M (fun o M' => (aF A = 1 ∧ o = .inr 0 ∧ M' = zthr M) ∨ (aF A = 0 ∧ vmp A s0 = none ∧ o = .inr 3 ∧ M' = zthr M) ∨ (aF A = 0 ∧ ∃ w ms, Vwm (zA M (ad 2)) E Ls A s0 w ms ∧ o = .inl (some (.int (nI w))) ∧ M' = M)) := by
  obtain ⟨hcb, hcx⟩ := hS.cb (by omega)
  obtain ⟨⟨hL, hrm, hK, hV, ⟨pl, hpl, hpr⟩, ⟨tr, htr, htr9⟩, ⟨lf, ct, du, cn, hP⟩, hMw, hcn⟩, hcase⟩ := id hS
  refine zMet_of (by decide +kernel) (Nat.le_of_ble_eq_true rfl) rfl hcb ?_
  show zw G mX11_viewOf d _ _ _ 0 [some (.ref ((ad 0))), some (.int s0)] [] M
  refine zr_aload_n dX11_viewOf_0 rfl ?_
  refine zr_callV (md' := mX11_requireOn) (As := []) dX11_viewOf_1 mlX11_108 okX11_requireOn rfl inX11_requireOn slX11_requireOn (by decide) (hL.K 0 12) rfl (by omega) (Nat.le_of_ble_eq_true rfl) hcb (c_requireOn (d := d - 1) (on9 := 1 - aF A) (by omega) hcb hcx hL hP.1 (by omega)) (fun k M9 h => zt_out rfl (by rcases h with ⟨_, h, _⟩ | ⟨h0, h, e9⟩; exact absurd h (by simp); cases h; exact Or.inl ⟨by omega, rfl, e9⟩)) (fun v M9 hq => ?_)
  rcases hq with ⟨h0, e0, e9⟩ | ⟨_, e0, _⟩
  rotate_left
  · cases e0
  cases e0
  rw [e9]
  have hon : aF A = 0 := by have := hS.on; omega
  obtain ⟨hOn, hvw, hVs, hn64⟩ := hO9 hon
  obtain ⟨ar, us, to, to2, g, cm, rs, hO, hU, hB⟩ := id hOn
  refine zr_iload_n dX11_viewOf_4 rfl ?_
  refine zr_iconst (v := -1) dX11_viewOf_5 (by decide) ?_
  refine zr_icmp_ne 12 dX11_viewOf_6 (by decide) (fun h6 => ?_) (fun h6 => ?_)
  · refine zr_aload_n dX11_viewOf_12 rfl ?_
    refine zr_getR dX11_viewOf_13 lkX11_41 (by decide) (by decide) rfl (hL.K 0 12) (hL.R 357 0 13) ?_
    refine zr_iload_n dX11_viewOf_16 rfl ?_
    refine zr_callV (md' := mX9_has) (As := [.int s0]) dX11_viewOf_17 mlX11_146 okX9_has rfl inX9_has slX9_has (by decide) (hL.K 13 10) rfl (by omega) (Nat.le_of_ble_eq_true rfl) hcb (c_Views_has (d := d - 1) (s := s0) hcb hvw) (fun k M9 h => by obtain ⟨-, t, h, -⟩ := h; cases h) (fun v M9 hq => ?_)
    obtain ⟨e9, t, e0, ht1, ht2⟩ := hq
    cases e0
    rw [e9]
    refine zr_if_neN 33 dX11_viewOf_20 (by decide) (by omega) (fun h20 => ?_) (fun h20 => ?_)
    · obtain ⟨j0, hj1, hj0, hj2⟩ := ht2.mp (by omega)
      have hcl : s0.toNatClampNeg = j0 := by rw [hj1]; exact nI_clamp (by omega)
      refine zr_asL (lv' := [some (.ref ((ad 0))), some (.int (nI j0))]) (by rw [hj1]) ?_
      obtain ⟨w9, ms9, g1, g2, g3, g4⟩ := (hVs.2 j0 hj0).resolve_left (fun z => hj2 z.1)
      refine zr_aload_n dX11_viewOf_33 rfl ?_
      refine zr_getR dX11_viewOf_34 lkX11_41 (by decide) (by decide) rfl (hL.K 0 12) (hL.R 357 0 13) ?_
      refine zr_getR dX11_viewOf_37 lkX11_268 (by decide) (by decide) rfl (hL.K 13 10) (hL.R 288 13 14) ?_
      refine zr_iload_n dX11_viewOf_40 rfl ?_
      refine zr_ialdN dX11_viewOf_41 (hL.K 14 15) (hL.N 14 8) (by omega) (by omega) ?_
      refine zr_as (y := (nI w9)) ((hvw.2.2.2.2.1 j0 hj0).trans (by rw [g1]; rfl)) ?_
      refine zr_iret dX11_viewOf_42 rfl ?_
      refine Or.inr (Or.inr ⟨hon, w9, ms9, ⟨?_, hvw.2.2.2.2.2 j0 w9 g1, g3, g4⟩, rfl, rfl⟩)
      have h0 : s0.toInt = (j0 : Int) := by rw [hj1]; exact nI_toInt (by omega)
      unfold vmp
      rw [if_neg h6, if_pos (by omega), hcl]
      exact g2
    · refine zr_throwN (k := 3) (sk := 5) dX11_viewOf_23 dX11_viewOf_26 dX11_viewOf_27 dX11_viewOf_29 dX11_viewOf_32 thX11_3 rfl rfl (by omega) (Nat.le_of_ble_eq_true rfl) hcx ?_
      have hz := (Classical.byContradiction (fun z => by have := ht2.mpr ((vmp_has hVs).mpr z); omega) : s0 = -1 ∨ vmp A s0 = none)
      exact Or.inr (Or.inl ⟨hon, hz.resolve_left h6, rfl, rfl⟩)
  · refine zr_ldc dX11_viewOf_9 ctX11_175 ?_
    refine zr_as (y := nI 2147483647) (by decide) ?_
    refine zr_iret dX11_viewOf_11 rfl ?_
    exact Or.inr (Or.inr ⟨hon, 2147483647, aM A, ⟨by unfold vmp; rw [if_pos h6], by decide, hMw.1, hU.2.2.2.1.2.2.2.2⟩, rfl, rfl⟩)
theorem rw_copy {ad : Nat → Nat} {M M1 : zM} {s : Nat} (hL : Lay ad M) (e : M1 = zput (zsetA M (ad 7) (va_cpy (zA M (ad 2)) (zA M (ad 7)) (s + 8 + ekl (zA M (ad 2)) s) 0 (evl (zA M (ad 2)) s))) 193 (ad 6) (nI (evl (zA M (ad 2)) s))) (hv : evl (zA M (ad 2)) s ≤ 200) : RwS ad M1 6 7 (eva (zA M (ad 2)) s) 200 := by
  have hl : (eva (zA M (ad 2)) s).length = evl (zA M (ad 2)) s := rwl_len _ _
  refine ⟨by rw [hl, e]; exact zput_hit _ _ _ _, ?_, by rw [hl]; exact hv⟩
  rw [hl, e, show zA (zput (zsetA M (ad 7) (va_cpy (zA M (ad 2)) (zA M (ad 7)) (s + 8 + ekl (zA M (ad 2)) s) 0 (evl (zA M (ad 2)) s))) 193 (ad 6) (nI (evl (zA M (ad 2)) s))) (ad 7) = va_cpy (zA M (ad 2)) (zA M (ad 7)) (s + 8 + ekl (zA M (ad 2)) s) 0 (evl (zA M (ad 2)) s) from zsetA_hit _ _ _]
  unfold eva
  exact rwl_congr (fun i hi => by rw [pk_cpy_in (by omega) (by omega), Nat.sub_zero])
theorem rw_copyk {ad : Nat → Nat} {M M1 : zM} {s : Nat} (hL : Lay ad M) (e : M1 = zput (zsetA M (ad 5) (va_cpy (zA M (ad 2)) (zA M (ad 5)) (s + 8) 0 (ekl (zA M (ad 2)) s))) 193 (ad 4) (nI (ekl (zA M (ad 2)) s))) (hv : ekl (zA M (ad 2)) s ≤ 32) : RwS ad M1 4 5 (eky (zA M (ad 2)) s) 32 := by
  have hl : (eky (zA M (ad 2)) s).length = ekl (zA M (ad 2)) s := rwl_len _ _
  refine ⟨by rw [hl, e]; exact zput_hit _ _ _ _, ?_, by rw [hl]; exact hv⟩
  rw [hl, e, show zA (zput (zsetA M (ad 5) (va_cpy (zA M (ad 2)) (zA M (ad 5)) (s + 8) 0 (ekl (zA M (ad 2)) s))) 193 (ad 4) (nI (ekl (zA M (ad 2)) s))) (ad 5) = va_cpy (zA M (ad 2)) (zA M (ad 5)) (s + 8) 0 (ekl (zA M (ad 2)) s) from zsetA_hit _ _ _]
  unfold eky
  exact rwl_congr (fun i hi => by rw [pk_cpy_in (by omega) (by omega), Nat.sub_zero])
set_option maxRecDepth 100000 in
set_option maxHeartbeats 4000000 in
theorem a_get {G : zG} {ad : Nat → Nat} {d n : Nat} {s0 : Int32} {A : As} {M : zM} (hd : 9 ≤ d) (hS : Sa ad M A n) (hn : n < 64)  : zMet G mX11_get d [.ref ((ad 0)), .int s0] M (Pst ad M n (sGet s0 A)) := by
  obtain ⟨hcb, hcx⟩ := hS.cb (by omega)
  obtain ⟨⟨hL, hrm, hK, hV, ⟨pl, hpl, hpr⟩, ⟨tr, htr, htr9⟩, ⟨lf, ct, du, cn, hP⟩, hMw, hcn⟩, hcase⟩ := id hS
  obtain ⟨E, Ls, n1, gm, v, hO9⟩ := hS.ond (by omega)
  have hthr : (aF A = 1 ∧ ∀ f, sView A s0 f = (A, .inr 0)) ∨ aF A = 0 := by
    rcases (show aF A = 1 ∨ aF A = 0 by have := hS.on; omega) with z | z
    · exact Or.inl ⟨z, fun f => if_pos z⟩
    · exact Or.inr z
  have hx0 : aF A = 1 → Pst ad M n (sGet s0 A) (.inr 0) (zthr M) := fun z => by
    have e9 : (sGet s0 A) = (A, .inr 0) := if_pos z
    rw [e9]
    exact ⟨rfl, hS.thr, 1, thr_fk ad M⟩
  have hx3 : aF A = 0 → vmp A s0 = none → Pst ad M n (sGet s0 A) (.inr 3) (zthr M) := fun z1 z2 => by
    have e9 : (sGet s0 A) = (A, .inr 3) := by
      unfold sGet sView
      rw [if_neg (by omega), z2]
    rw [e9]
    exact ⟨rfl, hS.thr, 1, thr_fk ad M⟩
  refine zMet_of (by decide +kernel) (Nat.le_of_ble_eq_true rfl) rfl hcb ?_
  show zw G mX11_get d _ _ _ 0 [some (.ref ((ad 0))), some (.int s0), none, none] [] M
  refine zr_aload_n dX11_get_0 rfl ?_
  refine zr_iload_n dX11_get_1 rfl ?_
  refine zr_callV (md' := mX11_viewOf) (As := [.int s0]) dX11_get_2 mlX11_158 okX11_viewOf rfl inX11_viewOf slX11_viewOf (by decide) (hL.K 0 12) rfl (by omega) (Nat.le_of_ble_eq_true rfl) hcb (c_viewOf (d := d - 1) (s0 := s0) (by omega) hS hn hO9) (fun k M9 h => zt_out rfl (by rcases h with ⟨h0, h, e9⟩ | ⟨h0, h1, h, e9⟩ | ⟨_, _, _, _, h, _⟩; cases h; rw [e9]; exact hx0 h0; cases h; rw [e9]; exact hx3 h0 h1; cases h)) (fun v M9 hq => ?_)
  rcases hq with ⟨_, e0, _⟩ | ⟨_, _, e0, _⟩ | ⟨hon, w9, ms9, hvm, e0, e9⟩
  · cases e0
  · cases e0
  cases e0
  rw [e9]
  obtain ⟨vm1, vm2, vm3, vm4⟩ := hvm
  obtain ⟨hOn, hvw, hVs, hn64⟩ := hO9 hon
  obtain ⟨ar, us, to, to2, g, cm, rs, hO, hU, hB⟩ := id hOn
  have hu := hU.2.2.2.1.2.1
  refine zr_istore_n (lv' := [some (.ref ((ad 0))), some (.int s0), some (.int (nI w9)), none]) dX11_get_5 (Nat.le_of_ble_eq_true rfl) (Nat.le_of_ble_eq_true rfl) rfl rfl ?_
  refine zr_aload_n dX11_get_6 rfl ?_
  refine zr_aload_n dX11_get_7 rfl ?_
  refine zr_getR dX11_get_8 lkX11_21 (by decide) (by decide) rfl (hL.K 0 12) (hL.R 353 0 4) ?_
  refine zr_iload_n dX11_get_11 rfl ?_
  refine zr_callV (md' := mX11_find) (As := [.ref ((ad 4)), .int (nI w9)]) dX11_get_12 mlX11_161 okX11_find rfl inX11_find slX11_find (by decide) (hL.K 0 12) rfl (by omega) (Nat.le_of_ble_eq_true rfl) hcb (c_find (d := d - 1) (r := ad 4) (rc := ad 5) (len := (aK A).length) (cap := 32) (by omega) hcb hL hO.1 ⟨hL.K 4 7, hL.R 192 4 5, hL.K 5 14, hL.N 5 32, hK.1, hK.2.2, by decide⟩ vm2 hU.2.2.2.1.1) (fun k M9 h => by obtain ⟨-, t, h, -⟩ := h; cases h) (fun v M9 hq => ?_)
  obtain ⟨e9, y, e0, hy⟩ := hq
  cases e0
  rw [e9]
  rw [hK.2.1] at hy
  obtain ⟨gs1, gs2⟩ := get_spec hu vm3 vm4 hy
  have hyb : ∀ q, y = some q → q < 303104 := fun q hq => by have := (up_eb hO.1 (Nat.le_refl 3) (hy.1 q hq).1).1; omega
  refine zr_istore_n (lv' := [some (.ref ((ad 0))), some (.int s0), some (.int (nI w9)), some (.int (zvi y))]) dX11_get_15 (Nat.le_of_ble_eq_true rfl) (Nat.le_of_ble_eq_true rfl) rfl rfl ?_
  refine zr_aload_n dX11_get_16 rfl ?_
  refine zr_getR dX11_get_17 lkX11_12 (by decide) (by decide) rfl (hL.K 0 12) (hL.R 352 0 1) ?_
  refine zr_iload_n dX11_get_20 rfl ?_
  refine zr_callV (md' := mX1_kind) (As := [.int (zvi y)]) dX11_get_21 mlX11_165 okX1_kind rfl inX1_kind slX1_kind (by decide) (hL.K 1 2) rfl (by omega) (Nat.le_of_ble_eq_true rfl) hcb (c_Disk_kindO (d := d - 1) (y := y) hcb (Lay.dk hL) hyb) (fun k M1 h => by cases h.1) (fun v M9 hq => ?_)
  obtain ⟨e0, e9⟩ := hq
  cases e0
  rw [e9]
  refine zr_iconst (v := nI 1) dX11_get_24 (by decide) ?_
  refine zr_icmp_eqN 30 dX11_get_25 (by decide) (Nat.lt_trans (kdO_lt _ _) (by decide)) (by decide) (fun h25 => ?_) (fun h25 => ?_)
  · obtain ⟨s9, rfl⟩ : ∃ s, y = some s := by
      cases y with
      | none => exact absurd h25 (show ¬ (0 = 1) by decide)
      | some s => exact ⟨s, rfl⟩
    refine zr_asL (lv' := [some (.ref ((ad 0))), some (.int s0), some (.int (nI w9)), some (.int (nI s9))]) rfl ?_
    have hwf := (hU.2.2.2.1.2.2.1 s9 (hy.1 s9 rfl).1).1
    have hsp := gs2 s9 rfl h25
    refine zr_aload_n dX11_get_30 rfl ?_
    refine zr_getR dX11_get_31 lkX11_12 (by decide) (by decide) rfl (hL.K 0 12) (hL.R 352 0 1) ?_
    refine zr_iload_n dX11_get_34 rfl ?_
    refine zr_aload_n dX11_get_35 rfl ?_
    refine zr_getR dX11_get_36 lkX11_25 (by decide) (by decide) rfl (hL.K 0 12) (hL.R 354 0 6) ?_
    refine zr_callV (md' := mX1_copyValue) (As := [.int (nI s9), .ref ((ad 6))]) dX11_get_39 mlX11_168 okX1_copyValue rfl inX1_copyValue slX1_copyValue (by decide) (hL.K 1 2) rfl (by omega) (Nat.le_of_ble_eq_true rfl) hcb (c_Disk_copyValue (d := d - 1) (r := ad 6) (rc := ad 7) (len := (aV A).length) (cap := 200) (by omega) hcb (Lay.dk hL) ⟨hL.K 6 7, hL.R 192 6 7, hL.K 7 14, hL.N 7 200, hV.1, hV.2.2, by decide⟩ (hyb s9 rfl) hwf.2.2.2) (fun k M1 h => by cases h.1) (fun v M1 hq => ?_)
    obtain ⟨e0, e1⟩ := hq
    cases e0
    have hF1 : Fl ad 0 [193] [7] [] M M1 := by rw [e1]; exact ((Fl.refl ad _ _ _ M).setA hL (i := 7)).put hL (f := 193) (i := 6)
    have hL1 := hF1.lay hL
    have hnew := rw_copy hL e1 hwf.2.2.2
    have h193 : zI M1 193 (ad 6) = nI (evl (zA M (ad 2)) s9) := by rw [e1]; exact zput_hit _ _ _ _
    refine zr_aload_n dX11_get_42 rfl ?_
    refine zr_getR dX11_get_43 lkX11_25 (by decide) (by decide) rfl (hL1.K 0 12) (hL1.R 354 0 6) ?_
    refine zr_getI dX11_get_46 lkX11_172 (by decide) (by decide) rfl (hL1.K 6 7) ?_
    refine zr_as (y := (nI (evl (zA M (ad 2)) s9))) h193 ?_
    refine zr_iret dX11_get_49 rfl ?_
    have e9 : sGet s0 A = ((aM A, aK A, eva (zA M (ad 2)) s9, aS A, aO A, aF A, aW A, aC A, aN A), .inl (some (.int (nI (eva (zA M (ad 2)) s9).length)))) := by
      unfold sGet sView
      rw [if_neg (by omega), vm1]
      dsimp only
      rw [hsp]
    rw [e9]
    refine ⟨by rw [show (eva (zA M (ad 2)) s9).length = evl (zA M (ad 2)) s9 from rwl_len _ _], ?_, 0, hF1.mono0⟩
    exact hS.kv hF1 (by decide) (hK := ⟨by rw [e1]; exact zput_ma (f := 193) (hL.ne (by decide)) hK.1, by rw [hF1.rA (i := 5) (by decide) (by decide)]; exact hK.2.1, hK.2.2⟩) (hV := hnew) (hp := ⟨pl, hpl, by rw [e1]; exact zput_ma (f := 193) (hL.ne (by decide)) hpr⟩)
  · refine zr_iconst (v := -1) dX11_get_28 (by decide) ?_
    refine zr_iret dX11_get_29 rfl ?_
    have e9 : sGet s0 A = (A, .inl (some (.int (-1)))) := by
      unfold sGet sView
      rw [if_neg (by omega), vm1]
      dsimp only
      rw [gs1 h25]
    rw [e9]
    exact ⟨rfl, hS.same (Fl.refl ad [] [] [] M) (by decide), 0, (Fl.refl ad [] [] [] M).mono0⟩
set_option maxRecDepth 100000 in
set_option maxHeartbeats 4000000 in
theorem c_take {G : zG} {ad : Nat → Nat} {d s9 kl vl : Nat} {M : zM} (hd : 4 ≤ d) (hcb : zC M ≤ 600128 ∧ zS M ≤ 7301098) (hL : Lay ad M) (hs9 : s9 < 303104) (hw1 : ekl (zA M (ad 2)) s9 ≤ 32) (hw2 : evl (zA M (ad 2)) s9 ≤ 200) (hk9 : zI M 193 (ad 4) = nI kl) (hkl : kl ≤ 32) (hv9 : zI M 193 (ad 6) = nI vl) (hvl : vl ≤ 200)  : zMet G mX11_take d [.ref ((ad 0)), .int (nI s9)] M (fun o M' => o = .inl (some (.int (nI (ekl (zA M (ad 2)) s9)))) ∧ Fl ad 0 [193] [5, 7] [] M M' ∧ RwS ad M' 4 5 (eky (zA M (ad 2)) s9) 32 ∧ RwS ad M' 6 7 (eva (zA M (ad 2)) s9) 200 ∧ zI M' 193 (ad 8) = zI M 193 (ad 8)) := by
  refine zMet_of (by decide +kernel) (Nat.le_of_ble_eq_true rfl) rfl hcb ?_
  show zw G mX11_take d _ _ _ 0 [some (.ref ((ad 0))), some (.int (nI s9))] [] M
  refine zr_iload_n dX11_take_0 rfl ?_
  refine zr_iconst (v := -1) dX11_take_1 (by decide) ?_
  refine zr_icmp_neM 7 dX11_take_2 (by decide) (by omega) ?_
  refine zr_aload_n dX11_take_7 rfl ?_
  refine zr_getR dX11_take_8 lkX11_12 (by decide) (by decide) rfl (hL.K 0 12) (hL.R 352 0 1) ?_
  refine zr_iload_n dX11_take_11 rfl ?_
  refine zr_aload_n dX11_take_12 rfl ?_
  refine zr_getR dX11_take_13 lkX11_21 (by decide) (by decide) rfl (hL.K 0 12) (hL.R 353 0 4) ?_
  refine zr_callV (md' := mX1_copyKey) (As := [.int (nI s9), .ref ((ad 4))]) dX11_take_16 mlX11_312 okX1_copyKey rfl inX1_copyKey slX1_copyKey (by decide) (hL.K 1 2) rfl (by omega) (Nat.le_of_ble_eq_true rfl) hcb (c_Disk_copyKey (d := d - 1) (r := ad 4) (rc := ad 5) (len := kl) (cap := 32) (by omega) hcb (Lay.dk hL) ⟨hL.K 4 7, hL.R 192 4 5, hL.K 5 14, hL.N 5 32, hk9, hkl, by decide⟩ hs9 hw1) (fun k M1 h => by cases h.1) (fun v M1 hq => ?_)
  obtain ⟨e0, e1⟩ := hq
  cases e0
  have hF1 : Fl ad 0 [193] [5] [] M M1 := by rw [e1]; exact ((Fl.refl ad _ _ _ M).setA hL (i := 5)).put hL (f := 193) (i := 4)
  have hL1 := hF1.lay hL
  have hcb1 := hF1.cb hcb
  have eD1 : zA M1 (ad 2) = zA M (ad 2) := hF1.rA (by decide) (by decide)
  have hv1 : zI M1 193 (ad 6) = nI vl := by rw [e1]; exact zput_ma (f := 193) (hL.ne (by decide)) hv9
  refine zr_aload_n dX11_take_19 rfl ?_
  refine zr_getR dX11_take_20 lkX11_12 (by decide) (by decide) rfl (hL1.K 0 12) (hL1.R 352 0 1) ?_
  refine zr_iload_n dX11_take_23 rfl ?_
  refine zr_aload_n dX11_take_24 rfl ?_
  refine zr_getR dX11_take_25 lkX11_25 (by decide) (by decide) rfl (hL1.K 0 12) (hL1.R 354 0 6) ?_
  refine zr_callV (md' := mX1_copyValue) (As := [.int (nI s9), .ref ((ad 6))]) dX11_take_28 mlX11_168 okX1_copyValue rfl inX1_copyValue slX1_copyValue (by decide) (hL1.K 1 2) rfl (by omega) (Nat.le_of_ble_eq_true rfl) hcb1 (c_Disk_copyValue (d := d - 1) (r := ad 6) (rc := ad 7) (len := vl) (cap := 200) (by omega) hcb1 (Lay.dk hL1) ⟨hL1.K 6 7, hL1.R 192 6 7, hL1.K 7 14, hL1.N 7 200, hv1, hvl, by decide⟩ hs9 (by rw [eD1]; exact hw2)) (fun k M1 h => by cases h.1) (fun v M2 hq => ?_)
  obtain ⟨e0, e2⟩ := hq
  cases e0
  have hF2 : Fl ad 0 [193] [7] [] M1 M2 := by rw [e2]; exact ((Fl.refl ad _ _ _ M1).setA hL1 (i := 7)).put hL1 (f := 193) (i := 6)
  have hL2 := hF2.lay hL1
  have h193 : zI M2 193 (ad 4) = nI (ekl (zA M (ad 2)) s9) := by rw [e2]; refine zput_ma (f := 193) (hL1.ne (by decide)) ?_; show zI M1 193 (ad 4) = _; rw [e1]; exact zput_hit _ _ _ _
  refine zr_aload_n dX11_take_31 rfl ?_
  refine zr_getR dX11_take_32 lkX11_21 (by decide) (by decide) rfl (hL2.K 0 12) (hL2.R 353 0 4) ?_
  refine zr_getI dX11_take_35 lkX11_172 (by decide) (by decide) rfl (hL2.K 4 7) ?_
  refine zr_as (y := (nI (ekl (zA M (ad 2)) s9))) h193 ?_
  refine zr_iret dX11_take_38 rfl ?_
  refine ⟨rfl, hF1.mono.trans0 hF2.mono, ?_, ?_, ?_⟩
  · have h1 := rw_copyk hL e1 hw1
    exact ⟨by rw [show (eky (zA M (ad 2)) s9).length = ekl (zA M (ad 2)) s9 from rwl_len _ _]; exact h193, by rw [hF2.rA (i := 5) (by decide) (by decide)]; exact h1.2.1, h1.2.2⟩
  · have h1 := rw_copy hL1 e2 (by rw [eD1]; exact hw2)
    rw [eD1] at h1
    exact h1
  · rw [e2]; refine zput_ma (f := 193) (hL1.ne (by decide)) ?_
    show zI M1 193 (ad 8) = _
    rw [e1]; exact zput_ma (f := 193) (hL.ne (by decide)) rfl
set_option maxRecDepth 100000 in
set_option maxHeartbeats 4000000 in
theorem c_takeM {G : zG} {ad : Nat → Nat} {d : Nat} {M : zM} (hcb : zC M ≤ 600128 ∧ zS M ≤ 7301098)  : zMet G mX11_take d [.ref ((ad 0)), .int ((-1))] M (fun o M' => o = .inl (some (.int (-1))) ∧ M' = M) := by
  refine zMet_of (by decide +kernel) (Nat.le_of_ble_eq_true rfl) rfl hcb ?_
  show zw G mX11_take d _ _ _ 0 [some (.ref ((ad 0))), some (.int ((-1)))] [] M
  refine zr_iload_n dX11_take_0 rfl ?_
  refine zr_iconst (v := -1) dX11_take_1 (by decide) ?_
  refine zr_icmp_neMM 7 dX11_take_2 (by decide) ?_
  refine zr_iconst (v := -1) dX11_take_5 (by decide) ?_
  refine zr_iret dX11_take_6 rfl ?_
  exact ⟨rfl, rfl⟩
