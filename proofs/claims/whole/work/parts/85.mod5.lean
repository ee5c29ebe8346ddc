/-! ===== LsmStoreModel (5) ===== -/
/-- the last entry before a key, and its place -/
def Lb (q : Nat) (K : List Nat) (pre : Mp) (x : Option Nat) : Prop := (x = none ∧ pre.filter (fun a => kltb a.1 K) = []) ∨ ∃ (p1 : Mp) (a : List Nat × List Nat) (p2 : Mp), pre = p1 ++ a :: p2 ∧ x = some (q + (Mb p1).length) ∧ (pre.filter (fun a => kltb a.1 K)).getLast? = some a
theorem Lb.skip {q : Nat} {K : List Nat} {pre : Mp} {x : Option Nat} {a : List Nat × List Nat} (h : Lb q K pre x) (ha : ¬ klt a.1 K) : Lb q K (pre ++ [a]) x := by
  have e : (pre ++ [a]).filter (fun a => kltb a.1 K) = pre.filter (fun a => kltb a.1 K) := by rw [List.filter_append, List.filter_cons_of_neg (p := fun a : List Nat × List Nat => kltb a.1 K) (fun z => ha ((kltb_iff _ _).mp z))]; exact List.append_nil _
  rcases h with ⟨h1, h2⟩ | ⟨p1, b, p2, h1, h2, h3⟩
  · exact Or.inl ⟨h1, e.trans h2⟩
  · exact Or.inr ⟨p1, b, p2 ++ [a], by rw [h1, List.append_assoc]; rfl, h2, by rw [e]; exact h3⟩
theorem Lb.take {q : Nat} {K : List Nat} {pre : Mp} {a : List Nat × List Nat} (ha : klt a.1 K) : Lb q K (pre ++ [a]) (some (q + (Mb pre).length)) := by
  refine Or.inr ⟨pre, a, [], rfl, rfl, ?_⟩
  rw [List.filter_append, List.filter_cons_of_pos (p := fun a : List Nat × List Nat => kltb a.1 K) ((kltb_iff _ _).mpr ha)]
  exact List.getLast?_concat ..
set_option maxRecDepth 100000 in
set_option maxHeartbeats 4000000 in
theorem l_before {G : zG} {ad : Nat → Nat} {d k0 n0 r n q : Nat} {A : As} {s0 : Int32} {ms : Mp} {M : zM} {Q : zOut → zM → Prop} (hd : 3 ≤ d) (hcb : zC M ≤ 600128 ∧ zS M ≤ 7301098) (hT : Ta ad M A) (hV : Vx ad M A s0 r n q ms) (hq1 : (ms.filter (fun a => kltb a.1 (aK A))).getLast? = none → Q (.inl (some (.int (-1)))) M) (hq2 : ∀ (a : List Nat × List Nat) (M' : zM), (ms.filter (fun a => kltb a.1 (aK A))).getLast? = some a → Fl ad 0 [386, 387] [39, 40] [] M M' → TaK ad M' a.1 → TaV ad M' a.2 → Q (.inl (some (.int (nI a.1.length)))) M') : ∀ (k : Nat) (pre suf : Mp) (x : Option Nat) (_ : Lb q (aK A) pre x), suf.length = k → ms = pre ++ suf → zw G mX12_before d k0 n0 Q 25 [some (.ref ((ad 38))), some (.int s0), some (.ref r), some (.int (zvi x)), some (.int (nI (q + (Mb pre).length)))] [] M := by
  intro k
  induction k using Nat.strongRecOn with
  | _ k ih =>
    intro pre suf x hinv hl hms
    have hr := hV.2.1
    have hb1 := hr.2.2
    have hsh := hV.2.2.2.1.shr
    have hrr := hV.rr
    have hple : (Mb pre).length ≤ (Mb ms).length := by rw [hms, Mb_app, List.length_append]; omega
    have hpq := hV.2.2.2.2
    obtain ⟨hL, tK, tV, tM, tS, tB, tX⟩ := id hT
    refine zr_iload dX12_before_25 rfl ?_
    refine zr_aload_n dX12_before_27 rfl ?_
    refine zr_iload_n dX12_before_28 rfl ?_
    refine zr_callV (md' := mX12_end) (As := [.int s0]) dX12_before_29 mlX12_126 okX12_end rfl inX12_end slX12_end (by decide) (hL.K 38 13) rfl (by omega) (Nat.le_of_ble_eq_true rfl) hcb (c_end (d := d - 1) hcb hT hV) (fun k M1 h => by cases h.1) (fun v M9 hq => ?_)
    obtain ⟨e0, e9⟩ := hq
    cases e0
    rw [e9]
    refine zr_icmp_geN 67 dX12_before_32 (by decide) (by omega) (by omega) (fun h32 => ?_) (fun h32 => ?_)
    · have hs0 : suf = [] := by
        cases suf with
        | nil => rfl
        | cons a s => exfalso; have z := Mb_pos (a := a) (m := s); rw [hms, Mb_app, List.length_append] at h32; omega
      subst hs0
      rw [List.append_nil] at hms
      subst hms
      rcases hinv with ⟨h1, h2⟩ | ⟨p1, a, p2, h1, h2, h3⟩
      · subst h1
        refine zr_asL (lv' := [some (.ref ((ad 38))), some (.int s0), some (.ref r), some (.int ((-1))), some (.int (nI (q + (Mb ms).length)))]) rfl ?_
        refine zr_iload_n dX12_before_67 rfl ?_
        refine zr_if_ge 73 dX12_before_68 (by decide) (fun h68 => ?_) (fun h68 => ?_)
        · exact absurd h68 (by decide)
        · refine zr_iconst (v := -1) dX12_before_71 (by decide) ?_
          refine zr_iret dX12_before_72 rfl ?_
          exact hq1 (by rw [h2]; rfl)
      · subst h2
        refine zr_asL (lv' := [some (.ref ((ad 38))), some (.int s0), some (.ref r), some (.int (nI (q + (Mb p1).length))), some (.int (nI (q + (Mb ms).length)))]) rfl ?_
        have hE : Ea (zA M r) (q + (Mb p1).length) a := by have z := hV.2.2.1; rw [h1] at z; exact z.at
        have hka := hsh a (by rw [h1]; exact List.mem_append_right _ List.mem_cons_self)
        have hml : (Mb ms).length = (Mb p1).length + ((eb a).length + (Mb p2).length) := by rw [h1, Mb_app, Mb_cons, List.length_append, List.length_append]
        have hpa : q + (Mb p1).length + (eb a).length ≤ n := by omega
        refine zr_iload_n dX12_before_67 rfl ?_
        refine zr_if_geN 73 dX12_before_68 (by decide) (by omega) ?_
        refine zr_aload_n dX12_before_73 rfl ?_
        refine zr_aload_n dX12_before_74 rfl ?_
        refine zr_iload_n dX12_before_75 rfl ?_
        refine zr_iconst (v := nI 1) dX12_before_76 (by decide) ?_
        refine zr_callV (md' := mX12_taken) (As := [.ref r, .int (nI (q + (Mb p1).length)), .int (nI 1)]) dX12_before_77 mlX12_129 okX12_taken rfl inX12_taken slX12_taken (by decide) (hL.K 38 13) rfl (by omega) (Nat.le_of_ble_eq_true rfl) hcb (c_taken1 (d := d - 1) (by omega) hcb hL hrr hr hE hka hpa) (fun k M1 h => by cases h.1) (fun v M2 hq => ?_)
        obtain ⟨e0, hF2, hK2, hV2⟩ := hq
        cases e0
        have hL2 := hF2.lay hL
        refine zr_aload_n dX12_before_80 rfl ?_
        refine zr_getI dX12_before_81 lkX12_94 (by decide) (by decide) rfl (hL2.K 38 13) ?_
        refine zr_as (y := (nI a.1.length)) hK2.1 ?_
        refine zr_iret dX12_before_84 rfl ?_
        exact hq2 a M2 h3 hF2 hK2 hV2
    · obtain ⟨a, suf9, rfl⟩ : ∃ a s, suf = a :: s := by
        cases suf with
        | nil => exfalso; rw [hms, List.append_nil] at h32; omega
        | cons a s => exact ⟨a, s, rfl⟩
      have hE : Ea (zA M r) (q + (Mb pre).length) a := by have z := hV.2.2.1; rw [hms] at z; exact z.at
      have hka := hsh a (by rw [hms]; exact List.mem_append_right _ List.mem_cons_self)
      have hml : (Mb ms).length = (Mb pre).length + ((eb a).length + (Mb suf9).length) := by rw [hms, Mb_app, Mb_cons, List.length_append, List.length_append]
      have hel := eb_len a
      have hpa : q + (Mb pre).length + (eb a).length ≤ n := by have := hV.2.2.2.2; omega
      refine zr_aload_n dX12_before_35 rfl ?_
      refine zr_iload dX12_before_36 rfl ?_
      refine zr_aload_n dX12_before_38 rfl ?_
      refine zr_getR dX12_before_39 lkX12_9 (by decide) (by decide) rfl (hL.K 38 13) (hL.R 384 38 39) ?_
      refine zr_iconst (v := nI 0) dX12_before_42 (by decide) ?_
      refine zr_aload_n dX12_before_43 rfl ?_
      refine zr_getI dX12_before_44 lkX12_94 (by decide) (by decide) rfl (hL.K 38 13) ?_
      refine zr_as (y := (nI ((aK A).length))) tK.1 ?_
      refine zr_callS (md' := mX12_compare) (As := [.ref r, .int (nI (q + (Mb pre).length)), .ref ((ad 39)), .int (nI 0), .int (nI ((aK A).length))]) dX12_before_47 mlX12_48 okX12_compare rfl stX12_compare rfl (by omega) (Nat.le_of_ble_eq_true rfl) hcb (c_compare (d := d - 1) hcb hr ⟨hL.K 39 14, hL.N 39 32, by decide⟩ hE hka.1 hpa (kk := aK A) (off := 0) (tK.2.1.congr (fun i _ => by show zA M (ad 39) (0 + i) = zA M (ad 39) i; rw [Nat.zero_add])) (by have := tK.2.2; omega)) (fun k M1 h => by obtain ⟨_, _, h, _⟩ := h; cases h) (fun v M9 hq => ?_)
      obtain ⟨e9, v9, e0, hv1, hv2⟩ := hq
      cases e0
      rw [e9]
      refine zr_if_ge 56 dX12_before_50 (by decide) (fun h50 => ?_) (fun h50 => ?_)
      · refine zr_aload_n dX12_before_56 rfl ?_
        refine zr_iload dX12_before_57 rfl ?_
        refine zr_callS (md' := mX12_behind) (As := [.ref r, .int (nI (q + (Mb pre).length))]) dX12_before_59 mlX12_41 okX12_behind rfl stX12_behind rfl (by omega) (Nat.le_of_ble_eq_true rfl) hcb (c_behind (d := d - 1) hcb hr hE hka.1 hpa) (fun k M1 h => by cases h.1) (fun v M9 hq => ?_)
        obtain ⟨e0, e9⟩ := hq
        cases e0
        rw [e9]
        refine zr_istore (lv' := [some (.ref ((ad 38))), some (.int s0), some (.ref r), some (.int (zvi x)), some (.int (nI (q + (Mb pre).length + 2 + a.1.length + a.2.length)))]) dX12_before_62 (Nat.le_of_ble_eq_true rfl) (Nat.le_of_ble_eq_true rfl) rfl rfl ?_
        refine zr_goto 25 dX12_before_64 (by decide) ?_
        have hinv2 := hinv.skip (a := a) (fun z => by have y := hv1.mpr z; exact absurd (Int32.lt_of_le_of_lt h50 y) (by decide))
        have e2 : q + (Mb pre).length + 2 + a.1.length + a.2.length = q + (Mb (pre ++ [a])).length := by rw [Mb_sl]; omega
        rw [e2]
        exact ih suf9.length (by rw [← hl, List.length_cons]; omega) (pre ++ [a]) suf9 x hinv2 rfl (by rw [hms, List.append_assoc]; rfl)
      · refine zr_iload dX12_before_53 rfl ?_
        refine zr_istore_n (lv' := [some (.ref ((ad 38))), some (.int s0), some (.ref r), some (.int (nI (q + (Mb pre).length))), some (.int (nI (q + (Mb pre).length)))]) dX12_before_55 (Nat.le_of_ble_eq_true rfl) (Nat.le_of_ble_eq_true rfl) rfl rfl ?_
        refine zr_aload_n dX12_before_56 rfl ?_
        refine zr_iload dX12_before_57 rfl ?_
        refine zr_callS (md' := mX12_behind) (As := [.ref r, .int (nI (q + (Mb pre).length))]) dX12_before_59 mlX12_41 okX12_behind rfl stX12_behind rfl (by omega) (Nat.le_of_ble_eq_true rfl) hcb (c_behind (d := d - 1) hcb hr hE hka.1 hpa) (fun k M1 h => by cases h.1) (fun v M9 hq => ?_)
        obtain ⟨e0, e9⟩ := hq
        cases e0
        rw [e9]
        refine zr_istore (lv' := [some (.ref ((ad 38))), some (.int s0), some (.ref r), some (.int (nI (q + (Mb pre).length))), some (.int (nI (q + (Mb pre).length + 2 + a.1.length + a.2.length)))]) dX12_before_62 (Nat.le_of_ble_eq_true rfl) (Nat.le_of_ble_eq_true rfl) rfl rfl ?_
        refine zr_goto 25 dX12_before_64 (by decide) ?_
        have hinv2 : Lb q (aK A) (pre ++ [a]) (some (q + (Mb pre).length)) := Lb.take (hv1.mp (Int32.not_le.mp h50))
        refine zr_asL (lv' := [some (.ref ((ad 38))), some (.int s0), some (.ref r), some (.int (zvi (some (q + (Mb pre).length)))), some (.int (nI (q + (Mb pre).length + 2 + a.1.length + a.2.length)))]) rfl ?_
        have e2 : q + (Mb pre).length + 2 + a.1.length + a.2.length = q + (Mb (pre ++ [a])).length := by rw [Mb_sl]; omega
        rw [e2]
        exact ih suf9.length (by rw [← hl, List.length_cons]; omega) (pre ++ [a]) suf9 _ hinv2 rfl (by rw [hms, List.append_assoc]; rfl)
set_option maxRecDepth 100000 in
set_option maxHeartbeats 4000000 in
theorem b_get {G : zG} {ad : Nat → Nat} {d : Nat} {s0 : Int32} {A : As} {M : zM} (hd : 4 ≤ d) (hcb : zC M ≤ 600128 ∧ zS M ≤ 7301098) (hT : Ta ad M A)  : zMet G mX12_get d [.ref ((ad 38)), .int s0] M (Mst ad M (sGet s0 A) cdW (some (.int 0))) := by
  obtain ⟨hL, tK, tV, tM, tS, tB, tX⟩ := id hT
  refine zMet_of (by decide +kernel) (Nat.le_of_ble_eq_true rfl) rfl hcb ?_
  show zw G mX12_get d _ _ _ 0 [some (.ref ((ad 38))), some (.int s0), none, none] [] M
  refine zr_aload_n dX12_get_0 rfl ?_
  refine zr_iload_n dX12_get_1 rfl ?_
  refine zr_callV (md' := mX12_isThere) (As := [.int s0]) dX12_get_2 mlX12_114 okX12_isThere rfl inX12_isThere slX12_isThere (by decide) (hL.K 38 13) rfl (by omega) (Nat.le_of_ble_eq_true rfl) hcb (c_isThere (d := d - 1) (by omega) hcb hT) (fun k M9 h => by rcases h with ⟨_, h, _⟩ | ⟨_, _, h, _⟩ | ⟨_, _, _, h, _⟩ <;> cases h) (fun v M9 hq => ?_)
  rcases hq with ⟨hf, e0, e9⟩ | ⟨hf, hv, e0, e9⟩ | ⟨hf, ms, hv, e0, e9⟩
  · cases e0
    rw [e9]
    refine zr_if_ne 10 dX12_get_5 (by decide) (fun h5 => absurd rfl h5) (fun h5 => ?_)
    refine zr_iconst (v := nI 0) dX12_get_8 (by decide) ?_
    refine zr_iret dX12_get_9 rfl ?_
    have e8 : sGet s0 A = (A, .inr 0) := if_pos hf
    rw [e8]
    exact ⟨hT.t402, (Fl.refl ad _ _ _ M).put hL (f := 402) (i := 38), zput_hit _ _ _ _, rfl⟩
  · cases e0
    rw [e9]
    refine zr_if_ne 10 dX12_get_5 (by decide) (fun h5 => absurd rfl h5) (fun h5 => ?_)
    refine zr_iconst (v := nI 0) dX12_get_8 (by decide) ?_
    refine zr_iret dX12_get_9 rfl ?_
    have e8 : sGet s0 A = (A, .inr 3) := by unfold sGet sView; rw [if_neg (by omega), hv]
    rw [e8]
    exact ⟨hT.t402, (Fl.refl ad _ _ _ M).put hL (f := 402) (i := 38), zput_hit _ _ _ _, rfl⟩
  · cases e0
    obtain ⟨M1, e1⟩ : ∃ z, z = zput M 402 (ad 38) (nI 0) := ⟨_, rfl⟩
    rw [e9, ← e1]
    have hF1 : Fl ad 0 [402] [] [] M M1 := by rw [e1]; exact (Fl.refl ad _ _ _ M).put hL (f := 402) (i := 38)
    have hT1 : Ta ad M1 A := by rw [e1]; exact hT.t402
    have g1 : zI M1 402 (ad 38) = nI 0 := by rw [e1]; exact zput_hit _ _ _ _
    have hL1 := hT1.1
    have hcb1 := hF1.cb hcb
    obtain ⟨r, n, q, hV⟩ := hT1.vx hv
    refine zr_if_ne 10 dX12_get_5 (by decide) (fun h5 => ?_) (fun h5 => absurd h5 (by decide))
    refine zr_aload_n dX12_get_10 rfl ?_
    refine zr_iload_n dX12_get_11 rfl ?_
    refine zr_callV (md' := mX12_rowOf) (As := [.int s0]) dX12_get_12 mlX12_118 okX12_rowOf rfl inX12_rowOf slX12_rowOf (by decide) (hL1.K 38 13) rfl (by omega) (Nat.le_of_ble_eq_true rfl) hcb1 (c_rowOf (d := d - 1) hcb1 hT1 hV) (fun k M1 h => by cases h.1) (fun v M9 hq => ?_)
    obtain ⟨e0, e9⟩ := hq
    cases e0
    rw [e9]
    refine zr_astore_n (lv' := [some (.ref ((ad 38))), some (.int s0), some (.ref r), none]) dX12_get_15 (Nat.le_of_ble_eq_true rfl) (Nat.le_of_ble_eq_true rfl) rfl rfl ?_
    refine zr_aload_n dX12_get_16 rfl ?_
    refine zr_iload_n dX12_get_17 rfl ?_
    refine zr_callV (md' := mX12_from) (As := [.int s0]) dX12_get_18 mlX12_122 okX12_from rfl inX12_from slX12_from (by decide) (hL1.K 38 13) rfl (by omega) (Nat.le_of_ble_eq_true rfl) hcb1 (c_from (d := d - 1) hcb1 hT1 hV) (fun k M1 h => by cases h.1) (fun v M9 hq => ?_)
    obtain ⟨e0, e9⟩ := hq
    cases e0
    rw [e9]
    refine zr_istore_n (lv' := [some (.ref ((ad 38))), some (.int s0), some (.ref r), some (.int (nI q))]) dX12_get_21 (Nat.le_of_ble_eq_true rfl) (Nat.le_of_ble_eq_true rfl) rfl rfl ?_
    refine zr_asL (lv' := [some (.ref ((ad 38))), some (.int s0), some (.ref r), some (.int (nI (q + (Mb []).length)))]) rfl ?_
    refine l_get (by omega) hcb1 hT1 hV (fun h => ?_) (fun a M2 h hF2 hV2 => ?_) _ [] ms rfl rfl rfl
    · have e8 : sGet s0 A = (A, .inl (some (.int (-1)))) := by
        unfold sGet sView
        rw [if_neg (by omega), hv]
        dsimp only
        rw [h]
      rw [e8]
      exact ⟨hT1, hF1.mono, g1, rfl⟩
    · have e8 : sGet s0 A = ((aM A, aK A, a.2, aS A, aO A, aF A, aW A, aC A, aN A), .inl (some (.int (nI a.2.length)))) := by
        unfold sGet sView
        rw [if_neg (by omega), hv]
        dsimp only
        rw [h]
      rw [e8]
      obtain ⟨_, tK1, tV1, tM1, tS1, tB1, tX1⟩ := id hT1
      exact ⟨⟨hF2.lay hL1, tK1.fl hF2, hV2, tM1.fl hF2, tS1.fl hF2, tB1.fl hF2, tX1.fl hF2⟩, hF1.mono.trans0 hF2.mono, (hF2.rI (by decide) (by decide)).trans g1, rfl⟩
set_option maxRecDepth 100000 in
set_option maxHeartbeats 4000000 in
theorem b_seek {G : zG} {ad : Nat → Nat} {d : Nat} {s0 bh : Int32} {A : As} {M : zM} (hd : 4 ≤ d) (hcb : zC M ≤ 600128 ∧ zS M ≤ 7301098) (hT : Ta ad M A)  : zMet G mX12_seek d [.ref ((ad 38)), .int s0, .int bh] M (Mst ad M (sSeek s0 bh A) cdW (some (.int 0))) := by
  obtain ⟨hL, tK, tV, tM, tS, tB, tX⟩ := id hT
  refine zMet_of (by decide +kernel) (Nat.le_of_ble_eq_true rfl) rfl hcb ?_
  show zw G mX12_seek d _ _ _ 0 [some (.ref ((ad 38))), some (.int s0), some (.int bh), none, none, none] [] M
  refine zr_aload_n dX12_seek_0 rfl ?_
  refine zr_iload_n dX12_seek_1 rfl ?_
  refine zr_callV (md' := mX12_isThere) (As := [.int s0]) dX12_seek_2 mlX12_114 okX12_isThere rfl inX12_isThere slX12_isThere (by decide) (hL.K 38 13) rfl (by omega) (Nat.le_of_ble_eq_true rfl) hcb (c_isThere (d := d - 1) (by omega) hcb hT) (fun k M9 h => by rcases h with ⟨_, h, _⟩ | ⟨_, _, h, _⟩ | ⟨_, _, _, h, _⟩ <;> cases h) (fun v M9 hq => ?_)
  rcases hq with ⟨hf, e0, e9⟩ | ⟨hf, hv, e0, e9⟩ | ⟨hf, ms, hv, e0, e9⟩
  · cases e0
    rw [e9]
    refine zr_if_ne 10 dX12_seek_5 (by decide) (fun h5 => absurd rfl h5) (fun h5 => ?_)
    refine zr_iconst (v := nI 0) dX12_seek_8 (by decide) ?_
    refine zr_iret dX12_seek_9 rfl ?_
    have e8 : sSeek s0 bh A = (A, .inr 0) := if_pos hf
    rw [e8]
    exact ⟨hT.t402, (Fl.refl ad _ _ _ M).put hL (f := 402) (i := 38), zput_hit _ _ _ _, rfl⟩
  · cases e0
    rw [e9]
    refine zr_if_ne 10 dX12_seek_5 (by decide) (fun h5 => absurd rfl h5) (fun h5 => ?_)
    refine zr_iconst (v := nI 0) dX12_seek_8 (by decide) ?_
    refine zr_iret dX12_seek_9 rfl ?_
    have e8 : sSeek s0 bh A = (A, .inr 3) := by unfold sSeek sView; rw [if_neg (by omega), hv]
    rw [e8]
    exact ⟨hT.t402, (Fl.refl ad _ _ _ M).put hL (f := 402) (i := 38), zput_hit _ _ _ _, rfl⟩
  · cases e0
    obtain ⟨M1, e1⟩ : ∃ z, z = zput M 402 (ad 38) (nI 0) := ⟨_, rfl⟩
    rw [e9, ← e1]
    have hF1 : Fl ad 0 [402] [] [] M M1 := by rw [e1]; exact (Fl.refl ad _ _ _ M).put hL (f := 402) (i := 38)
    have hT1 : Ta ad M1 A := by rw [e1]; exact hT.t402
    have g1 : zI M1 402 (ad 38) = nI 0 := by rw [e1]; exact zput_hit _ _ _ _
    have hL1 := hT1.1
    have hcb1 := hF1.cb hcb
    obtain ⟨r, n, q, hV⟩ := hT1.vx hv
    refine zr_if_ne 10 dX12_seek_5 (by decide) (fun h5 => ?_) (fun h5 => absurd h5 (by decide))
    refine zr_aload_n dX12_seek_10 rfl ?_
    refine zr_iload_n dX12_seek_11 rfl ?_
    refine zr_callV (md' := mX12_rowOf) (As := [.int s0]) dX12_seek_12 mlX12_118 okX12_rowOf rfl inX12_rowOf slX12_rowOf (by decide) (hL1.K 38 13) rfl (by omega) (Nat.le_of_ble_eq_true rfl) hcb1 (c_rowOf (d := d - 1) hcb1 hT1 hV) (fun k M1 h => by cases h.1) (fun v M9 hq => ?_)
    obtain ⟨e0, e9⟩ := hq
    cases e0
    rw [e9]
    refine zr_astore_n (lv' := [some (.ref ((ad 38))), some (.int s0), some (.int bh), some (.ref r), none, none]) dX12_seek_15 (Nat.le_of_ble_eq_true rfl) (Nat.le_of_ble_eq_true rfl) rfl rfl ?_
    refine zr_aload_n dX12_seek_16 rfl ?_
    refine zr_iload_n dX12_seek_17 rfl ?_
    refine zr_callV (md' := mX12_from) (As := [.int s0]) dX12_seek_18 mlX12_122 okX12_from rfl inX12_from slX12_from (by decide) (hL1.K 38 13) rfl (by omega) (Nat.le_of_ble_eq_true rfl) hcb1 (c_from (d := d - 1) hcb1 hT1 hV) (fun k M1 h => by cases h.1) (fun v M9 hq => ?_)
    obtain ⟨e0, e9⟩ := hq
    cases e0
    rw [e9]
    refine zr_istore (lv' := [some (.ref ((ad 38))), some (.int s0), some (.int bh), some (.ref r), some (.int (nI q)), none]) dX12_seek_21 (Nat.le_of_ble_eq_true rfl) (Nat.le_of_ble_eq_true rfl) rfl rfl ?_
    refine zr_asL (lv' := [some (.ref ((ad 38))), some (.int s0), some (.int bh), some (.ref r), some (.int (nI (q + (Mb []).length))), none]) rfl ?_
    refine l_seek (by omega) hcb1 hT1 hV (fun h => ?_) (fun a M2 h hF2 hK2 hV2 => ?_) _ [] ms rfl rfl rfl
    · have e8 : sSeek s0 bh A = (A, .inl (some (.int (-1)))) := by
        unfold sSeek sView
        rw [if_neg (by omega), hv]
        dsimp only
        rw [h]
        rfl
      rw [e8]
      exact ⟨hT1, hF1.mono, g1, rfl⟩
    · have e8 : sSeek s0 bh A = ((aM A, a.1, a.2, aS A, aO A, aF A, aW A, aC A, aN A), .inl (some (.int (nI a.1.length)))) := by
        unfold sSeek sView
        rw [if_neg (by omega), hv]
        dsimp only
        rw [h]
        rfl
      rw [e8]
      obtain ⟨_, tK1, tV1, tM1, tS1, tB1, tX1⟩ := id hT1
      exact ⟨⟨hF2.lay hL1, hK2, hV2, tM1.fl hF2, tS1.fl hF2, tB1.fl hF2, tX1.fl hF2⟩, hF1.mono.trans0 hF2.mono, (hF2.rI (by decide) (by decide)).trans g1, rfl⟩
set_option maxRecDepth 100000 in
set_option maxHeartbeats 4000000 in
theorem b_before {G : zG} {ad : Nat → Nat} {d : Nat} {s0 : Int32} {A : As} {M : zM} (hd : 4 ≤ d) (hcb : zC M ≤ 600128 ∧ zS M ≤ 7301098) (hT : Ta ad M A)  : zMet G mX12_before d [.ref ((ad 38)), .int s0] M (Mst ad M (sBef s0 A) cdW (some (.int 0))) := by
  obtain ⟨hL, tK, tV, tM, tS, tB, tX⟩ := id hT
  refine zMet_of (by decide +kernel) (Nat.le_of_ble_eq_true rfl) rfl hcb ?_
  show zw G mX12_before d _ _ _ 0 [some (.ref ((ad 38))), some (.int s0), none, none, none] [] M
  refine zr_aload_n dX12_before_0 rfl ?_
  refine zr_iload_n dX12_before_1 rfl ?_
  refine zr_callV (md' := mX12_isThere) (As := [.int s0]) dX12_before_2 mlX12_114 okX12_isThere rfl inX12_isThere slX12_isThere (by decide) (hL.K 38 13) rfl (by omega) (Nat.le_of_ble_eq_true rfl) hcb (c_isThere (d := d - 1) (by omega) hcb hT) (fun k M9 h => by rcases h with ⟨_, h, _⟩ | ⟨_, _, h, _⟩ | ⟨_, _, _, h, _⟩ <;> cases h) (fun v M9 hq => ?_)
  rcases hq with ⟨hf, e0, e9⟩ | ⟨hf, hv, e0, e9⟩ | ⟨hf, ms, hv, e0, e9⟩
  · cases e0
    rw [e9]
    refine zr_if_ne 10 dX12_before_5 (by decide) (fun h5 => absurd rfl h5) (fun h5 => ?_)
    refine zr_iconst (v := nI 0) dX12_before_8 (by decide) ?_
    refine zr_iret dX12_before_9 rfl ?_
    have e8 : sBef s0 A = (A, .inr 0) := if_pos hf
    rw [e8]
    exact ⟨hT.t402, (Fl.refl ad _ _ _ M).put hL (f := 402) (i := 38), zput_hit _ _ _ _, rfl⟩
  · cases e0
    rw [e9]
    refine zr_if_ne 10 dX12_before_5 (by decide) (fun h5 => absurd rfl h5) (fun h5 => ?_)
    refine zr_iconst (v := nI 0) dX12_before_8 (by decide) ?_
    refine zr_iret dX12_before_9 rfl ?_
    have e8 : sBef s0 A = (A, .inr 3) := by unfold sBef sView; rw [if_neg (by omega), hv]
    rw [e8]
    exact ⟨hT.t402, (Fl.refl ad _ _ _ M).put hL (f := 402) (i := 38), zput_hit _ _ _ _, rfl⟩
  · cases e0
    obtain ⟨M1, e1⟩ : ∃ z, z = zput M 402 (ad 38) (nI 0) := ⟨_, rfl⟩
    rw [e9, ← e1]
    have hF1 : Fl ad 0 [402] [] [] M M1 := by rw [e1]; exact (Fl.refl ad _ _ _ M).put hL (f := 402) (i := 38)
    have hT1 : Ta ad M1 A := by rw [e1]; exact hT.t402
    have g1 : zI M1 402 (ad 38) = nI 0 := by rw [e1]; exact zput_hit _ _ _ _
    have hL1 := hT1.1
    have hcb1 := hF1.cb hcb
    obtain ⟨r, n, q, hV⟩ := hT1.vx hv
    refine zr_if_ne 10 dX12_before_5 (by decide) (fun h5 => ?_) (fun h5 => absurd h5 (by decide))
    refine zr_aload_n dX12_before_10 rfl ?_
    refine zr_iload_n dX12_before_11 rfl ?_
    refine zr_callV (md' := mX12_rowOf) (As := [.int s0]) dX12_before_12 mlX12_118 okX12_rowOf rfl inX12_rowOf slX12_rowOf (by decide) (hL1.K 38 13) rfl (by omega) (Nat.le_of_ble_eq_true rfl) hcb1 (c_rowOf (d := d - 1) hcb1 hT1 hV) (fun k M1 h => by cases h.1) (fun v M9 hq => ?_)
    obtain ⟨e0, e9⟩ := hq
    cases e0
    rw [e9]
    refine zr_astore_n (lv' := [some (.ref ((ad 38))), some (.int s0), some (.ref r), none, none]) dX12_before_15 (Nat.le_of_ble_eq_true rfl) (Nat.le_of_ble_eq_true rfl) rfl rfl ?_
    refine zr_iconst (v := -1) dX12_before_16 (by decide) ?_
    refine zr_istore_n (lv' := [some (.ref ((ad 38))), some (.int s0), some (.ref r), some (.int ((-1))), none]) dX12_before_17 (Nat.le_of_ble_eq_true rfl) (Nat.le_of_ble_eq_true rfl) rfl rfl ?_
    refine zr_aload_n dX12_before_18 rfl ?_
    refine zr_iload_n dX12_before_19 rfl ?_
    refine zr_callV (md' := mX12_from) (As := [.int s0]) dX12_before_20 mlX12_122 okX12_from rfl inX12_from slX12_from (by decide) (hL1.K 38 13) rfl (by omega) (Nat.le_of_ble_eq_true rfl) hcb1 (c_from (d := d - 1) hcb1 hT1 hV) (fun k M1 h => by cases h.1) (fun v M9 hq => ?_)
    obtain ⟨e0, e9⟩ := hq
    cases e0
    rw [e9]
    refine zr_istore (lv' := [some (.ref ((ad 38))), some (.int s0), some (.ref r), some (.int ((-1))), some (.int (nI q))]) dX12_before_23 (Nat.le_of_ble_eq_true rfl) (Nat.le_of_ble_eq_true rfl) rfl rfl ?_
    refine zr_asL (lv' := [some (.ref ((ad 38))), some (.int s0), some (.ref r), some (.int (zvi none)), some (.int (nI (q + (Mb []).length)))]) rfl ?_
    refine l_before (by omega) hcb1 hT1 hV (fun h => ?_) (fun a M2 h hF2 hK2 hV2 => ?_) _ [] ms none (Or.inl ⟨rfl, rfl⟩) rfl rfl
    · have e8 : sBef s0 A = (A, .inl (some (.int (-1)))) := by
        unfold sBef sView
        rw [if_neg (by omega), hv]
        dsimp only
        rw [h]
        rfl
      rw [e8]
      exact ⟨hT1, hF1.mono, g1, rfl⟩
    · have e8 : sBef s0 A = ((aM A, a.1, a.2, aS A, aO A, aF A, aW A, aC A, aN A), .inl (some (.int (nI a.1.length)))) := by
        unfold sBef sView
        rw [if_neg (by omega), hv]
        dsimp only
        rw [h]
        rfl
      rw [e8]
      obtain ⟨_, tK1, tV1, tM1, tS1, tB1, tX1⟩ := id hT1
      exact ⟨⟨hF2.lay hL1, hK2, hV2, tM1.fl hF2, tS1.fl hF2, tB1.fl hF2, tX1.fl hF2⟩, hF1.mono.trans0 hF2.mono, (hF2.rI (by decide) (by decide)).trans g1, rfl⟩
