/-! ===== LsmStoreModel (10): digest ===== -/
theorem lfo_step {l : List Nat} {h : Int64} {i b : Nat} (hb : l[i]? = some b) : 31 * lfo (l.take i) h + Int32.toInt64 (nI b) = lfo (l.take (i + 1)) h := by
  unfold lfo
  rw [List.take_succ, hb, List.foldl_append, Int64.mul_comm]
  rfl
set_option maxRecDepth 100000 in
set_option maxHeartbeats 4000000 in
theorem l_dk {G : zG} {ad : Nat → Nat} {d k0 n0 r n q : Nat} {s0 : Int32} {pre : Mp} {a : List Nat × List Nat} {h0 : Int64} {M : zM} {Q : zOut → zM → Prop} (hr : Rw8 M r n) (hE : Ea (zA M r) (q + (Mb pre).length) a) (hka : a.1.length ≤ 32 ∧ a.2.length ≤ 200) (hpa : (q + (Mb pre).length) + (eb a).length ≤ n) (hk : zw G mX12_digest d k0 n0 Q 109 [some (.ref ((ad 38))), some (.int s0), some (.ref r), some (.long ((lfo a.1 h0))), none, some (.int (nI (q + (Mb pre).length))), some (.int (nI a.1.length)), some (.int (nI ((q + (Mb pre).length) + 1 + a.1.length))), some (.int (nI a.2.length)), some (.int (nI a.1.length))] [] M) : ∀ (m i : Nat), a.1.length - i = m → i ≤ a.1.length → zw G mX12_digest d k0 n0 Q 75 [some (.ref ((ad 38))), some (.int s0), some (.ref r), some (.long ((lfo (a.1.take i) h0))), none, some (.int (nI (q + (Mb pre).length))), some (.int (nI a.1.length)), some (.int (nI ((q + (Mb pre).length) + 1 + a.1.length))), some (.int (nI a.2.length)), some (.int (nI i))] [] M := by
  intro m
  induction m using Nat.strongRecOn with
  | _ m ih =>
    intro i hm hi
    have hb1 := hr.2.2
    have hel := eb_len a
    refine zr_iload dX12_digest_75 rfl ?_
    refine zr_iload dX12_digest_77 rfl ?_
    refine zr_icmp_geN 109 dX12_digest_79 (by decide) (by omega) (by omega) (fun h79 => ?_) (fun h79 => ?_)
    · have e9 : i = a.1.length := by omega
      subst e9
      rw [List.take_length]
      exact hk
    · refine zr_ldc2 dX12_digest_82 ctX12_141 ?_
      refine zr_lload_n dX12_digest_85 rfl ?_
      refine zr_lmul dX12_digest_86 ?_
      refine zr_aload_n dX12_digest_87 rfl ?_
      refine zr_iload dX12_digest_88 rfl ?_
      refine zr_iconst (v := nI 1) dX12_digest_90 (by decide) ?_
      refine zr_iaddN dX12_digest_91 ?_
      refine zr_iload dX12_digest_92 rfl ?_
      refine zr_iaddN dX12_digest_94 ?_
      refine zr_baldN dX12_digest_95 hr.1 hr.2.1 (by omega) (by omega) (fun f95 => ?_)
      refine zr_sipush (v := nI 255) dX12_digest_96 (by decide) ?_
      refine zr_iand255 dX12_digest_99 ?_
      refine zr_i2l dX12_digest_100 ?_
      refine zr_ladd dX12_digest_101 ?_
      refine zr_lstore_n (lv' := [some (.ref ((ad 38))), some (.int s0), some (.ref r), some (.long (((31 * (lfo (a.1.take i) h0)) + (Int32.toInt64 (nI (zb (zA M r (((q + (Mb pre).length) + 1) + i)))))))), none, some (.int (nI (q + (Mb pre).length))), some (.int (nI a.1.length)), some (.int (nI ((q + (Mb pre).length) + 1 + a.1.length))), some (.int (nI a.2.length)), some (.int (nI i))]) dX12_digest_102 (Nat.le_of_ble_eq_true rfl) (Nat.le_of_ble_eq_true rfl) rfl rfl ?_
      refine zr_iincN (n := 1) (lv' := [some (.ref ((ad 38))), some (.int s0), some (.ref r), some (.long (((31 * (lfo (a.1.take i) h0)) + (Int32.toInt64 (nI (zb (zA M r (((q + (Mb pre).length) + 1) + i)))))))), none, some (.int (nI (q + (Mb pre).length))), some (.int (nI a.1.length)), some (.int (nI ((q + (Mb pre).length) + 1 + a.1.length))), some (.int (nI a.2.length)), some (.int (nI (i + 1)))]) dX12_digest_103 (Nat.le_of_ble_eq_true rfl) (Nat.le_of_ble_eq_true rfl) rfl rfl rfl ?_
      refine zr_goto 75 dX12_digest_106 (by decide) ?_
      have e1 : ((31 * (lfo (a.1.take i) h0)) + (Int32.toInt64 (nI (zb (zA M r (((q + (Mb pre).length) + 1) + i)))))) = lfo (a.1.take (i + 1)) h0 := by
        have hb : a.1[i]? = some (a.1[i]'(by omega)) := List.getElem?_eq_getElem _
        rw [show zb (zA M r (((q + (Mb pre).length) + 1) + i)) = a.1[i]'(by omega) from hE.key i _ hb]
        exact lfo_step hb
      rw [e1]
      exact ih _ (by omega) (i + 1) rfl (by omega)
set_option maxRecDepth 100000 in
set_option maxHeartbeats 4000000 in
theorem l_dv {G : zG} {ad : Nat → Nat} {d k0 n0 r n q : Nat} {s0 : Int32} {pre : Mp} {a : List Nat × List Nat} {h0 : Int64} {M : zM} {Q : zOut → zM → Prop} (hr : Rw8 M r n) (hE : Ea (zA M r) (q + (Mb pre).length) a) (hka : a.1.length ≤ 32 ∧ a.2.length ≤ 200) (hpa : (q + (Mb pre).length) + (eb a).length ≤ n) (hk : zw G mX12_digest d k0 n0 Q 156 [some (.ref ((ad 38))), some (.int s0), some (.ref r), some (.long ((lfo a.2 h0))), none, some (.int (nI (q + (Mb pre).length))), some (.int (nI a.1.length)), some (.int (nI ((q + (Mb pre).length) + 1 + a.1.length))), some (.int (nI a.2.length)), some (.int (nI a.2.length))] [] M) : ∀ (m i : Nat), a.2.length - i = m → i ≤ a.2.length → zw G mX12_digest d k0 n0 Q 122 [some (.ref ((ad 38))), some (.int s0), some (.ref r), some (.long ((lfo (a.2.take i) h0))), none, some (.int (nI (q + (Mb pre).length))), some (.int (nI a.1.length)), some (.int (nI ((q + (Mb pre).length) + 1 + a.1.length))), some (.int (nI a.2.length)), some (.int (nI i))] [] M := by
  intro m
  induction m using Nat.strongRecOn with
  | _ m ih =>
    intro i hm hi
    have hb1 := hr.2.2
    have hel := eb_len a
    refine zr_iload dX12_digest_122 rfl ?_
    refine zr_iload dX12_digest_124 rfl ?_
    refine zr_icmp_geN 156 dX12_digest_126 (by decide) (by omega) (by omega) (fun h126 => ?_) (fun h126 => ?_)
    · have e9 : i = a.2.length := by omega
      subst e9
      rw [List.take_length]
      exact hk
    · refine zr_ldc2 dX12_digest_129 ctX12_141 ?_
      refine zr_lload_n dX12_digest_132 rfl ?_
      refine zr_lmul dX12_digest_133 ?_
      refine zr_aload_n dX12_digest_134 rfl ?_
      refine zr_iload dX12_digest_135 rfl ?_
      refine zr_iconst (v := nI 1) dX12_digest_137 (by decide) ?_
      refine zr_iaddN dX12_digest_138 ?_
      refine zr_iload dX12_digest_139 rfl ?_
      refine zr_iaddN dX12_digest_141 ?_
      refine zr_baldN dX12_digest_142 hr.1 hr.2.1 (by omega) (by omega) (fun f142 => ?_)
      refine zr_sipush (v := nI 255) dX12_digest_143 (by decide) ?_
      refine zr_iand255 dX12_digest_146 ?_
      refine zr_i2l dX12_digest_147 ?_
      refine zr_ladd dX12_digest_148 ?_
      refine zr_lstore_n (lv' := [some (.ref ((ad 38))), some (.int s0), some (.ref r), some (.long (((31 * (lfo (a.2.take i) h0)) + (Int32.toInt64 (nI (zb (zA M r ((((q + (Mb pre).length) + 1 + a.1.length) + 1) + i)))))))), none, some (.int (nI (q + (Mb pre).length))), some (.int (nI a.1.length)), some (.int (nI ((q + (Mb pre).length) + 1 + a.1.length))), some (.int (nI a.2.length)), some (.int (nI i))]) dX12_digest_149 (Nat.le_of_ble_eq_true rfl) (Nat.le_of_ble_eq_true rfl) rfl rfl ?_
      refine zr_iincN (n := 1) (lv' := [some (.ref ((ad 38))), some (.int s0), some (.ref r), some (.long (((31 * (lfo (a.2.take i) h0)) + (Int32.toInt64 (nI (zb (zA M r ((((q + (Mb pre).length) + 1 + a.1.length) + 1) + i)))))))), none, some (.int (nI (q + (Mb pre).length))), some (.int (nI a.1.length)), some (.int (nI ((q + (Mb pre).length) + 1 + a.1.length))), some (.int (nI a.2.length)), some (.int (nI (i + 1)))]) dX12_digest_150 (Nat.le_of_ble_eq_true rfl) (Nat.le_of_ble_eq_true rfl) rfl rfl rfl ?_
      refine zr_goto 122 dX12_digest_153 (by decide) ?_
      have e1 : ((31 * (lfo (a.2.take i) h0)) + (Int32.toInt64 (nI (zb (zA M r ((((q + (Mb pre).length) + 1 + a.1.length) + 1) + i)))))) = lfo (a.2.take (i + 1)) h0 := by
        have hb : a.2[i]? = some (a.2[i]'(by omega)) := List.getElem?_eq_getElem _
        rw [show zb (zA M r (((q + (Mb pre).length) + 1 + a.1.length + 1) + i)) = a.2[i]'(by omega) from hE.val i _ hb]
        exact lfo_step hb
      rw [e1]
      exact ih _ (by omega) (i + 1) rfl (by omega)
set_option maxRecDepth 100000 in
set_option maxHeartbeats 4000000 in
theorem l_mdigest {G : zG} {ad : Nat → Nat} {d k0 n0 r n q : Nat} {A : As} {s0 : Int32} {ms : Mp} {M : zM} {Q : zOut → zM → Prop} (hd : 3 ≤ d) (hcb : zC M ≤ 600128 ∧ zS M ≤ 7301098) (hT : Ta ad M A) (hV : Vx ad M A s0 r n q ms) (hq : Q (.inl (some (.long (dgs ms)))) M) : ∀ (k : Nat) (pre suf : Mp), suf.length = k → ms = pre ++ suf → zw G mX12_digest d k0 n0 Q 27 [some (.ref ((ad 38))), some (.int s0), some (.ref r), some (.long ((dgs pre))), none, some (.int (nI (q + (Mb pre).length))), none, none, none, none] [] M := by
  intro k
  induction k using Nat.strongRecOn with
  | _ k ih =>
    intro pre suf hl hms
    have hr := hV.2.1
    have hb1 := hr.2.2
    have hsh := hV.2.2.2.1.shr
    have hple : (Mb pre).length ≤ (Mb ms).length := by rw [hms, Mb_app, List.length_append]; omega
    have hpq := hV.2.2.2.2
    obtain ⟨hL, tK, tV, tM, tS, tB, tX⟩ := id hT
    refine zr_iload dX12_digest_27 rfl ?_
    refine zr_aload_n dX12_digest_29 rfl ?_
    refine zr_iload_n dX12_digest_30 rfl ?_
    refine zr_callV (md' := mX12_end) (As := [.int s0]) dX12_digest_31 mlX12_126 okX12_end rfl inX12_end slX12_end (by decide) (hL.K 38 13) rfl (by omega) (Nat.le_of_ble_eq_true rfl) hcb (c_end (d := d - 1) hcb hT hV) (fun k M1 h => by cases h.1) (fun v M9 hq => ?_)
    obtain ⟨e0, e9⟩ := hq
    cases e0
    rw [e9]
    refine zr_icmp_geN 167 dX12_digest_34 (by decide) (by omega) (by omega) (fun h34 => ?_) (fun h34 => ?_)
    · refine zr_lload_n dX12_digest_167 rfl ?_
      refine zr_lret dX12_digest_168 rfl ?_
      have hs0 : suf = [] := by
        cases suf with
        | nil => rfl
        | cons a s => exfalso; have z := Mb_pos (a := a) (m := s); rw [hms, Mb_app, List.length_append] at h34; omega
      subst hs0
      rw [List.append_nil] at hms
      subst hms
      exact hq
    · obtain ⟨a, suf9, rfl⟩ : ∃ a s, suf = a :: s := by
        cases suf with
        | nil => exfalso; rw [hms, List.append_nil] at h34; omega
        | cons a s => exact ⟨a, s, rfl⟩
      have hE : Ea (zA M r) (q + (Mb pre).length) a := by have z := hV.2.2.1; rw [hms] at z; exact z.at
      have hka := hsh a (by rw [hms]; exact List.mem_append_right _ List.mem_cons_self)
      have hml : (Mb ms).length = (Mb pre).length + ((eb a).length + (Mb suf9).length) := by rw [hms, Mb_app, Mb_cons, List.length_append, List.length_append]
      have hel := eb_len a
      have hpa : q + (Mb pre).length + (eb a).length ≤ n := by have := hV.2.2.2.2; omega
      refine zr_aload_n dX12_digest_37 rfl ?_
      refine zr_iload dX12_digest_38 rfl ?_
      refine zr_baldN dX12_digest_40 hr.1 hr.2.1 (by omega) (by omega) (fun f40 => ?_)
      refine zr_as (y := (nI a.1.length)) (zb_of f40 hE.kl (by omega)) ?_
      refine zr_istore (lv' := [some (.ref ((ad 38))), some (.int s0), some (.ref r), some (.long ((dgs pre))), none, some (.int (nI (q + (Mb pre).length))), some (.int (nI a.1.length)), none, none, none]) dX12_digest_41 (Nat.le_of_ble_eq_true rfl) (Nat.le_of_ble_eq_true rfl) rfl rfl ?_
      refine zr_iload dX12_digest_43 rfl ?_
      refine zr_iconst (v := nI 1) dX12_digest_45 (by decide) ?_
      refine zr_iaddN dX12_digest_46 ?_
      refine zr_iload dX12_digest_47 rfl ?_
      refine zr_iaddN dX12_digest_49 ?_
      refine zr_istore (lv' := [some (.ref ((ad 38))), some (.int s0), some (.ref r), some (.long ((dgs pre))), none, some (.int (nI (q + (Mb pre).length))), some (.int (nI a.1.length)), some (.int (nI (((q + (Mb pre).length) + 1) + a.1.length))), none, none]) dX12_digest_50 (Nat.le_of_ble_eq_true rfl) (Nat.le_of_ble_eq_true rfl) rfl rfl ?_
      refine zr_aload_n dX12_digest_52 rfl ?_
      refine zr_iload dX12_digest_53 rfl ?_
      refine zr_baldN dX12_digest_55 hr.1 hr.2.1 (by omega) (by omega) (fun f55 => ?_)
      refine zr_sipush (v := nI 255) dX12_digest_56 (by decide) ?_
      refine zr_iand255 dX12_digest_59 ?_
      refine zr_as (y := (nI a.2.length)) (by rw [hE.vl]) ?_
      refine zr_istore (lv' := [some (.ref ((ad 38))), some (.int s0), some (.ref r), some (.long ((dgs pre))), none, some (.int (nI (q + (Mb pre).length))), some (.int (nI a.1.length)), some (.int (nI (((q + (Mb pre).length) + 1) + a.1.length))), some (.int (nI a.2.length)), none]) dX12_digest_60 (Nat.le_of_ble_eq_true rfl) (Nat.le_of_ble_eq_true rfl) rfl rfl ?_
      refine zr_ldc2 dX12_digest_62 ctX12_141 ?_
      refine zr_lload_n dX12_digest_65 rfl ?_
      refine zr_lmul dX12_digest_66 ?_
      refine zr_iload dX12_digest_67 rfl ?_
      refine zr_i2l dX12_digest_69 ?_
      refine zr_ladd dX12_digest_70 ?_
      refine zr_lstore_n (lv' := [some (.ref ((ad 38))), some (.int s0), some (.ref r), some (.long (((31 * (dgs pre)) + (Int32.toInt64 (nI a.1.length))))), none, some (.int (nI (q + (Mb pre).length))), some (.int (nI a.1.length)), some (.int (nI (((q + (Mb pre).length) + 1) + a.1.length))), some (.int (nI a.2.length)), none]) dX12_digest_71 (Nat.le_of_ble_eq_true rfl) (Nat.le_of_ble_eq_true rfl) rfl rfl ?_
      refine zr_iconst (v := nI 0) dX12_digest_72 (by decide) ?_
      refine zr_istore (lv' := [some (.ref ((ad 38))), some (.int s0), some (.ref r), some (.long (((31 * (dgs pre)) + (Int32.toInt64 (nI a.1.length))))), none, some (.int (nI (q + (Mb pre).length))), some (.int (nI a.1.length)), some (.int (nI (((q + (Mb pre).length) + 1) + a.1.length))), some (.int (nI a.2.length)), some (.int (nI 0))]) dX12_digest_73 (Nat.le_of_ble_eq_true rfl) (Nat.le_of_ble_eq_true rfl) rfl rfl ?_
      have hz0 : ((31 * (dgs pre)) + (Int32.toInt64 (nI a.1.length))) = lfo (a.1.take 0) ((31 * (dgs pre)) + (Int32.toInt64 (nI a.1.length))) := rfl
      rw [hz0]
      refine l_dk hr hE hka hpa ?_ _ 0 rfl (Nat.zero_le _)
      refine zr_ldc2 dX12_digest_109 ctX12_141 ?_
      refine zr_lload_n dX12_digest_112 rfl ?_
      refine zr_lmul dX12_digest_113 ?_
      refine zr_iload dX12_digest_114 rfl ?_
      refine zr_i2l dX12_digest_116 ?_
      refine zr_ladd dX12_digest_117 ?_
      refine zr_lstore_n (lv' := [some (.ref ((ad 38))), some (.int s0), some (.ref r), some (.long (((31 * (lfo a.1 ((31 * (dgs pre)) + (Int32.toInt64 (nI a.1.length))))) + (Int32.toInt64 (nI a.2.length))))), none, some (.int (nI (q + (Mb pre).length))), some (.int (nI a.1.length)), some (.int (nI ((q + (Mb pre).length) + 1 + a.1.length))), some (.int (nI a.2.length)), some (.int (nI a.1.length))]) dX12_digest_118 (Nat.le_of_ble_eq_true rfl) (Nat.le_of_ble_eq_true rfl) rfl rfl ?_
      refine zr_iconst (v := nI 0) dX12_digest_119 (by decide) ?_
      refine zr_istore (lv' := [some (.ref ((ad 38))), some (.int s0), some (.ref r), some (.long (((31 * (lfo a.1 ((31 * (dgs pre)) + (Int32.toInt64 (nI a.1.length))))) + (Int32.toInt64 (nI a.2.length))))), none, some (.int (nI (q + (Mb pre).length))), some (.int (nI a.1.length)), some (.int (nI ((q + (Mb pre).length) + 1 + a.1.length))), some (.int (nI a.2.length)), some (.int (nI 0))]) dX12_digest_120 (Nat.le_of_ble_eq_true rfl) (Nat.le_of_ble_eq_true rfl) rfl rfl ?_
      have hz0 : ((31 * (lfo a.1 ((31 * (dgs pre)) + (Int32.toInt64 (nI a.1.length))))) + (Int32.toInt64 (nI a.2.length))) = lfo (a.2.take 0) ((31 * (lfo a.1 ((31 * (dgs pre)) + (Int32.toInt64 (nI a.1.length))))) + (Int32.toInt64 (nI a.2.length))) := rfl
      rw [hz0]
      refine l_dv hr hE hka hpa ?_ _ 0 rfl (Nat.zero_le _)
      have e2 : q + (Mb pre).length + 2 + a.1.length + a.2.length = q + (Mb (pre ++ [a])).length := by rw [Mb_sl]; omega
      refine zr_aload_n dX12_digest_156 rfl ?_
      refine zr_iload dX12_digest_157 rfl ?_
      refine zr_callS (md' := mX12_behind) (As := [.ref r, .int (nI (q + (Mb pre).length))]) dX12_digest_159 mlX12_41 okX12_behind rfl stX12_behind rfl (by omega) (Nat.le_of_ble_eq_true rfl) hcb (c_behind (d := d - 1) hcb hr hE hka.1 hpa) (fun k M1 h => by cases h.1) (fun v M9 hq => ?_)
      obtain ⟨e0, e9⟩ := hq
      cases e0
      rw [e9]
      refine zr_istore (lv' := [some (.ref ((ad 38))), some (.int s0), some (.ref r), some (.long ((lfo a.2 ((31 * (lfo a.1 ((31 * (dgs pre)) + (Int32.toInt64 (nI a.1.length))))) + (Int32.toInt64 (nI a.2.length)))))), none, some (.int (nI (q + (Mb pre).length + 2 + a.1.length + a.2.length))), some (.int (nI a.1.length)), some (.int (nI ((q + (Mb pre).length) + 1 + a.1.length))), some (.int (nI a.2.length)), some (.int (nI a.2.length))]) dX12_digest_162 (Nat.le_of_ble_eq_true rfl) (Nat.le_of_ble_eq_true rfl) rfl rfl ?_
      refine zr_goto 27 dX12_digest_164 (by decide) ?_
      have e1 : (lfo a.2 ((31 * (lfo a.1 ((31 * (dgs pre)) + (Int32.toInt64 (nI a.1.length))))) + (Int32.toInt64 (nI a.2.length)))) = dgs (pre ++ [a]) := by
        rw [dgs_snoc]
        unfold mxE
        rw [Int64.mul_comm (dgs pre) 31, Int64.mul_comm _ 31]
      rw [e1, e2]
      refine zr_drop 6 rfl ?_
      refine zr_drop 7 rfl ?_
      refine zr_drop 8 rfl ?_
      refine zr_drop 9 rfl ?_
      exact ih suf9.length (by rw [← hl, List.length_cons]; omega) (pre ++ [a]) suf9 rfl (by rw [hms, List.append_assoc]; rfl)
set_option maxRecDepth 100000 in
set_option maxHeartbeats 4000000 in
theorem b_digest {G : zG} {ad : Nat → Nat} {d : Nat} {s0 : Int32} {A : As} {M : zM} (hd : 4 ≤ d) (hcb : zC M ≤ 600128 ∧ zS M ≤ 7301098) (hT : Ta ad M A)  : zMet G mX12_digest d [.ref ((ad 38)), .int s0] M (Mst ad M (sDig s0 A) cdW (some (.long 0))) := by
  obtain ⟨hL, tK, tV, tM, tS, tB, tX⟩ := id hT
  refine zMet_of (by decide +kernel) (Nat.le_of_ble_eq_true rfl) rfl hcb ?_
  show zw G mX12_digest d _ _ _ 0 [some (.ref ((ad 38))), some (.int s0), none, none, none, none, none, none, none, none] [] M
  refine zr_aload_n dX12_digest_0 rfl ?_
  refine zr_iload_n dX12_digest_1 rfl ?_
  refine zr_callV (md' := mX12_isThere) (As := [.int s0]) dX12_digest_2 mlX12_114 okX12_isThere rfl inX12_isThere slX12_isThere (by decide) (hL.K 38 13) rfl (by omega) (Nat.le_of_ble_eq_true rfl) hcb (c_isThere (d := d - 1) (by omega) hcb hT) (fun k M9 h => by rcases h with ⟨_, h, _⟩ | ⟨_, _, h, _⟩ | ⟨_, _, _, h, _⟩ <;> cases h) (fun v M9 hq => ?_)
  rcases hq with ⟨hf, e0, e9⟩ | ⟨hf, hv, e0, e9⟩ | ⟨hf, ms, hv, e0, e9⟩
  · cases e0
    rw [e9]
    refine zr_if_ne 10 dX12_digest_5 (by decide) (fun h5 => absurd rfl h5) (fun h5 => ?_)
    refine zr_lconst (v := 0) dX12_digest_8 (by decide) ?_
    refine zr_lret dX12_digest_9 rfl ?_
    have e8 : sDig s0 A = (A, .inr 0) := if_pos hf
    rw [e8]
    exact ⟨hT.t402, (Fl.refl ad _ _ _ M).put hL (f := 402) (i := 38), zput_hit _ _ _ _, rfl⟩
  · cases e0
    rw [e9]
    refine zr_if_ne 10 dX12_digest_5 (by decide) (fun h5 => absurd rfl h5) (fun h5 => ?_)
    refine zr_lconst (v := 0) dX12_digest_8 (by decide) ?_
    refine zr_lret dX12_digest_9 rfl ?_
    have e8 : sDig s0 A = (A, .inr 3) := by unfold sDig sView; rw [if_neg (by omega), hv]
    rw [e8]
    exact ⟨hT.t402, (Fl.refl ad _ _ _ M).put hL (f := 402) (i := 38), zput_hit _ _ _ _, rfl⟩
  · cases e0
    obtain ⟨M1, e1⟩ : ∃ z, z = zput M 402 (ad 38) (nI 0) := ⟨_, rfl⟩
    rw [e9, ← e1]
    have hF1 : Fl ad 0 [402] [] [] M M1 := by rw [e1]; exact (Fl.refl ad _ _ _ M).put hL (f := 402) (i := 38)
    have hT1 : Ta ad M1 A := by rw [e1]; exact hT.t402
    have g1 : zI M1 402 (ad 38) = nI 0 := by rw [e1]; exact zput_hit _ _ _ _
    have hL1 := hT1.1
    have hcb1 := hF1.cb hcb
    obtain ⟨r, n, q, hV⟩ := hT1.vx hv
    refine zr_if_ne 10 dX12_digest_5 (by decide) (fun h5 => ?_) (fun h5 => absurd h5 (by decide))
    refine zr_aload_n dX12_digest_10 rfl ?_
    refine zr_iload_n dX12_digest_11 rfl ?_
    refine zr_callV (md' := mX12_rowOf) (As := [.int s0]) dX12_digest_12 mlX12_118 okX12_rowOf rfl inX12_rowOf slX12_rowOf (by decide) (hL1.K 38 13) rfl (by omega) (Nat.le_of_ble_eq_true rfl) hcb1 (c_rowOf (d := d - 1) hcb1 hT1 hV) (fun k M1 h => by cases h.1) (fun v M9 hq => ?_)
    obtain ⟨e0, e9⟩ := hq
    cases e0
    rw [e9]
    refine zr_astore_n (lv' := [some (.ref ((ad 38))), some (.int s0), some (.ref r), none, none, none, none, none, none, none]) dX12_digest_15 (Nat.le_of_ble_eq_true rfl) (Nat.le_of_ble_eq_true rfl) rfl rfl ?_
    refine zr_ldc2 dX12_digest_16 ctX12_139 ?_
    refine zr_lstore_n (lv' := [some (.ref ((ad 38))), some (.int s0), some (.ref r), some (.long 7), none, none, none, none, none, none]) dX12_digest_19 (Nat.le_of_ble_eq_true rfl) (Nat.le_of_ble_eq_true rfl) rfl rfl ?_
    refine zr_aload_n dX12_digest_20 rfl ?_
    refine zr_iload_n dX12_digest_21 rfl ?_
    refine zr_callV (md' := mX12_from) (As := [.int s0]) dX12_digest_22 mlX12_122 okX12_from rfl inX12_from slX12_from (by decide) (hL1.K 38 13) rfl (by omega) (Nat.le_of_ble_eq_true rfl) hcb1 (c_from (d := d - 1) hcb1 hT1 hV) (fun k M1 h => by cases h.1) (fun v M9 hq => ?_)
    obtain ⟨e0, e9⟩ := hq
    cases e0
    rw [e9]
    refine zr_istore (lv' := [some (.ref ((ad 38))), some (.int s0), some (.ref r), some (.long 7), none, some (.int (nI q)), none, none, none, none]) dX12_digest_25 (Nat.le_of_ble_eq_true rfl) (Nat.le_of_ble_eq_true rfl) rfl rfl ?_
    refine zr_asL (lv' := [some (.ref ((ad 38))), some (.int s0), some (.ref r), some (.long ((dgs []))), none, some (.int (nI (q + (Mb []).length))), none, none, none, none]) rfl ?_
    have e8 : sDig s0 A = (A, .inl (some (.long (dgs ms)))) := by
      unfold sDig sView
      rw [if_neg (by omega), hv]
    refine l_mdigest (by omega) hcb1 hT1 hV ?_ _ [] ms rfl rfl
    rw [e8]
    exact ⟨hT1, hF1.mono, g1, rfl⟩
