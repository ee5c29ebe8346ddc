/-! ===== the law: its cases ===== -/
abbrev mL_law : zD := (yL_law, cL_law, 8, (some .boolean), [])
theorem zr_sldN {G : zG} {md : zD} {d k0 n0 : Nat} {Q : zOut → zM → Prop} {pc : Nat} {lv : List (Option Value)} {st : List Value} {M : zM} {i : Nat} (hd : decode md.2.1 pc = .ok (.iaload, 1)) (hi : i < gn G) (hn : gn G ≤ 320) (kk : zw G md d k0 n0 Q (pc + 1) lv (.int (gx G i) :: st) M) : zw G md d k0 n0 Q pc lv (.int (nI i) :: .ref (gb G) :: st) M := zr_sld hd (zvp hi (by omega)) (by rw [nI_clamp (by omega)]; exact kk)
def Sgd (s : Sp) : Prop := 1 ≤ s.2.1.length ∧ s.2.1.length ≤ 32 ∧ s.2.2.length ≤ 200 ∧ (∀ b ∈ s.2.1, b < 256) ∧ ∀ b ∈ s.2.2, b < 256
theorem MSets.mw : ∀ {ss : List Sp} {m m' : Mp} {n : Nat}, MSets m ss m' → Mw n m → (∀ s ∈ ss, Sgd s) → Mw (n + ss.length) m'
  | [], m, m', n, h, hm, _ => by cases h; exact hm
  | s :: ss, m, m', n, h, hm, hb => by
    obtain ⟨m1, h1, h2⟩ := h
    have hb0 := hb s List.mem_cons_self
    have hl1 : m1.length ≤ m.length + 1 := by
      obtain ⟨A, B, _, _, hx, rfl⟩ := h1
      have hy : ((spo s).map (fun v => (s.2.1, v))).toList.length ≤ 1 := by cases spo s <;> simp
      rcases hx with rfl | ⟨v, rfl⟩
      · rw [List.length_append, List.length_append, List.length_append]; omega
      · rw [List.length_append, List.length_append, List.length_append, List.length_cons]; omega
    have hm1 : Mw (n + 1) m1 := by
      refine ⟨h1.srt hm.1, by have := hm.2.1; omega, fun a ha => ?_⟩
      rcases (h1.mem a.1 a.2).mp ha with ⟨e1, e2⟩ | ⟨_, e2⟩
      · unfold spo at e2
        by_cases hc : s.1 = 1
        · rw [if_pos hc] at e2
          rw [e1, ← Option.some.inj e2]
          exact hb0
        · rw [if_neg hc] at e2; cases e2
      · exact hm.2.2 _ e2
    have := MSets.mw h2 hm1 (fun x hx => hb x (List.mem_cons_of_mem _ hx))
    rw [List.length_cons, show n + (ss.length + 1) = n + 1 + ss.length by omega]
    exact this
theorem RwS.b {ad : Nat → Nat} {M : zM} {r rc cap : Nat} {L : List Nat} (h : RwS ad M r rc L cap) : ∀ b ∈ L, b < 256 := fun b hb => by rw [← h.2.1] at hb; exact rwl_b hb
theorem Mw.up {n k : Nat} {m : Mp} (h : Mw n m) (hk : n ≤ k) : Mw k m := ⟨h.1, Nat.le_trans h.2.1 hk, h.2.2⟩
theorem Sa.m1 {ad : Nat → Nat} {M : zM} {A : As} {n kd : Nat} (hS : Sa ad M A n) (hn : n < 64) : aF A = 0 → aO A = 0 → aK A ≠ [] → msz (mset (aM A) [(kd, aK A, if kd = 1 then aV A else [])]) ≤ 16000 ∧ Mw 64 (mset (aM A) [(kd, aK A, if kd = 1 then aV A else [])]) := by
  intro hf ho hne
  obtain ⟨hL, hrm, hK, hV, hp, ht, hP, hMw, hcn⟩ := hS.1
  have h1 := MSets.mw (mset_spec [(kd, aK A, if kd = 1 then aV A else [])] hMw.1) hMw (fun s hs => by
    rw [List.mem_singleton.mp hs]
    refine ⟨List.length_pos_iff.mpr hne, hK.2.2, ?_, hK.b, ?_⟩
    · show (if kd = 1 then aV A else []).length ≤ 200
      split
      · exact hV.2.2
      · exact Nat.zero_le _
    · show ∀ b ∈ (if kd = 1 then aV A else []), b < 256
      split
      · exact hV.b
      · intro b hb; cases hb)
  have h2 := h1.up (show n + 1 ≤ 64 by omega)
  have h3 := h2.sz
  exact ⟨by omega, h2⟩
theorem Sa.mc {ad : Nat → Nat} {M : zM} {A : As} {n : Nat} (hS : Sa ad M A n) (hn : n < 64) : aF A = 0 → aO A = 1 → msz (mset (aM A) (aS A)) ≤ 16000 ∧ Mw 64 (mset (aM A) (aS A)) := by
  intro hf ho
  have hMw := hS.1.2.2.2.2.2.2.2.1
  have hc := hS.2.resolve_right (fun z => by have := z.1; omega)
  obtain ⟨E, Ls, n1, v, ⟨ar, us, to, to2, g, cm, rs, hO, hU, hB⟩, a2, -⟩ := hc.2.1
  obtain ⟨offs, len, hBt, hss⟩ := hc.2.2.2.2.2.2.1 ho
  have h0 := sem_mw hU.2.2.2.1 hMw.1
  have h1 := MSets.mw (mset_spec (aS A) hMw.1) h0 (fun s hs => by
    rw [← hss] at hs
    obtain ⟨q, hq, rfl⟩ := List.mem_map.mp hs
    have hw := hBt.2.2.2.2.2 q hq
    have l1 : (eky (zA M (ad 11)) q).length = ekl (zA M (ad 11)) q := rwl_len _ _
    have l2 : (eva (zA M (ad 11)) q).length = evl (zA M (ad 11)) q := rwl_len _ _
    exact ⟨by show 1 ≤ (eky (zA M (ad 11)) q).length; rw [l1]; exact hw.2.1, by show (eky (zA M (ad 11)) q).length ≤ 32; rw [l1]; exact hw.2.2.1, by show (eva (zA M (ad 11)) q).length ≤ 200; rw [l2]; exact hw.2.2.2, fun b hb => rwl_b hb, fun b hb => rwl_b hb⟩)
  have h2 := h1.up (show n1 + (aS A).length ≤ 64 by omega)
  have h3 := h2.sz
  exact ⟨by omega, h2⟩
theorem Sa.s0 {ad : Nat → Nat} {M : zM} {A : As} {n : Nat} (hS : Sa ad M A n) : aO A = 0 → aS A = [] := fun ho => by
  rcases hS.2 with z | z
  · exact z.2.2.2.2.2.2.2 ho
  · exact z.2.2.2.2.1
theorem Sa.s1 {ad : Nat → Nat} {M : zM} {A : As} {n : Nat} (hS : Sa ad M A n) (hn : n < 64) : aF A = 0 → aO A = 1 → (aS A).length < 64 := fun hf ho => by
  have hc := hS.2.resolve_right (fun z => by have := z.1; omega)
  obtain ⟨E, Ls, n1, v, a1, a2, -⟩ := hc.2.1
  omega
/-- the model's call leaves the store as it is -/
theorem Sa.mdl {ad : Nat → Nat} {n : Nat} {M M1 : zM} {A : As} (h : Sa ad M A n) (hF : Fl ad 0 LM LMA [] M M1) : Sa ad M1 A n := by
  obtain ⟨⟨s1, s2, s3, s4, ⟨pl, s5, s5'⟩, ⟨t, s6, s6'⟩, ⟨lf, ct, du, cn, s7⟩, s8, s9⟩, h2⟩ := h
  have hcs := hF.cs
  have eD : zA M1 (ad 2) = zA M (ad 2) := hF.rA (i := 2) (by decide) (by decide)
  refine ⟨⟨hF.lay s1, by omega, s3.fl hF, s4.fl hF, ⟨pl, s5, (hF.rI (by decide) (by decide)).trans s5'⟩, ⟨t, by omega, (hF.rI (by decide) (by decide)).trans s6'⟩, ⟨lf, ct, du, cn, s7.fl hF⟩, s8, s9⟩, ?_⟩
  rcases h2 with ⟨a0, ⟨E, Ls, n1, v, a1, a2, a3, a4⟩, a5, a6, a7, a8, a9, a10⟩ | ⟨a0, a1, ⟨v, a2⟩, a3, a4, a5⟩
  · refine Or.inl ⟨a0, ⟨E, Ls, n1, v, a1.fl hF, a2, a3.fl hF, by rw [eD]; exact a4⟩, (hF.rI (by decide) (by decide)).trans a5, (hF.rI (by decide) (by decide)).trans a6, (hF.rI (by decide) (by decide)).trans a7, a8, fun ho => ?_, a10⟩
    obtain ⟨offs, len, b1, b2⟩ := a9 ho
    exact ⟨offs, len, b1.fl hF, by rw [hF.rA (i := 11) (by decide) (by decide)]; exact b2⟩
  · exact Or.inr ⟨a0, a1.fl hF (by decide) (by decide) (a1.2.1.fl hF), ⟨v, a2.fl hF⟩, a3, a4, a5⟩
theorem tc_lt (cd : Nat → Nat) (h : ∀ k, cd k ≤ 3) (r : zOut) : tc cd r < 2 ^ 31 := by
  cases r with
  | inl v => exact Nat.lt_of_le_of_lt (Nat.le_refl 0) (by decide)
  | inr k => exact Nat.lt_of_le_of_lt (h k) (by decide)
theorem cd1_3 (k : Nat) : cd1 k ≤ 3 ∧ cd1 k ≠ 0 := ⟨by unfold cd1; omega, by unfold cd1; omega⟩
theorem cdP_3 (k : Nat) : cdP k ≤ 3 ∧ cdP k ≠ 0 := by unfold cdP; split <;> (try split) <;> exact ⟨by decide, by decide⟩
theorem cdW_3 (k : Nat) : cdW k ≤ 3 ∧ cdW k ≠ 0 := by unfold cdW; split <;> exact ⟨by decide, by decide⟩
theorem tc_0 {cd : Nat → Nat} (h : ∀ k, cd k ≠ 0) {r : zOut} (h0 : tc cd r = 0) : ∃ v, r = .inl v := by
  cases r with
  | inl v => exact ⟨v, rfl⟩
  | inr k => exact absurd h0 (h k)
theorem lg_same (x : Int64) : lg_cmp x x = 0 := by unfold lg_cmp; simp
theorem ro_int {f : Option Value → Prop} {r : zOut} (h : ∀ v, r = .inl v → ∃ x, v = some (.int x)) : ∃ x, ro (some (.int 0)) r = some (.int x) := by
  cases r with
  | inl v => exact h v rfl
  | inr k => exact ⟨0, rfl⟩
theorem ro_long {f : Option Value → Prop} {r : zOut} (h : ∀ v, r = .inl v → ∃ x, v = some (.long x)) : ∃ x, ro (some (.long 0)) r = some (.long x) := by
  cases r with
  | inl v => exact h v rfl
  | inr k => exact ⟨0, rfl⟩
theorem ro_void {r : zOut} (h : ∀ v, r = .inl v → v = none) : ro none r = none := by
  cases r with
  | inl v => exact h v rfl
  | inr k => rfl
set_option maxRecDepth 100000 in
set_option maxHeartbeats 4000000 in
theorem g_key {G : zG} {ad : Nat → Nat} {d k0 n0 n i : Nat} {A : As} {M : zM} {Q : zOut → zM → Prop} (hd : 14 ≤ d) (hS : Sa ad M A n) (hT : Ta ad M A) (hn : n < 64) (hi : i + 5 ≤ gn G) (hgn : gn G ≤ 320) (hk : ∀ (M' : zM) (A' : As), Sa ad M' A' (n + 1) → Ta ad M' A' → zw G mL_law d k0 n0 Q 1254 [some (.ref ((gb G))), some (.ref ((ad 0))), some (.ref ((ad 38))), some (.ref ((ad 46))), some (.int (nI i)), none, none, none] [] M') : zw G mL_law d k0 n0 Q 132 [some (.ref ((gb G))), some (.ref ((ad 0))), some (.ref ((ad 38))), some (.ref ((ad 46))), some (.int (nI i)), none, none, none] [] M := by
  obtain ⟨hcb, hcx⟩ := hS.cb (by omega)
  have hL := hS.1.1
  refine zr_aload_n dL_law_132 rfl ?_
  refine zr_aload_n dL_law_133 rfl ?_
  refine zr_iload dL_law_134 rfl ?_
  refine zr_iconst (v := nI 1) dL_law_136 (by decide) ?_
  refine zr_iaddN dL_law_137 ?_
  refine zr_sldN dL_law_138 (by omega) hgn ?_
  refine zr_i2l dL_law_139 ?_
  refine zr_bipush (v := nI 32) dL_law_140 (by decide) ?_
  refine zr_lshl dL_law_142 ?_
  refine zr_aload_n dL_law_143 rfl ?_
  refine zr_iload dL_law_144 rfl ?_
  refine zr_iconst (v := nI 2) dL_law_146 (by decide) ?_
  refine zr_iaddN dL_law_147 ?_
  refine zr_sldN dL_law_148 (by omega) hgn ?_
  refine zr_i2l dL_law_149 ?_
  refine zr_ldc2 dL_law_150 ctL_89 ?_
  refine zr_land dL_law_153 ?_
  refine zr_lor dL_law_154 ?_
  refine zr_aload_n dL_law_155 rfl ?_
  refine zr_iload dL_law_156 rfl ?_
  refine zr_iconst (v := nI 3) dL_law_158 (by decide) ?_
  refine zr_iaddN dL_law_159 ?_
  refine zr_sldN dL_law_160 (by omega) hgn ?_
  refine zr_aload_n dL_law_161 rfl ?_
  refine zr_iload dL_law_162 rfl ?_
  refine zr_iconst (v := nI 4) dL_law_164 (by decide) ?_
  refine zr_iaddN dL_law_165 ?_
  refine zr_sldN dL_law_166 (by omega) hgn ?_
  refine zr_if_eq 174 dL_law_167 (by decide) (fun h167 => ?_) (fun h167 => ?_)
  · refine zr_iconst (v := nI 0) dL_law_174 (by decide) ?_
    refine zr_aload_n dL_law_175 rfl ?_
    refine zr_callSW (md' := mL_key) (As := [.ref ((ad 0)), .long ((((Int32.toInt64 (gx G (i + 1))) <<< (Int32.toInt64 (nI 32) &&& 63)) ||| ((Int32.toInt64 (gx G (i + 2))) &&& 4294967295))), .int ((gx G (i + 3))), .int (nI 0), .ref ((ad 46))]) dL_law_176 mlL_91 okL_key (by decide) stL_key rfl (by omega) (Nat.le_of_ble_eq_true rfl) hcb (h_key (d := d - 1) (w0 := (((Int32.toInt64 (gx G (i + 1))) <<< (Int32.toInt64 (nI 32) &&& 63)) ||| ((Int32.toInt64 (gx G (i + 2))) &&& 4294967295))) (n0 := (gx G (i + 3))) (fr := (nI 0)) (by omega) hS hn) (fun k M9 h => by cases h.1) (fun v8 M1 hq => ?_)
    obtain ⟨e0, hS1, hT1f, hj1, hj2⟩ := hq
    cases e0
    have hT1 := hT1f hT
    have hL1 := hT1.1
    have htl : tc cd1 (sKey (((Int32.toInt64 (gx G (i + 1))) <<< (Int32.toInt64 (nI 32) &&& 63)) ||| ((Int32.toInt64 (gx G (i + 2))) &&& 4294967295)) (gx G (i + 3)) (nI 0) A).2 < 2 ^ 31 := tc_lt cd1 (fun k => (cd1_3 k).1) _
    have hcb1 := (hS1.cb (by omega)).1
    refine zr_istore (lv' := [some (.ref ((gb G))), some (.ref ((ad 0))), some (.ref ((ad 38))), some (.ref ((ad 46))), some (.int (nI i)), some (.int (nI (tc cd1 (sKey (((Int32.toInt64 (gx G (i + 1))) <<< (Int32.toInt64 (nI 32) &&& 63)) ||| ((Int32.toInt64 (gx G (i + 2))) &&& 4294967295)) (gx G (i + 3)) (nI 0) A).2))), none, none]) dL_law_179 (Nat.le_of_ble_eq_true rfl) (Nat.le_of_ble_eq_true rfl) rfl rfl ?_
    refine zr_aload_n dL_law_181 rfl ?_
    refine zr_aload_n dL_law_182 rfl ?_
    refine zr_iload dL_law_183 rfl ?_
    refine zr_iconst (v := nI 1) dL_law_185 (by decide) ?_
    refine zr_iaddN dL_law_186 ?_
    refine zr_sldN dL_law_187 (by omega) hgn ?_
    refine zr_i2l dL_law_188 ?_
    refine zr_bipush (v := nI 32) dL_law_189 (by decide) ?_
    refine zr_lshl dL_law_191 ?_
    refine zr_aload_n dL_law_192 rfl ?_
    refine zr_iload dL_law_193 rfl ?_
    refine zr_iconst (v := nI 2) dL_law_195 (by decide) ?_
    refine zr_iaddN dL_law_196 ?_
    refine zr_sldN dL_law_197 (by omega) hgn ?_
    refine zr_i2l dL_law_198 ?_
    refine zr_ldc2 dL_law_199 ctL_89 ?_
    refine zr_land dL_law_202 ?_
    refine zr_lor dL_law_203 ?_
    refine zr_aload_n dL_law_204 rfl ?_
    refine zr_iload dL_law_205 rfl ?_
    refine zr_iconst (v := nI 3) dL_law_207 (by decide) ?_
    refine zr_iaddN dL_law_208 ?_
    refine zr_sldN dL_law_209 (by omega) hgn ?_
    refine zr_aload_n dL_law_210 rfl ?_
    refine zr_iload dL_law_211 rfl ?_
    refine zr_iconst (v := nI 4) dL_law_213 (by decide) ?_
    refine zr_iaddN dL_law_214 ?_
    refine zr_sldN dL_law_215 (by omega) hgn ?_
    refine zr_if_eq 223 dL_law_216 (by decide) (fun h216 => ?_) (fun h216 => absurd h167 h216)
    refine zr_iconst (v := nI 0) dL_law_223 (by decide) ?_
    refine zr_callV (md' := mX12_key) (As := [.long ((((Int32.toInt64 (gx G (i + 1))) <<< (Int32.toInt64 (nI 32) &&& 63)) ||| ((Int32.toInt64 (gx G (i + 2))) &&& 4294967295))), .int ((gx G (i + 3))), .int (nI 0)]) dL_law_224 mlL_96 okX12_key rfl inX12_key slX12_key (by decide) (hL1.K 38 13) rfl (by omega) (Nat.le_of_ble_eq_true rfl) hcb1 (b_key (d := d - 1) (w0 := (((Int32.toInt64 (gx G (i + 1))) <<< (Int32.toInt64 (nI 32) &&& 63)) ||| ((Int32.toInt64 (gx G (i + 2))) &&& 4294967295))) (n0 := (gx G (i + 3))) (fr := (nI 0)) (by omega) hcb1 hT1) (fun k M9 h => by cases h.2.2.2) (fun v9 M2 hq => ?_)
    obtain ⟨hT2, hF2, h402, e0⟩ := hq
    obtain ⟨x9, hx9⟩ := ro_int (f := fun _ => True) (fun v hv => v_sKey hv : ∀ v, (sKey (((Int32.toInt64 (gx G (i + 1))) <<< (Int32.toInt64 (nI 32) &&& 63)) ||| ((Int32.toInt64 (gx G (i + 2))) &&& 4294967295)) (gx G (i + 3)) (nI 0) A).2 = .inl v → ∃ x, v = some (.int x))
    rw [hx9] at e0
    cases e0
    have hL2 := hT2.1
    have hS2 := hS1.mdl hF2
    have hcb2 := (hS2.cb (by omega)).1
    refine zr_istore (lv' := [some (.ref ((gb G))), some (.ref ((ad 0))), some (.ref ((ad 38))), some (.ref ((ad 46))), some (.int (nI i)), some (.int (nI (tc cd1 (sKey (((Int32.toInt64 (gx G (i + 1))) <<< (Int32.toInt64 (nI 32) &&& 63)) ||| ((Int32.toInt64 (gx G (i + 2))) &&& 4294967295)) (gx G (i + 3)) (nI 0) A).2))), some (.int x9), none]) dL_law_227 (Nat.le_of_ble_eq_true rfl) (Nat.le_of_ble_eq_true rfl) rfl rfl ?_
    refine zr_aload_n dL_law_229 rfl ?_
    refine zr_callV (md' := mX12_thrown) (As := []) dL_law_230 mlL_97 okX12_thrown rfl inX12_thrown slX12_thrown (by decide) (hL2.K 38 13) rfl (by omega) (Nat.le_of_ble_eq_true rfl) hcb2 (c_thrown (d := d - 1) hcb2 hL2 h402) (fun k M1 h => by cases h.1) (fun v M9 hq => ?_)
    obtain ⟨e0, e9⟩ := hq
    cases e0
    rw [e9]
    refine zr_iload dL_law_233 rfl ?_
    refine zr_icmp_eqN 240 dL_law_235 (by decide) htl htl (fun h235 => ?_) (fun h235 => ?_)
    · refine zr_iload dL_law_240 rfl ?_
      refine zr_if_neN 257 dL_law_242 (by decide) htl (fun h242 => ?_) (fun h242 => ?_)
      · refine zr_goto 1254 dL_law_257 (by decide) ?_
        refine zr_drop 5 rfl ?_
        refine zr_drop 6 rfl ?_
        exact hk M2 _ hS2 hT2
      · refine zr_aload_n dL_law_245 rfl ?_
        refine zr_iconst (v := nI 0) dL_law_246 (by decide) ?_
        refine zr_lald dL_law_247 (hL2.K 46 17) (vin0 hL2) ?_
        refine zr_iload dL_law_248 rfl ?_
        refine zr_i2l dL_law_250 ?_
        refine zr_lcmp dL_law_251 ?_
        refine zr_if_eq 257 dL_law_252 (by decide) (fun h252 => ?_) (fun h252 => ?_)
        · refine zr_goto 1254 dL_law_257 (by decide) ?_
          refine zr_drop 5 rfl ?_
          refine zr_drop 6 rfl ?_
          exact hk M2 _ hS2 hT2
        · refine zr_iconst (v := nI 0) dL_law_255 (by decide) ?_
          refine zr_zret dL_law_256 rfl (Or.inl rfl) ?_
          exfalso
          obtain ⟨v9, hv9⟩ := tc_0 (fun k => (cd1_3 k).2) h242
          refine h252 ?_
          have e9 : v9 = some (.int x9) := by rw [hv9] at hx9; exact hx9
          rw [e9] at hv9
          have hz := hj1 x9 hv9
          have hzz : zJ M2 (ad 46) (Int32.toNatClampNeg (nI 0)) = Int32.toInt64 x9 := by rw [hF2.2.2.2.2.1]; exact hz
          rw [hzz]
          exact lg_same _
    · refine zr_iconst (v := nI 0) dL_law_238 (by decide) ?_
      refine zr_zret dL_law_239 rfl (Or.inl rfl) ?_
      exact absurd rfl h235
  · refine zr_iconst (v := nI 1) dL_law_170 (by decide) ?_
    refine zr_goto 175 dL_law_171 (by decide) ?_
    refine zr_aload_n dL_law_175 rfl ?_
    refine zr_callSW (md' := mL_key) (As := [.ref ((ad 0)), .long ((((Int32.toInt64 (gx G (i + 1))) <<< (Int32.toInt64 (nI 32) &&& 63)) ||| ((Int32.toInt64 (gx G (i + 2))) &&& 4294967295))), .int ((gx G (i + 3))), .int (nI 1), .ref ((ad 46))]) dL_law_176 mlL_91 okL_key (by decide) stL_key rfl (by omega) (Nat.le_of_ble_eq_true rfl) hcb (h_key (d := d - 1) (w0 := (((Int32.toInt64 (gx G (i + 1))) <<< (Int32.toInt64 (nI 32) &&& 63)) ||| ((Int32.toInt64 (gx G (i + 2))) &&& 4294967295))) (n0 := (gx G (i + 3))) (fr := (nI 1)) (by omega) hS hn) (fun k M9 h => by cases h.1) (fun v8 M1 hq => ?_)
    obtain ⟨e0, hS1, hT1f, hj1, hj2⟩ := hq
    cases e0
    have hT1 := hT1f hT
    have hL1 := hT1.1
    have htl : tc cd1 (sKey (((Int32.toInt64 (gx G (i + 1))) <<< (Int32.toInt64 (nI 32) &&& 63)) ||| ((Int32.toInt64 (gx G (i + 2))) &&& 4294967295)) (gx G (i + 3)) (nI 1) A).2 < 2 ^ 31 := tc_lt cd1 (fun k => (cd1_3 k).1) _
    have hcb1 := (hS1.cb (by omega)).1
    refine zr_istore (lv' := [some (.ref ((gb G))), some (.ref ((ad 0))), some (.ref ((ad 38))), some (.ref ((ad 46))), some (.int (nI i)), some (.int (nI (tc cd1 (sKey (((Int32.toInt64 (gx G (i + 1))) <<< (Int32.toInt64 (nI 32) &&& 63)) ||| ((Int32.toInt64 (gx G (i + 2))) &&& 4294967295)) (gx G (i + 3)) (nI 1) A).2))), none, none]) dL_law_179 (Nat.le_of_ble_eq_true rfl) (Nat.le_of_ble_eq_true rfl) rfl rfl ?_
    refine zr_aload_n dL_law_181 rfl ?_
    refine zr_aload_n dL_law_182 rfl ?_
    refine zr_iload dL_law_183 rfl ?_
    refine zr_iconst (v := nI 1) dL_law_185 (by decide) ?_
    refine zr_iaddN dL_law_186 ?_
    refine zr_sldN dL_law_187 (by omega) hgn ?_
    refine zr_i2l dL_law_188 ?_
    refine zr_bipush (v := nI 32) dL_law_189 (by decide) ?_
    refine zr_lshl dL_law_191 ?_
    refine zr_aload_n dL_law_192 rfl ?_
    refine zr_iload dL_law_193 rfl ?_
    refine zr_iconst (v := nI 2) dL_law_195 (by decide) ?_
    refine zr_iaddN dL_law_196 ?_
    refine zr_sldN dL_law_197 (by omega) hgn ?_
    refine zr_i2l dL_law_198 ?_
    refine zr_ldc2 dL_law_199 ctL_89 ?_
    refine zr_land dL_law_202 ?_
    refine zr_lor dL_law_203 ?_
    refine zr_aload_n dL_law_204 rfl ?_
    refine zr_iload dL_law_205 rfl ?_
    refine zr_iconst (v := nI 3) dL_law_207 (by decide) ?_
    refine zr_iaddN dL_law_208 ?_
    refine zr_sldN dL_law_209 (by omega) hgn ?_
    refine zr_aload_n dL_law_210 rfl ?_
    refine zr_iload dL_law_211 rfl ?_
    refine zr_iconst (v := nI 4) dL_law_213 (by decide) ?_
    refine zr_iaddN dL_law_214 ?_
    refine zr_sldN dL_law_215 (by omega) hgn ?_
    refine zr_if_eq 223 dL_law_216 (by decide) (fun h216 => absurd h216 h167) (fun h216 => ?_)
    refine zr_iconst (v := nI 1) dL_law_219 (by decide) ?_
    refine zr_goto 224 dL_law_220 (by decide) ?_
    refine zr_callV (md' := mX12_key) (As := [.long ((((Int32.toInt64 (gx G (i + 1))) <<< (Int32.toInt64 (nI 32) &&& 63)) ||| ((Int32.toInt64 (gx G (i + 2))) &&& 4294967295))), .int ((gx G (i + 3))), .int (nI 1)]) dL_law_224 mlL_96 okX12_key rfl inX12_key slX12_key (by decide) (hL1.K 38 13) rfl (by omega) (Nat.le_of_ble_eq_true rfl) hcb1 (b_key (d := d - 1) (w0 := (((Int32.toInt64 (gx G (i + 1))) <<< (Int32.toInt64 (nI 32) &&& 63)) ||| ((Int32.toInt64 (gx G (i + 2))) &&& 4294967295))) (n0 := (gx G (i + 3))) (fr := (nI 1)) (by omega) hcb1 hT1) (fun k M9 h => by cases h.2.2.2) (fun v9 M2 hq => ?_)
    obtain ⟨hT2, hF2, h402, e0⟩ := hq
    obtain ⟨x9, hx9⟩ := ro_int (f := fun _ => True) (fun v hv => v_sKey hv : ∀ v, (sKey (((Int32.toInt64 (gx G (i + 1))) <<< (Int32.toInt64 (nI 32) &&& 63)) ||| ((Int32.toInt64 (gx G (i + 2))) &&& 4294967295)) (gx G (i + 3)) (nI 1) A).2 = .inl v → ∃ x, v = some (.int x))
    rw [hx9] at e0
    cases e0
    have hL2 := hT2.1
    have hS2 := hS1.mdl hF2
    have hcb2 := (hS2.cb (by omega)).1
    refine zr_istore (lv' := [some (.ref ((gb G))), some (.ref ((ad 0))), some (.ref ((ad 38))), some (.ref ((ad 46))), some (.int (nI i)), some (.int (nI (tc cd1 (sKey (((Int32.toInt64 (gx G (i + 1))) <<< (Int32.toInt64 (nI 32) &&& 63)) ||| ((Int32.toInt64 (gx G (i + 2))) &&& 4294967295)) (gx G (i + 3)) (nI 1) A).2))), some (.int x9), none]) dL_law_227 (Nat.le_of_ble_eq_true rfl) (Nat.le_of_ble_eq_true rfl) rfl rfl ?_
    refine zr_aload_n dL_law_229 rfl ?_
    refine zr_callV (md' := mX12_thrown) (As := []) dL_law_230 mlL_97 okX12_thrown rfl inX12_thrown slX12_thrown (by decide) (hL2.K 38 13) rfl (by omega) (Nat.le_of_ble_eq_true rfl) hcb2 (c_thrown (d := d - 1) hcb2 hL2 h402) (fun k M1 h => by cases h.1) (fun v M9 hq => ?_)
    obtain ⟨e0, e9⟩ := hq
    cases e0
    rw [e9]
    refine zr_iload dL_law_233 rfl ?_
    refine zr_icmp_eqN 240 dL_law_235 (by decide) htl htl (fun h235 => ?_) (fun h235 => ?_)
    · refine zr_iload dL_law_240 rfl ?_
      refine zr_if_neN 257 dL_law_242 (by decide) htl (fun h242 => ?_) (fun h242 => ?_)
      · refine zr_goto 1254 dL_law_257 (by decide) ?_
        refine zr_drop 5 rfl ?_
        refine zr_drop 6 rfl ?_
        exact hk M2 _ hS2 hT2
      · refine zr_aload_n dL_law_245 rfl ?_
        refine zr_iconst (v := nI 0) dL_law_246 (by decide) ?_
        refine zr_lald dL_law_247 (hL2.K 46 17) (vin0 hL2) ?_
        refine zr_iload dL_law_248 rfl ?_
        refine zr_i2l dL_law_250 ?_
        refine zr_lcmp dL_law_251 ?_
        refine zr_if_eq 257 dL_law_252 (by decide) (fun h252 => ?_) (fun h252 => ?_)
        · refine zr_goto 1254 dL_law_257 (by decide) ?_
          refine zr_drop 5 rfl ?_
          refine zr_drop 6 rfl ?_
          exact hk M2 _ hS2 hT2
        · refine zr_iconst (v := nI 0) dL_law_255 (by decide) ?_
          refine zr_zret dL_law_256 rfl (Or.inl rfl) ?_
          exfalso
          obtain ⟨v9, hv9⟩ := tc_0 (fun k => (cd1_3 k).2) h242
          refine h252 ?_
          have e9 : v9 = some (.int x9) := by rw [hv9] at hx9; exact hx9
          rw [e9] at hv9
          have hz := hj1 x9 hv9
          have hzz : zJ M2 (ad 46) (Int32.toNatClampNeg (nI 0)) = Int32.toInt64 x9 := by rw [hF2.2.2.2.2.1]; exact hz
          rw [hzz]
          exact lg_same _
    · refine zr_iconst (v := nI 0) dL_law_238 (by decide) ?_
      refine zr_zret dL_law_239 rfl (Or.inl rfl) ?_
      exact absurd rfl h235
set_option maxRecDepth 100000 in
set_option maxHeartbeats 4000000 in
theorem g_value {G : zG} {ad : Nat → Nat} {d k0 n0 n i : Nat} {A : As} {M : zM} {Q : zOut → zM → Prop} (hd : 14 ≤ d) (hS : Sa ad M A n) (hT : Ta ad M A) (hn : n < 64) (hi : i + 5 ≤ gn G) (hgn : gn G ≤ 320) (hk : ∀ (M' : zM) (A' : As), Sa ad M' A' (n + 1) → Ta ad M' A' → zw G mL_law d k0 n0 Q 1254 [some (.ref ((gb G))), some (.ref ((ad 0))), some (.ref ((ad 38))), some (.ref ((ad 46))), some (.int (nI i)), none, none, none] [] M') : zw G mL_law d k0 n0 Q 260 [some (.ref ((gb G))), some (.ref ((ad 0))), some (.ref ((ad 38))), some (.ref ((ad 46))), some (.int (nI i)), none, none, none] [] M := by
  obtain ⟨hcb, hcx⟩ := hS.cb (by omega)
  have hL := hS.1.1
  refine zr_aload_n dL_law_260 rfl ?_
  refine zr_aload_n dL_law_261 rfl ?_
  refine zr_iload dL_law_262 rfl ?_
  refine zr_iconst (v := nI 1) dL_law_264 (by decide) ?_
  refine zr_iaddN dL_law_265 ?_
  refine zr_sldN dL_law_266 (by omega) hgn ?_
  refine zr_i2l dL_law_267 ?_
  refine zr_bipush (v := nI 32) dL_law_268 (by decide) ?_
  refine zr_lshl dL_law_270 ?_
  refine zr_aload_n dL_law_271 rfl ?_
  refine zr_iload dL_law_272 rfl ?_
  refine zr_iconst (v := nI 2) dL_law_274 (by decide) ?_
  refine zr_iaddN dL_law_275 ?_
  refine zr_sldN dL_law_276 (by omega) hgn ?_
  refine zr_i2l dL_law_277 ?_
  refine zr_ldc2 dL_law_278 ctL_89 ?_
  refine zr_land dL_law_281 ?_
  refine zr_lor dL_law_282 ?_
  refine zr_aload_n dL_law_283 rfl ?_
  refine zr_iload dL_law_284 rfl ?_
  refine zr_iconst (v := nI 3) dL_law_286 (by decide) ?_
  refine zr_iaddN dL_law_287 ?_
  refine zr_sldN dL_law_288 (by omega) hgn ?_
  refine zr_aload_n dL_law_289 rfl ?_
  refine zr_iload dL_law_290 rfl ?_
  refine zr_iconst (v := nI 4) dL_law_292 (by decide) ?_
  refine zr_iaddN dL_law_293 ?_
  refine zr_sldN dL_law_294 (by omega) hgn ?_
  refine zr_if_eq 302 dL_law_295 (by decide) (fun h295 => ?_) (fun h295 => ?_)
  · refine zr_iconst (v := nI 0) dL_law_302 (by decide) ?_
    refine zr_aload_n dL_law_303 rfl ?_
    refine zr_callSW (md' := mL_value) (As := [.ref ((ad 0)), .long ((((Int32.toInt64 (gx G (i + 1))) <<< (Int32.toInt64 (nI 32) &&& 63)) ||| ((Int32.toInt64 (gx G (i + 2))) &&& 4294967295))), .int ((gx G (i + 3))), .int (nI 0), .ref ((ad 46))]) dL_law_304 mlL_100 okL_value (by decide) stL_value rfl (by omega) (Nat.le_of_ble_eq_true rfl) hcb (h_value (d := d - 1) (w0 := (((Int32.toInt64 (gx G (i + 1))) <<< (Int32.toInt64 (nI 32) &&& 63)) ||| ((Int32.toInt64 (gx G (i + 2))) &&& 4294967295))) (n0 := (gx G (i + 3))) (fr := (nI 0)) (by omega) hS hn) (fun k M9 h => by cases h.1) (fun v8 M1 hq => ?_)
    obtain ⟨e0, hS1, hT1f, hj1, hj2⟩ := hq
    cases e0
    have hT1 := hT1f hT
    have hL1 := hT1.1
    have htl : tc cd1 (sVal (((Int32.toInt64 (gx G (i + 1))) <<< (Int32.toInt64 (nI 32) &&& 63)) ||| ((Int32.toInt64 (gx G (i + 2))) &&& 4294967295)) (gx G (i + 3)) (nI 0) A).2 < 2 ^ 31 := tc_lt cd1 (fun k => (cd1_3 k).1) _
    have hcb1 := (hS1.cb (by omega)).1
    refine zr_istore (lv' := [some (.ref ((gb G))), some (.ref ((ad 0))), some (.ref ((ad 38))), some (.ref ((ad 46))), some (.int (nI i)), some (.int (nI (tc cd1 (sVal (((Int32.toInt64 (gx G (i + 1))) <<< (Int32.toInt64 (nI 32) &&& 63)) ||| ((Int32.toInt64 (gx G (i + 2))) &&& 4294967295)) (gx G (i + 3)) (nI 0) A).2))), none, none]) dL_law_307 (Nat.le_of_ble_eq_true rfl) (Nat.le_of_ble_eq_true rfl) rfl rfl ?_
    refine zr_aload_n dL_law_309 rfl ?_
    refine zr_aload_n dL_law_310 rfl ?_
    refine zr_iload dL_law_311 rfl ?_
    refine zr_iconst (v := nI 1) dL_law_313 (by decide) ?_
    refine zr_iaddN dL_law_314 ?_
    refine zr_sldN dL_law_315 (by omega) hgn ?_
    refine zr_i2l dL_law_316 ?_
    refine zr_bipush (v := nI 32) dL_law_317 (by decide) ?_
    refine zr_lshl dL_law_319 ?_
    refine zr_aload_n dL_law_320 rfl ?_
    refine zr_iload dL_law_321 rfl ?_
    refine zr_iconst (v := nI 2) dL_law_323 (by decide) ?_
    refine zr_iaddN dL_law_324 ?_
    refine zr_sldN dL_law_325 (by omega) hgn ?_
    refine zr_i2l dL_law_326 ?_
    refine zr_ldc2 dL_law_327 ctL_89 ?_
    refine zr_land dL_law_330 ?_
    refine zr_lor dL_law_331 ?_
    refine zr_aload_n dL_law_332 rfl ?_
    refine zr_iload dL_law_333 rfl ?_
    refine zr_iconst (v := nI 3) dL_law_335 (by decide) ?_
    refine zr_iaddN dL_law_336 ?_
    refine zr_sldN dL_law_337 (by omega) hgn ?_
    refine zr_aload_n dL_law_338 rfl ?_
    refine zr_iload dL_law_339 rfl ?_
    refine zr_iconst (v := nI 4) dL_law_341 (by decide) ?_
    refine zr_iaddN dL_law_342 ?_
    refine zr_sldN dL_law_343 (by omega) hgn ?_
    refine zr_if_eq 351 dL_law_344 (by decide) (fun h344 => ?_) (fun h344 => absurd h295 h344)
    refine zr_iconst (v := nI 0) dL_law_351 (by decide) ?_
    refine zr_callV (md' := mX12_value) (As := [.long ((((Int32.toInt64 (gx G (i + 1))) <<< (Int32.toInt64 (nI 32) &&& 63)) ||| ((Int32.toInt64 (gx G (i + 2))) &&& 4294967295))), .int ((gx G (i + 3))), .int (nI 0)]) dL_law_352 mlL_102 okX12_value rfl inX12_value slX12_value (by decide) (hL1.K 38 13) rfl (by omega) (Nat.le_of_ble_eq_true rfl) hcb1 (b_value (d := d - 1) (w0 := (((Int32.toInt64 (gx G (i + 1))) <<< (Int32.toInt64 (nI 32) &&& 63)) ||| ((Int32.toInt64 (gx G (i + 2))) &&& 4294967295))) (n0 := (gx G (i + 3))) (fr := (nI 0)) (by omega) hcb1 hT1) (fun k M9 h => by cases h.2.2.2) (fun v9 M2 hq => ?_)
    obtain ⟨hT2, hF2, h402, e0⟩ := hq
    obtain ⟨x9, hx9⟩ := ro_int (f := fun _ => True) (fun v hv => v_sVal hv : ∀ v, (sVal (((Int32.toInt64 (gx G (i + 1))) <<< (Int32.toInt64 (nI 32) &&& 63)) ||| ((Int32.toInt64 (gx G (i + 2))) &&& 4294967295)) (gx G (i + 3)) (nI 0) A).2 = .inl v → ∃ x, v = some (.int x))
    rw [hx9] at e0
    cases e0
    have hL2 := hT2.1
    have hS2 := hS1.mdl hF2
    have hcb2 := (hS2.cb (by omega)).1
    refine zr_istore (lv' := [some (.ref ((gb G))), some (.ref ((ad 0))), some (.ref ((ad 38))), some (.ref ((ad 46))), some (.int (nI i)), some (.int (nI (tc cd1 (sVal (((Int32.toInt64 (gx G (i + 1))) <<< (Int32.toInt64 (nI 32) &&& 63)) ||| ((Int32.toInt64 (gx G (i + 2))) &&& 4294967295)) (gx G (i + 3)) (nI 0) A).2))), some (.int x9), none]) dL_law_355 (Nat.le_of_ble_eq_true rfl) (Nat.le_of_ble_eq_true rfl) rfl rfl ?_
    refine zr_aload_n dL_law_357 rfl ?_
    refine zr_callV (md' := mX12_thrown) (As := []) dL_law_358 mlL_97 okX12_thrown rfl inX12_thrown slX12_thrown (by decide) (hL2.K 38 13) rfl (by omega) (Nat.le_of_ble_eq_true rfl) hcb2 (c_thrown (d := d - 1) hcb2 hL2 h402) (fun k M1 h => by cases h.1) (fun v M9 hq => ?_)
    obtain ⟨e0, e9⟩ := hq
    cases e0
    rw [e9]
    refine zr_iload dL_law_361 rfl ?_
    refine zr_icmp_eqN 368 dL_law_363 (by decide) htl htl (fun h363 => ?_) (fun h363 => ?_)
    · refine zr_iload dL_law_368 rfl ?_
      refine zr_if_neN 385 dL_law_370 (by decide) htl (fun h370 => ?_) (fun h370 => ?_)
      · refine zr_goto 1254 dL_law_385 (by decide) ?_
        refine zr_drop 5 rfl ?_
        refine zr_drop 6 rfl ?_
        exact hk M2 _ hS2 hT2
      · refine zr_aload_n dL_law_373 rfl ?_
        refine zr_iconst (v := nI 0) dL_law_374 (by decide) ?_
        refine zr_lald dL_law_375 (hL2.K 46 17) (vin0 hL2) ?_
        refine zr_iload dL_law_376 rfl ?_
        refine zr_i2l dL_law_378 ?_
        refine zr_lcmp dL_law_379 ?_
        refine zr_if_eq 385 dL_law_380 (by decide) (fun h380 => ?_) (fun h380 => ?_)
        · refine zr_goto 1254 dL_law_385 (by decide) ?_
          refine zr_drop 5 rfl ?_
          refine zr_drop 6 rfl ?_
          exact hk M2 _ hS2 hT2
        · refine zr_iconst (v := nI 0) dL_law_383 (by decide) ?_
          refine zr_zret dL_law_384 rfl (Or.inl rfl) ?_
          exfalso
          obtain ⟨v9, hv9⟩ := tc_0 (fun k => (cd1_3 k).2) h370
          refine h380 ?_
          have e9 : v9 = some (.int x9) := by rw [hv9] at hx9; exact hx9
          rw [e9] at hv9
          have hz := hj1 x9 hv9
          have hzz : zJ M2 (ad 46) (Int32.toNatClampNeg (nI 0)) = Int32.toInt64 x9 := by rw [hF2.2.2.2.2.1]; exact hz
          rw [hzz]
          exact lg_same _
    · refine zr_iconst (v := nI 0) dL_law_366 (by decide) ?_
      refine zr_zret dL_law_367 rfl (Or.inl rfl) ?_
      exact absurd rfl h363
  · refine zr_iconst (v := nI 1) dL_law_298 (by decide) ?_
    refine zr_goto 303 dL_law_299 (by decide) ?_
    refine zr_aload_n dL_law_303 rfl ?_
    refine zr_callSW (md' := mL_value) (As := [.ref ((ad 0)), .long ((((Int32.toInt64 (gx G (i + 1))) <<< (Int32.toInt64 (nI 32) &&& 63)) ||| ((Int32.toInt64 (gx G (i + 2))) &&& 4294967295))), .int ((gx G (i + 3))), .int (nI 1), .ref ((ad 46))]) dL_law_304 mlL_100 okL_value (by decide) stL_value rfl (by omega) (Nat.le_of_ble_eq_true rfl) hcb (h_value (d := d - 1) (w0 := (((Int32.toInt64 (gx G (i + 1))) <<< (Int32.toInt64 (nI 32) &&& 63)) ||| ((Int32.toInt64 (gx G (i + 2))) &&& 4294967295))) (n0 := (gx G (i + 3))) (fr := (nI 1)) (by omega) hS hn) (fun k M9 h => by cases h.1) (fun v8 M1 hq => ?_)
    obtain ⟨e0, hS1, hT1f, hj1, hj2⟩ := hq
    cases e0
    have hT1 := hT1f hT
    have hL1 := hT1.1
    have htl : tc cd1 (sVal (((Int32.toInt64 (gx G (i + 1))) <<< (Int32.toInt64 (nI 32) &&& 63)) ||| ((Int32.toInt64 (gx G (i + 2))) &&& 4294967295)) (gx G (i + 3)) (nI 1) A).2 < 2 ^ 31 := tc_lt cd1 (fun k => (cd1_3 k).1) _
    have hcb1 := (hS1.cb (by omega)).1
    refine zr_istore (lv' := [some (.ref ((gb G))), some (.ref ((ad 0))), some (.ref ((ad 38))), some (.ref ((ad 46))), some (.int (nI i)), some (.int (nI (tc cd1 (sVal (((Int32.toInt64 (gx G (i + 1))) <<< (Int32.toInt64 (nI 32) &&& 63)) ||| ((Int32.toInt64 (gx G (i + 2))) &&& 4294967295)) (gx G (i + 3)) (nI 1) A).2))), none, none]) dL_law_307 (Nat.le_of_ble_eq_true rfl) (Nat.le_of_ble_eq_true rfl) rfl rfl ?_
    refine zr_aload_n dL_law_309 rfl ?_
    refine zr_aload_n dL_law_310 rfl ?_
    refine zr_iload dL_law_311 rfl ?_
    refine zr_iconst (v := nI 1) dL_law_313 (by decide) ?_
    refine zr_iaddN dL_law_314 ?_
    refine zr_sldN dL_law_315 (by omega) hgn ?_
    refine zr_i2l dL_law_316 ?_
    refine zr_bipush (v := nI 32) dL_law_317 (by decide) ?_
    refine zr_lshl dL_law_319 ?_
    refine zr_aload_n dL_law_320 rfl ?_
    refine zr_iload dL_law_321 rfl ?_
    refine zr_iconst (v := nI 2) dL_law_323 (by decide) ?_
    refine zr_iaddN dL_law_324 ?_
    refine zr_sldN dL_law_325 (by omega) hgn ?_
    refine zr_i2l dL_law_326 ?_
    refine zr_ldc2 dL_law_327 ctL_89 ?_
    refine zr_land dL_law_330 ?_
    refine zr_lor dL_law_331 ?_
    refine zr_aload_n dL_law_332 rfl ?_
    refine zr_iload dL_law_333 rfl ?_
    refine zr_iconst (v := nI 3) dL_law_335 (by decide) ?_
    refine zr_iaddN dL_law_336 ?_
    refine zr_sldN dL_law_337 (by omega) hgn ?_
    refine zr_aload_n dL_law_338 rfl ?_
    refine zr_iload dL_law_339 rfl ?_
    refine zr_iconst (v := nI 4) dL_law_341 (by decide) ?_
    refine zr_iaddN dL_law_342 ?_
    refine zr_sldN dL_law_343 (by omega) hgn ?_
    refine zr_if_eq 351 dL_law_344 (by decide) (fun h344 => absurd h344 h295) (fun h344 => ?_)
    refine zr_iconst (v := nI 1) dL_law_347 (by decide) ?_
    refine zr_goto 352 dL_law_348 (by decide) ?_
    refine zr_callV (md' := mX12_value) (As := [.long ((((Int32.toInt64 (gx G (i + 1))) <<< (Int32.toInt64 (nI 32) &&& 63)) ||| ((Int32.toInt64 (gx G (i + 2))) &&& 4294967295))), .int ((gx G (i + 3))), .int (nI 1)]) dL_law_352 mlL_102 okX12_value rfl inX12_value slX12_value (by decide) (hL1.K 38 13) rfl (by omega) (Nat.le_of_ble_eq_true rfl) hcb1 (b_value (d := d - 1) (w0 := (((Int32.toInt64 (gx G (i + 1))) <<< (Int32.toInt64 (nI 32) &&& 63)) ||| ((Int32.toInt64 (gx G (i + 2))) &&& 4294967295))) (n0 := (gx G (i + 3))) (fr := (nI 1)) (by omega) hcb1 hT1) (fun k M9 h => by cases h.2.2.2) (fun v9 M2 hq => ?_)
    obtain ⟨hT2, hF2, h402, e0⟩ := hq
    obtain ⟨x9, hx9⟩ := ro_int (f := fun _ => True) (fun v hv => v_sVal hv : ∀ v, (sVal (((Int32.toInt64 (gx G (i + 1))) <<< (Int32.toInt64 (nI 32) &&& 63)) ||| ((Int32.toInt64 (gx G (i + 2))) &&& 4294967295)) (gx G (i + 3)) (nI 1) A).2 = .inl v → ∃ x, v = some (.int x))
    rw [hx9] at e0
    cases e0
    have hL2 := hT2.1
    have hS2 := hS1.mdl hF2
    have hcb2 := (hS2.cb (by omega)).1
    refine zr_istore (lv' := [some (.ref ((gb G))), some (.ref ((ad 0))), some (.ref ((ad 38))), some (.ref ((ad 46))), some (.int (nI i)), some (.int (nI (tc cd1 (sVal (((Int32.toInt64 (gx G (i + 1))) <<< (Int32.toInt64 (nI 32) &&& 63)) ||| ((Int32.toInt64 (gx G (i + 2))) &&& 4294967295)) (gx G (i + 3)) (nI 1) A).2))), some (.int x9), none]) dL_law_355 (Nat.le_of_ble_eq_true rfl) (Nat.le_of_ble_eq_true rfl) rfl rfl ?_
    refine zr_aload_n dL_law_357 rfl ?_
    refine zr_callV (md' := mX12_thrown) (As := []) dL_law_358 mlL_97 okX12_thrown rfl inX12_thrown slX12_thrown (by decide) (hL2.K 38 13) rfl (by omega) (Nat.le_of_ble_eq_true rfl) hcb2 (c_thrown (d := d - 1) hcb2 hL2 h402) (fun k M1 h => by cases h.1) (fun v M9 hq => ?_)
    obtain ⟨e0, e9⟩ := hq
    cases e0
    rw [e9]
    refine zr_iload dL_law_361 rfl ?_
    refine zr_icmp_eqN 368 dL_law_363 (by decide) htl htl (fun h363 => ?_) (fun h363 => ?_)
    · refine zr_iload dL_law_368 rfl ?_
      refine zr_if_neN 385 dL_law_370 (by decide) htl (fun h370 => ?_) (fun h370 => ?_)
      · refine zr_goto 1254 dL_law_385 (by decide) ?_
        refine zr_drop 5 rfl ?_
        refine zr_drop 6 rfl ?_
        exact hk M2 _ hS2 hT2
      · refine zr_aload_n dL_law_373 rfl ?_
        refine zr_iconst (v := nI 0) dL_law_374 (by decide) ?_
        refine zr_lald dL_law_375 (hL2.K 46 17) (vin0 hL2) ?_
        refine zr_iload dL_law_376 rfl ?_
        refine zr_i2l dL_law_378 ?_
        refine zr_lcmp dL_law_379 ?_
        refine zr_if_eq 385 dL_law_380 (by decide) (fun h380 => ?_) (fun h380 => ?_)
        · refine zr_goto 1254 dL_law_385 (by decide) ?_
          refine zr_drop 5 rfl ?_
          refine zr_drop 6 rfl ?_
          exact hk M2 _ hS2 hT2
        · refine zr_iconst (v := nI 0) dL_law_383 (by decide) ?_
          refine zr_zret dL_law_384 rfl (Or.inl rfl) ?_
          exfalso
          obtain ⟨v9, hv9⟩ := tc_0 (fun k => (cd1_3 k).2) h370
          refine h380 ?_
          have e9 : v9 = some (.int x9) := by rw [hv9] at hx9; exact hx9
          rw [e9] at hv9
          have hz := hj1 x9 hv9
          have hzz : zJ M2 (ad 46) (Int32.toNatClampNeg (nI 0)) = Int32.toInt64 x9 := by rw [hF2.2.2.2.2.1]; exact hz
          rw [hzz]
          exact lg_same _
    · refine zr_iconst (v := nI 0) dL_law_366 (by decide) ?_
      refine zr_zret dL_law_367 rfl (Or.inl rfl) ?_
      exact absurd rfl h363
set_option maxRecDepth 100000 in
set_option maxHeartbeats 4000000 in
theorem g_begin {G : zG} {ad : Nat → Nat} {d k0 n0 n i : Nat} {A : As} {M : zM} {Q : zOut → zM → Prop} (hd : 14 ≤ d) (hS : Sa ad M A n) (hT : Ta ad M A) (hn : n < 64) (hi : i + 5 ≤ gn G) (hgn : gn G ≤ 320) (hk : ∀ (M' : zM) (A' : As), Sa ad M' A' (n + 1) → Ta ad M' A' → zw G mL_law d k0 n0 Q 1254 [some (.ref ((gb G))), some (.ref ((ad 0))), some (.ref ((ad 38))), some (.ref ((ad 46))), some (.int (nI i)), none, none, none] [] M') : zw G mL_law d k0 n0 Q 388 [some (.ref ((gb G))), some (.ref ((ad 0))), some (.ref ((ad 38))), some (.ref ((ad 46))), some (.int (nI i)), none, none, none] [] M := by
  obtain ⟨hcb, hcx⟩ := hS.cb (by omega)
  have hL := hS.1.1
  refine zr_aload_n dL_law_388 rfl ?_
  refine zr_callSW (md' := mL_begin) (As := [.ref ((ad 0))]) dL_law_389 mlL_103 okL_begin (by decide) stL_begin rfl (by omega) (Nat.le_of_ble_eq_true rfl) hcb (h_begin (d := d - 1)  (by omega) hS hn) (fun k M9 h => by cases h.1) (fun v8 M1 hq => ?_)
  obtain ⟨e0, hS1, hT1f, hj1, hj2⟩ := hq
  cases e0
  have hT1 := hT1f hT
  have hL1 := hT1.1
  have htl : tc cd1 (sBegin A).2 < 2 ^ 31 := tc_lt cd1 (fun k => (cd1_3 k).1) _
  have hcb1 := (hS1.cb (by omega)).1
  refine zr_istore (lv' := [some (.ref ((gb G))), some (.ref ((ad 0))), some (.ref ((ad 38))), some (.ref ((ad 46))), some (.int (nI i)), some (.int (nI (tc cd1 (sBegin A).2))), none, none]) dL_law_392 (Nat.le_of_ble_eq_true rfl) (Nat.le_of_ble_eq_true rfl) rfl rfl ?_
  refine zr_aload_n dL_law_394 rfl ?_
  refine zr_callV (md' := mX12_begin) (As := []) dL_law_395 mlL_106 okX12_begin rfl inX12_begin slX12_begin (by decide) (hL1.K 38 13) rfl (by omega) (Nat.le_of_ble_eq_true rfl) hcb1 (b_begin (d := d - 1)  (by omega) hcb1 hT1) (fun k M9 h => by cases h.2.2.2) (fun v9 M2 hq => ?_)
  obtain ⟨hT2, hF2, h402, e0⟩ := hq
  have hx9 := ro_void (fun v hv => v_sBegin hv : ∀ v, (sBegin A).2 = .inl v → v = none)
  rw [hx9] at e0
  cases e0
  have hL2 := hT2.1
  have hS2 := hS1.mdl hF2
  have hcb2 := (hS2.cb (by omega)).1
  refine zr_aload_n dL_law_398 rfl ?_
  refine zr_callV (md' := mX12_thrown) (As := []) dL_law_399 mlL_97 okX12_thrown rfl inX12_thrown slX12_thrown (by decide) (hL2.K 38 13) rfl (by omega) (Nat.le_of_ble_eq_true rfl) hcb2 (c_thrown (d := d - 1) hcb2 hL2 h402) (fun k M1 h => by cases h.1) (fun v M9 hq => ?_)
  obtain ⟨e0, e9⟩ := hq
  cases e0
  rw [e9]
  refine zr_iload dL_law_402 rfl ?_
  refine zr_icmp_eqN 409 dL_law_404 (by decide) htl htl (fun h404 => ?_) (fun h404 => ?_)
  · refine zr_goto 1254 dL_law_409 (by decide) ?_
    refine zr_drop 5 rfl ?_
    exact hk M2 _ hS2 hT2
  · refine zr_iconst (v := nI 0) dL_law_407 (by decide) ?_
    refine zr_zret dL_law_408 rfl (Or.inl rfl) ?_
    exact absurd rfl h404
set_option maxRecDepth 100000 in
set_option maxHeartbeats 4000000 in
theorem g_put {G : zG} {ad : Nat → Nat} {d k0 n0 n i : Nat} {A : As} {M : zM} {Q : zOut → zM → Prop} (hd : 14 ≤ d) (hS : Sa ad M A n) (hT : Ta ad M A) (hn : n < 64) (hi : i + 5 ≤ gn G) (hgn : gn G ≤ 320) (hk : ∀ (M' : zM) (A' : As), Sa ad M' A' (n + 1) → Ta ad M' A' → zw G mL_law d k0 n0 Q 1254 [some (.ref ((gb G))), some (.ref ((ad 0))), some (.ref ((ad 38))), some (.ref ((ad 46))), some (.int (nI i)), none, none, none] [] M') : zw G mL_law d k0 n0 Q 412 [some (.ref ((gb G))), some (.ref ((ad 0))), some (.ref ((ad 38))), some (.ref ((ad 46))), some (.int (nI i)), none, none, none] [] M := by
  obtain ⟨hcb, hcx⟩ := hS.cb (by omega)
  have hL := hS.1.1
  refine zr_aload_n dL_law_412 rfl ?_
  refine zr_aload_n dL_law_413 rfl ?_
  refine zr_callSW (md' := mL_put) (As := [.ref ((ad 0)), .ref ((ad 46))]) dL_law_414 mlL_107 okL_put (by decide) stL_put rfl (by omega) (Nat.le_of_ble_eq_true rfl) hcb (h_put (d := d - 1)  (by omega) hS hn) (fun k M9 h => by cases h.1) (fun v8 M1 hq => ?_)
  obtain ⟨e0, hS1, hT1f, hj1, hj2⟩ := hq
  cases e0
  have hT1 := hT1f hT
  have hL1 := hT1.1
  have htl : tc cdP (sAdd 1 A).2 < 2 ^ 31 := tc_lt cdP (fun k => (cdP_3 k).1) _
  have hcb1 := (hS1.cb (by omega)).1
  refine zr_istore (lv' := [some (.ref ((gb G))), some (.ref ((ad 0))), some (.ref ((ad 38))), some (.ref ((ad 46))), some (.int (nI i)), some (.int (nI (tc cdP (sAdd 1 A).2))), none, none]) dL_law_417 (Nat.le_of_ble_eq_true rfl) (Nat.le_of_ble_eq_true rfl) rfl rfl ?_
  refine zr_aload_n dL_law_419 rfl ?_
  refine zr_callV (md' := mX12_put) (As := []) dL_law_420 mlL_110 okX12_put rfl inX12_put slX12_put (by decide) (hL1.K 38 13) rfl (by omega) (Nat.le_of_ble_eq_true rfl) hcb1 (b_put (d := d - 1)  (by omega) hcb1 hT1 (hS.s1 hn) hS.s0 (hS.m1 hn)) (fun k M9 h => by cases h.2.2.2) (fun v9 M2 hq => ?_)
  obtain ⟨hT2, hF2, h402, e0⟩ := hq
  obtain ⟨x9, hx9⟩ := ro_int (f := fun _ => True) (fun v hv => v_sAdd hv : ∀ v, (sAdd 1 A).2 = .inl v → ∃ x, v = some (.int x))
  rw [hx9] at e0
  cases e0
  have hL2 := hT2.1
  have hS2 := hS1.mdl hF2
  have hcb2 := (hS2.cb (by omega)).1
  refine zr_istore (lv' := [some (.ref ((gb G))), some (.ref ((ad 0))), some (.ref ((ad 38))), some (.ref ((ad 46))), some (.int (nI i)), some (.int (nI (tc cdP (sAdd 1 A).2))), some (.int x9), none]) dL_law_423 (Nat.le_of_ble_eq_true rfl) (Nat.le_of_ble_eq_true rfl) rfl rfl ?_
  refine zr_aload_n dL_law_425 rfl ?_
  refine zr_callV (md' := mX12_thrown) (As := []) dL_law_426 mlL_97 okX12_thrown rfl inX12_thrown slX12_thrown (by decide) (hL2.K 38 13) rfl (by omega) (Nat.le_of_ble_eq_true rfl) hcb2 (c_thrown (d := d - 1) hcb2 hL2 h402) (fun k M1 h => by cases h.1) (fun v M9 hq => ?_)
  obtain ⟨e0, e9⟩ := hq
  cases e0
  rw [e9]
  refine zr_iload dL_law_429 rfl ?_
  refine zr_icmp_eqN 436 dL_law_431 (by decide) htl htl (fun h431 => ?_) (fun h431 => ?_)
  · refine zr_iload dL_law_436 rfl ?_
    refine zr_if_neN 453 dL_law_438 (by decide) htl (fun h438 => ?_) (fun h438 => ?_)
    · refine zr_goto 1254 dL_law_453 (by decide) ?_
      refine zr_drop 5 rfl ?_
      refine zr_drop 6 rfl ?_
      exact hk M2 _ hS2 hT2
    · refine zr_aload_n dL_law_441 rfl ?_
      refine zr_iconst (v := nI 0) dL_law_442 (by decide) ?_
      refine zr_lald dL_law_443 (hL2.K 46 17) (vin0 hL2) ?_
      refine zr_iload dL_law_444 rfl ?_
      refine zr_i2l dL_law_446 ?_
      refine zr_lcmp dL_law_447 ?_
      refine zr_if_eq 453 dL_law_448 (by decide) (fun h448 => ?_) (fun h448 => ?_)
      · refine zr_goto 1254 dL_law_453 (by decide) ?_
        refine zr_drop 5 rfl ?_
        refine zr_drop 6 rfl ?_
        exact hk M2 _ hS2 hT2
      · refine zr_iconst (v := nI 0) dL_law_451 (by decide) ?_
        refine zr_zret dL_law_452 rfl (Or.inl rfl) ?_
        exfalso
        obtain ⟨v9, hv9⟩ := tc_0 (fun k => (cdP_3 k).2) h438
        refine h448 ?_
        have e9 : v9 = some (.int x9) := by rw [hv9] at hx9; exact hx9
        rw [e9] at hv9
        have hz := hj1 x9 hv9
        have hzz : zJ M2 (ad 46) (Int32.toNatClampNeg (nI 0)) = Int32.toInt64 x9 := by rw [hF2.2.2.2.2.1]; exact hz
        rw [hzz]
        exact lg_same _
  · refine zr_iconst (v := nI 0) dL_law_434 (by decide) ?_
    refine zr_zret dL_law_435 rfl (Or.inl rfl) ?_
    exact absurd rfl h431
set_option maxRecDepth 100000 in
set_option maxHeartbeats 4000000 in
theorem g_remove {G : zG} {ad : Nat → Nat} {d k0 n0 n i : Nat} {A : As} {M : zM} {Q : zOut → zM → Prop} (hd : 14 ≤ d) (hS : Sa ad M A n) (hT : Ta ad M A) (hn : n < 64) (hi : i + 5 ≤ gn G) (hgn : gn G ≤ 320) (hk : ∀ (M' : zM) (A' : As), Sa ad M' A' (n + 1) → Ta ad M' A' → zw G mL_law d k0 n0 Q 1254 [some (.ref ((gb G))), some (.ref ((ad 0))), some (.ref ((ad 38))), some (.ref ((ad 46))), some (.int (nI i)), none, none, none] [] M') : zw G mL_law d k0 n0 Q 456 [some (.ref ((gb G))), some (.ref ((ad 0))), some (.ref ((ad 38))), some (.ref ((ad 46))), some (.int (nI i)), none, none, none] [] M := by
  obtain ⟨hcb, hcx⟩ := hS.cb (by omega)
  have hL := hS.1.1
  refine zr_aload_n dL_law_456 rfl ?_
  refine zr_aload_n dL_law_457 rfl ?_
  refine zr_callSW (md' := mL_remove) (As := [.ref ((ad 0)), .ref ((ad 46))]) dL_law_458 mlL_111 okL_remove (by decide) stL_remove rfl (by omega) (Nat.le_of_ble_eq_true rfl) hcb (h_remove (d := d - 1)  (by omega) hS hn) (fun k M9 h => by cases h.1) (fun v8 M1 hq => ?_)
  obtain ⟨e0, hS1, hT1f, hj1, hj2⟩ := hq
  cases e0
  have hT1 := hT1f hT
  have hL1 := hT1.1
  have htl : tc cdP (sAdd 2 A).2 < 2 ^ 31 := tc_lt cdP (fun k => (cdP_3 k).1) _
  have hcb1 := (hS1.cb (by omega)).1
  refine zr_istore (lv' := [some (.ref ((gb G))), some (.ref ((ad 0))), some (.ref ((ad 38))), some (.ref ((ad 46))), some (.int (nI i)), some (.int (nI (tc cdP (sAdd 2 A).2))), none, none]) dL_law_461 (Nat.le_of_ble_eq_true rfl) (Nat.le_of_ble_eq_true rfl) rfl rfl ?_
  refine zr_aload_n dL_law_463 rfl ?_
  refine zr_callV (md' := mX12_remove) (As := []) dL_law_464 mlL_113 okX12_remove rfl inX12_remove slX12_remove (by decide) (hL1.K 38 13) rfl (by omega) (Nat.le_of_ble_eq_true rfl) hcb1 (b_remove (d := d - 1)  (by omega) hcb1 hT1 (hS.s1 hn) hS.s0 (hS.m1 hn)) (fun k M9 h => by cases h.2.2.2) (fun v9 M2 hq => ?_)
  obtain ⟨hT2, hF2, h402, e0⟩ := hq
  obtain ⟨x9, hx9⟩ := ro_int (f := fun _ => True) (fun v hv => v_sAdd hv : ∀ v, (sAdd 2 A).2 = .inl v → ∃ x, v = some (.int x))
  rw [hx9] at e0
  cases e0
  have hL2 := hT2.1
  have hS2 := hS1.mdl hF2
  have hcb2 := (hS2.cb (by omega)).1
  refine zr_istore (lv' := [some (.ref ((gb G))), some (.ref ((ad 0))), some (.ref ((ad 38))), some (.ref ((ad 46))), some (.int (nI i)), some (.int (nI (tc cdP (sAdd 2 A).2))), some (.int x9), none]) dL_law_467 (Nat.le_of_ble_eq_true rfl) (Nat.le_of_ble_eq_true rfl) rfl rfl ?_
  refine zr_aload_n dL_law_469 rfl ?_
  refine zr_callV (md' := mX12_thrown) (As := []) dL_law_470 mlL_97 okX12_thrown rfl inX12_thrown slX12_thrown (by decide) (hL2.K 38 13) rfl (by omega) (Nat.le_of_ble_eq_true rfl) hcb2 (c_thrown (d := d - 1) hcb2 hL2 h402) (fun k M1 h => by cases h.1) (fun v M9 hq => ?_)
  obtain ⟨e0, e9⟩ := hq
  cases e0
  rw [e9]
  refine zr_iload dL_law_473 rfl ?_
  refine zr_icmp_eqN 480 dL_law_475 (by decide) htl htl (fun h475 => ?_) (fun h475 => ?_)
  · refine zr_iload dL_law_480 rfl ?_
    refine zr_if_neN 497 dL_law_482 (by decide) htl (fun h482 => ?_) (fun h482 => ?_)
    · refine zr_goto 1254 dL_law_497 (by decide) ?_
      refine zr_drop 5 rfl ?_
      refine zr_drop 6 rfl ?_
      exact hk M2 _ hS2 hT2
    · refine zr_aload_n dL_law_485 rfl ?_
      refine zr_iconst (v := nI 0) dL_law_486 (by decide) ?_
      refine zr_lald dL_law_487 (hL2.K 46 17) (vin0 hL2) ?_
      refine zr_iload dL_law_488 rfl ?_
      refine zr_i2l dL_law_490 ?_
      refine zr_lcmp dL_law_491 ?_
      refine zr_if_eq 497 dL_law_492 (by decide) (fun h492 => ?_) (fun h492 => ?_)
      · refine zr_goto 1254 dL_law_497 (by decide) ?_
        refine zr_drop 5 rfl ?_
        refine zr_drop 6 rfl ?_
        exact hk M2 _ hS2 hT2
      · refine zr_iconst (v := nI 0) dL_law_495 (by decide) ?_
        refine zr_zret dL_law_496 rfl (Or.inl rfl) ?_
        exfalso
        obtain ⟨v9, hv9⟩ := tc_0 (fun k => (cdP_3 k).2) h482
        refine h492 ?_
        have e9 : v9 = some (.int x9) := by rw [hv9] at hx9; exact hx9
        rw [e9] at hv9
        have hz := hj1 x9 hv9
        have hzz : zJ M2 (ad 46) (Int32.toNatClampNeg (nI 0)) = Int32.toInt64 x9 := by rw [hF2.2.2.2.2.1]; exact hz
        rw [hzz]
        exact lg_same _
  · refine zr_iconst (v := nI 0) dL_law_478 (by decide) ?_
    refine zr_zret dL_law_479 rfl (Or.inl rfl) ?_
    exact absurd rfl h475
set_option maxRecDepth 100000 in
set_option maxHeartbeats 4000000 in
theorem g_commit {G : zG} {ad : Nat → Nat} {d k0 n0 n i : Nat} {A : As} {M : zM} {Q : zOut → zM → Prop} (hd : 14 ≤ d) (hS : Sa ad M A n) (hT : Ta ad M A) (hn : n < 64) (hi : i + 5 ≤ gn G) (hgn : gn G ≤ 320) (hk : ∀ (M' : zM) (A' : As), Sa ad M' A' (n + 1) → Ta ad M' A' → zw G mL_law d k0 n0 Q 1254 [some (.ref ((gb G))), some (.ref ((ad 0))), some (.ref ((ad 38))), some (.ref ((ad 46))), some (.int (nI i)), none, none, none] [] M') : zw G mL_law d k0 n0 Q 500 [some (.ref ((gb G))), some (.ref ((ad 0))), some (.ref ((ad 38))), some (.ref ((ad 46))), some (.int (nI i)), none, none, none] [] M := by
  obtain ⟨hcb, hcx⟩ := hS.cb (by omega)
  have hL := hS.1.1
  refine zr_aload_n dL_law_500 rfl ?_
  refine zr_aload_n dL_law_501 rfl ?_
  refine zr_callSW (md' := mL_commit) (As := [.ref ((ad 0)), .ref ((ad 46))]) dL_law_502 mlL_114 okL_commit (by decide) stL_commit rfl (by omega) (Nat.le_of_ble_eq_true rfl) hcb (h_commit (d := d - 1)  (by omega) hS hn) (fun k M9 h => by cases h.1) (fun v8 M1 hq => ?_)
  obtain ⟨e0, hS1, hT1f, hj1, hj2⟩ := hq
  cases e0
  have hT1 := hT1f hT
  have hL1 := hT1.1
  have htl : tc cdW (sCommit A).2 < 2 ^ 31 := tc_lt cdW (fun k => (cdW_3 k).1) _
  have hcb1 := (hS1.cb (by omega)).1
  refine zr_istore (lv' := [some (.ref ((gb G))), some (.ref ((ad 0))), some (.ref ((ad 38))), some (.ref ((ad 46))), some (.int (nI i)), some (.int (nI (tc cdW (sCommit A).2))), none, none]) dL_law_505 (Nat.le_of_ble_eq_true rfl) (Nat.le_of_ble_eq_true rfl) rfl rfl ?_
  refine zr_aload_n dL_law_507 rfl ?_
  refine zr_callV (md' := mX12_commit) (As := []) dL_law_508 mlL_116 okX12_commit rfl inX12_commit slX12_commit (by decide) (hL1.K 38 13) rfl (by omega) (Nat.le_of_ble_eq_true rfl) hcb1 (b_commit (d := d - 1)  (by omega) hcb1 hT1 (hS.mc hn)) (fun k M9 h => by cases h.2.2.2) (fun v9 M2 hq => ?_)
  obtain ⟨hT2, hF2, h402, e0⟩ := hq
  obtain ⟨x9, hx9⟩ := ro_int (f := fun _ => True) (fun v hv => v_sCommit hv : ∀ v, (sCommit A).2 = .inl v → ∃ x, v = some (.int x))
  rw [hx9] at e0
  cases e0
  have hL2 := hT2.1
  have hS2 := hS1.mdl hF2
  have hcb2 := (hS2.cb (by omega)).1
  refine zr_istore (lv' := [some (.ref ((gb G))), some (.ref ((ad 0))), some (.ref ((ad 38))), some (.ref ((ad 46))), some (.int (nI i)), some (.int (nI (tc cdW (sCommit A).2))), some (.int x9), none]) dL_law_511 (Nat.le_of_ble_eq_true rfl) (Nat.le_of_ble_eq_true rfl) rfl rfl ?_
  refine zr_aload_n dL_law_513 rfl ?_
  refine zr_callV (md' := mX12_thrown) (As := []) dL_law_514 mlL_97 okX12_thrown rfl inX12_thrown slX12_thrown (by decide) (hL2.K 38 13) rfl (by omega) (Nat.le_of_ble_eq_true rfl) hcb2 (c_thrown (d := d - 1) hcb2 hL2 h402) (fun k M1 h => by cases h.1) (fun v M9 hq => ?_)
  obtain ⟨e0, e9⟩ := hq
  cases e0
  rw [e9]
  refine zr_iload dL_law_517 rfl ?_
  refine zr_icmp_eqN 524 dL_law_519 (by decide) htl htl (fun h519 => ?_) (fun h519 => ?_)
  · refine zr_iload dL_law_524 rfl ?_
    refine zr_if_neN 541 dL_law_526 (by decide) htl (fun h526 => ?_) (fun h526 => ?_)
    · refine zr_goto 1254 dL_law_541 (by decide) ?_
      refine zr_drop 5 rfl ?_
      refine zr_drop 6 rfl ?_
      exact hk M2 _ hS2 hT2
    · refine zr_aload_n dL_law_529 rfl ?_
      refine zr_iconst (v := nI 0) dL_law_530 (by decide) ?_
      refine zr_lald dL_law_531 (hL2.K 46 17) (vin0 hL2) ?_
      refine zr_iload dL_law_532 rfl ?_
      refine zr_i2l dL_law_534 ?_
      refine zr_lcmp dL_law_535 ?_
      refine zr_if_eq 541 dL_law_536 (by decide) (fun h536 => ?_) (fun h536 => ?_)
      · refine zr_goto 1254 dL_law_541 (by decide) ?_
        refine zr_drop 5 rfl ?_
        refine zr_drop 6 rfl ?_
        exact hk M2 _ hS2 hT2
      · refine zr_iconst (v := nI 0) dL_law_539 (by decide) ?_
        refine zr_zret dL_law_540 rfl (Or.inl rfl) ?_
        exfalso
        obtain ⟨v9, hv9⟩ := tc_0 (fun k => (cdW_3 k).2) h526
        refine h536 ?_
        have e9 : v9 = some (.int x9) := by rw [hv9] at hx9; exact hx9
        rw [e9] at hv9
        have hz := hj1 x9 hv9
        have hzz : zJ M2 (ad 46) (Int32.toNatClampNeg (nI 0)) = Int32.toInt64 x9 := by rw [hF2.2.2.2.2.1]; exact hz
        rw [hzz]
        exact lg_same _
  · refine zr_iconst (v := nI 0) dL_law_522 (by decide) ?_
    refine zr_zret dL_law_523 rfl (Or.inl rfl) ?_
    exact absurd rfl h519
set_option maxRecDepth 100000 in
set_option maxHeartbeats 4000000 in
theorem g_cancel {G : zG} {ad : Nat → Nat} {d k0 n0 n i : Nat} {A : As} {M : zM} {Q : zOut → zM → Prop} (hd : 14 ≤ d) (hS : Sa ad M A n) (hT : Ta ad M A) (hn : n < 64) (hi : i + 5 ≤ gn G) (hgn : gn G ≤ 320) (hk : ∀ (M' : zM) (A' : As), Sa ad M' A' (n + 1) → Ta ad M' A' → zw G mL_law d k0 n0 Q 1254 [some (.ref ((gb G))), some (.ref ((ad 0))), some (.ref ((ad 38))), some (.ref ((ad 46))), some (.int (nI i)), none, none, none] [] M') : zw G mL_law d k0 n0 Q 544 [some (.ref ((gb G))), some (.ref ((ad 0))), some (.ref ((ad 38))), some (.ref ((ad 46))), some (.int (nI i)), none, none, none] [] M := by
  obtain ⟨hcb, hcx⟩ := hS.cb (by omega)
  have hL := hS.1.1
  refine zr_aload_n dL_law_544 rfl ?_
  refine zr_aload_n dL_law_545 rfl ?_
  refine zr_callSW (md' := mL_cancel) (As := [.ref ((ad 0)), .ref ((ad 46))]) dL_law_546 mlL_117 okL_cancel (by decide) stL_cancel rfl (by omega) (Nat.le_of_ble_eq_true rfl) hcb (h_cancel (d := d - 1)  (by omega) hS hn) (fun k M9 h => by cases h.1) (fun v8 M1 hq => ?_)
  obtain ⟨e0, hS1, hT1f, hj1, hj2⟩ := hq
  cases e0
  have hT1 := hT1f hT
  have hL1 := hT1.1
  have htl : tc cd1 (sCancel A).2 < 2 ^ 31 := tc_lt cd1 (fun k => (cd1_3 k).1) _
  have hcb1 := (hS1.cb (by omega)).1
  refine zr_istore (lv' := [some (.ref ((gb G))), some (.ref ((ad 0))), some (.ref ((ad 38))), some (.ref ((ad 46))), some (.int (nI i)), some (.int (nI (tc cd1 (sCancel A).2))), none, none]) dL_law_549 (Nat.le_of_ble_eq_true rfl) (Nat.le_of_ble_eq_true rfl) rfl rfl ?_
  refine zr_aload_n dL_law_551 rfl ?_
  refine zr_callV (md' := mX12_cancel) (As := []) dL_law_552 mlL_119 okX12_cancel rfl inX12_cancel slX12_cancel (by decide) (hL1.K 38 13) rfl (by omega) (Nat.le_of_ble_eq_true rfl) hcb1 (b_cancel (d := d - 1)  (by omega) hcb1 hT1) (fun k M9 h => by cases h.2.2.2) (fun v9 M2 hq => ?_)
  obtain ⟨hT2, hF2, h402, e0⟩ := hq
  obtain ⟨x9, hx9⟩ := ro_int (f := fun _ => True) (fun v hv => v_sCancel hv : ∀ v, (sCancel A).2 = .inl v → ∃ x, v = some (.int x))
  rw [hx9] at e0
  cases e0
  have hL2 := hT2.1
  have hS2 := hS1.mdl hF2
  have hcb2 := (hS2.cb (by omega)).1
  refine zr_istore (lv' := [some (.ref ((gb G))), some (.ref ((ad 0))), some (.ref ((ad 38))), some (.ref ((ad 46))), some (.int (nI i)), some (.int (nI (tc cd1 (sCancel A).2))), some (.int x9), none]) dL_law_555 (Nat.le_of_ble_eq_true rfl) (Nat.le_of_ble_eq_true rfl) rfl rfl ?_
  refine zr_aload_n dL_law_557 rfl ?_
  refine zr_callV (md' := mX12_thrown) (As := []) dL_law_558 mlL_97 okX12_thrown rfl inX12_thrown slX12_thrown (by decide) (hL2.K 38 13) rfl (by omega) (Nat.le_of_ble_eq_true rfl) hcb2 (c_thrown (d := d - 1) hcb2 hL2 h402) (fun k M1 h => by cases h.1) (fun v M9 hq => ?_)
  obtain ⟨e0, e9⟩ := hq
  cases e0
  rw [e9]
  refine zr_iload dL_law_561 rfl ?_
  refine zr_icmp_eqN 568 dL_law_563 (by decide) htl htl (fun h563 => ?_) (fun h563 => ?_)
  · refine zr_iload dL_law_568 rfl ?_
    refine zr_if_neN 585 dL_law_570 (by decide) htl (fun h570 => ?_) (fun h570 => ?_)
    · refine zr_goto 1254 dL_law_585 (by decide) ?_
      refine zr_drop 5 rfl ?_
      refine zr_drop 6 rfl ?_
      exact hk M2 _ hS2 hT2
    · refine zr_aload_n dL_law_573 rfl ?_
      refine zr_iconst (v := nI 0) dL_law_574 (by decide) ?_
      refine zr_lald dL_law_575 (hL2.K 46 17) (vin0 hL2) ?_
      refine zr_iload dL_law_576 rfl ?_
      refine zr_i2l dL_law_578 ?_
      refine zr_lcmp dL_law_579 ?_
      refine zr_if_eq 585 dL_law_580 (by decide) (fun h580 => ?_) (fun h580 => ?_)
      · refine zr_goto 1254 dL_law_585 (by decide) ?_
        refine zr_drop 5 rfl ?_
        refine zr_drop 6 rfl ?_
        exact hk M2 _ hS2 hT2
      · refine zr_iconst (v := nI 0) dL_law_583 (by decide) ?_
        refine zr_zret dL_law_584 rfl (Or.inl rfl) ?_
        exfalso
        obtain ⟨v9, hv9⟩ := tc_0 (fun k => (cd1_3 k).2) h570
        refine h580 ?_
        have e9 : v9 = some (.int x9) := by rw [hv9] at hx9; exact hx9
        rw [e9] at hv9
        have hz := hj1 x9 hv9
        have hzz : zJ M2 (ad 46) (Int32.toNatClampNeg (nI 0)) = Int32.toInt64 x9 := by rw [hF2.2.2.2.2.1]; exact hz
        rw [hzz]
        exact lg_same _
  · refine zr_iconst (v := nI 0) dL_law_566 (by decide) ?_
    refine zr_zret dL_law_567 rfl (Or.inl rfl) ?_
    exact absurd rfl h563
set_option maxRecDepth 100000 in
set_option maxHeartbeats 4000000 in
theorem g_snapshot {G : zG} {ad : Nat → Nat} {d k0 n0 n i : Nat} {A : As} {M : zM} {Q : zOut → zM → Prop} (hd : 14 ≤ d) (hS : Sa ad M A n) (hT : Ta ad M A) (hn : n < 64) (hi : i + 5 ≤ gn G) (hgn : gn G ≤ 320) (hk : ∀ (M' : zM) (A' : As), Sa ad M' A' (n + 1) → Ta ad M' A' → zw G mL_law d k0 n0 Q 1254 [some (.ref ((gb G))), some (.ref ((ad 0))), some (.ref ((ad 38))), some (.ref ((ad 46))), some (.int (nI i)), none, none, none] [] M') : zw G mL_law d k0 n0 Q 588 [some (.ref ((gb G))), some (.ref ((ad 0))), some (.ref ((ad 38))), some (.ref ((ad 46))), some (.int (nI i)), none, none, none] [] M := by
  obtain ⟨hcb, hcx⟩ := hS.cb (by omega)
  have hL := hS.1.1
  refine zr_aload_n dL_law_588 rfl ?_
  refine zr_aload_n dL_law_589 rfl ?_
  refine zr_callSW (md' := mL_snapshot) (As := [.ref ((ad 0)), .ref ((ad 46))]) dL_law_590 mlL_120 okL_snapshot (by decide) stL_snapshot rfl (by omega) (Nat.le_of_ble_eq_true rfl) hcb (h_snapshot (d := d - 1)  (by omega) hS hn) (fun k M9 h => by cases h.1) (fun v8 M1 hq => ?_)
  obtain ⟨e0, hS1, hT1f, hj1, hj2⟩ := hq
  cases e0
  have hT1 := hT1f hT
  have hL1 := hT1.1
  have htl : tc cd1 (sSnap A).2 < 2 ^ 31 := tc_lt cd1 (fun k => (cd1_3 k).1) _
  have hcb1 := (hS1.cb (by omega)).1
  refine zr_istore (lv' := [some (.ref ((gb G))), some (.ref ((ad 0))), some (.ref ((ad 38))), some (.ref ((ad 46))), some (.int (nI i)), some (.int (nI (tc cd1 (sSnap A).2))), none, none]) dL_law_593 (Nat.le_of_ble_eq_true rfl) (Nat.le_of_ble_eq_true rfl) rfl rfl ?_
  refine zr_aload_n dL_law_595 rfl ?_
  refine zr_callV (md' := mX12_snapshot) (As := []) dL_law_596 mlL_122 okX12_snapshot rfl inX12_snapshot slX12_snapshot (by decide) (hL1.K 38 13) rfl (by omega) (Nat.le_of_ble_eq_true rfl) hcb1 (b_snapshot (d := d - 1)  (by omega) hcb1 hT1) (fun k M9 h => by cases h.2.2.2) (fun v9 M2 hq => ?_)
  obtain ⟨hT2, hF2, h402, e0⟩ := hq
  obtain ⟨x9, hx9⟩ := ro_int (f := fun _ => True) (fun v hv => v_sSnap hv : ∀ v, (sSnap A).2 = .inl v → ∃ x, v = some (.int x))
  rw [hx9] at e0
  cases e0
  have hL2 := hT2.1
  have hS2 := hS1.mdl hF2
  have hcb2 := (hS2.cb (by omega)).1
  refine zr_istore (lv' := [some (.ref ((gb G))), some (.ref ((ad 0))), some (.ref ((ad 38))), some (.ref ((ad 46))), some (.int (nI i)), some (.int (nI (tc cd1 (sSnap A).2))), some (.int x9), none]) dL_law_599 (Nat.le_of_ble_eq_true rfl) (Nat.le_of_ble_eq_true rfl) rfl rfl ?_
  refine zr_aload_n dL_law_601 rfl ?_
  refine zr_callV (md' := mX12_thrown) (As := []) dL_law_602 mlL_97 okX12_thrown rfl inX12_thrown slX12_thrown (by decide) (hL2.K 38 13) rfl (by omega) (Nat.le_of_ble_eq_true rfl) hcb2 (c_thrown (d := d - 1) hcb2 hL2 h402) (fun k M1 h => by cases h.1) (fun v M9 hq => ?_)
  obtain ⟨e0, e9⟩ := hq
  cases e0
  rw [e9]
  refine zr_iload dL_law_605 rfl ?_
  refine zr_icmp_eqN 612 dL_law_607 (by decide) htl htl (fun h607 => ?_) (fun h607 => ?_)
  · refine zr_iload dL_law_612 rfl ?_
    refine zr_if_neN 629 dL_law_614 (by decide) htl (fun h614 => ?_) (fun h614 => ?_)
    · refine zr_goto 1254 dL_law_629 (by decide) ?_
      refine zr_drop 5 rfl ?_
      refine zr_drop 6 rfl ?_
      exact hk M2 _ hS2 hT2
    · refine zr_aload_n dL_law_617 rfl ?_
      refine zr_iconst (v := nI 0) dL_law_618 (by decide) ?_
      refine zr_lald dL_law_619 (hL2.K 46 17) (vin0 hL2) ?_
      refine zr_iload dL_law_620 rfl ?_
      refine zr_i2l dL_law_622 ?_
      refine zr_lcmp dL_law_623 ?_
      refine zr_if_eq 629 dL_law_624 (by decide) (fun h624 => ?_) (fun h624 => ?_)
      · refine zr_goto 1254 dL_law_629 (by decide) ?_
        refine zr_drop 5 rfl ?_
        refine zr_drop 6 rfl ?_
        exact hk M2 _ hS2 hT2
      · refine zr_iconst (v := nI 0) dL_law_627 (by decide) ?_
        refine zr_zret dL_law_628 rfl (Or.inl rfl) ?_
        exfalso
        obtain ⟨v9, hv9⟩ := tc_0 (fun k => (cd1_3 k).2) h614
        refine h624 ?_
        have e9 : v9 = some (.int x9) := by rw [hv9] at hx9; exact hx9
        rw [e9] at hv9
        have hz := hj1 x9 hv9
        have hzz : zJ M2 (ad 46) (Int32.toNatClampNeg (nI 0)) = Int32.toInt64 x9 := by rw [hF2.2.2.2.2.1]; exact hz
        rw [hzz]
        exact lg_same _
  · refine zr_iconst (v := nI 0) dL_law_610 (by decide) ?_
    refine zr_zret dL_law_611 rfl (Or.inl rfl) ?_
    exact absurd rfl h607
set_option maxRecDepth 100000 in
set_option maxHeartbeats 4000000 in
theorem g_release {G : zG} {ad : Nat → Nat} {d k0 n0 n i : Nat} {A : As} {M : zM} {Q : zOut → zM → Prop} (hd : 14 ≤ d) (hS : Sa ad M A n) (hT : Ta ad M A) (hn : n < 64) (hi : i + 5 ≤ gn G) (hgn : gn G ≤ 320) (hk : ∀ (M' : zM) (A' : As), Sa ad M' A' (n + 1) → Ta ad M' A' → zw G mL_law d k0 n0 Q 1254 [some (.ref ((gb G))), some (.ref ((ad 0))), some (.ref ((ad 38))), some (.ref ((ad 46))), some (.int (nI i)), none, none, none] [] M') : zw G mL_law d k0 n0 Q 632 [some (.ref ((gb G))), some (.ref ((ad 0))), some (.ref ((ad 38))), some (.ref ((ad 46))), some (.int (nI i)), none, none, none] [] M := by
  obtain ⟨hcb, hcx⟩ := hS.cb (by omega)
  have hL := hS.1.1
  refine zr_aload_n dL_law_632 rfl ?_
  refine zr_aload_n dL_law_633 rfl ?_
  refine zr_iload dL_law_634 rfl ?_
  refine zr_iconst (v := nI 1) dL_law_636 (by decide) ?_
  refine zr_iaddN dL_law_637 ?_
  refine zr_sldN dL_law_638 (by omega) hgn ?_
  refine zr_callSW (md' := mL_release) (As := [.ref ((ad 0)), .int ((gx G (i + 1)))]) dL_law_639 mlL_123 okL_release (by decide) stL_release rfl (by omega) (Nat.le_of_ble_eq_true rfl) hcb (h_release (d := d - 1) (s0 := (gx G (i + 1))) (by omega) hS hn) (fun k M9 h => by cases h.1) (fun v8 M1 hq => ?_)
  obtain ⟨e0, hS1, hT1f, hj1, hj2⟩ := hq
  cases e0
  have hT1 := hT1f hT
  have hL1 := hT1.1
  have htl : tc cdW (sRel (gx G (i + 1)) A).2 < 2 ^ 31 := tc_lt cdW (fun k => (cdW_3 k).1) _
  have hcb1 := (hS1.cb (by omega)).1
  refine zr_istore (lv' := [some (.ref ((gb G))), some (.ref ((ad 0))), some (.ref ((ad 38))), some (.ref ((ad 46))), some (.int (nI i)), some (.int (nI (tc cdW (sRel (gx G (i + 1)) A).2))), none, none]) dL_law_642 (Nat.le_of_ble_eq_true rfl) (Nat.le_of_ble_eq_true rfl) rfl rfl ?_
  refine zr_aload_n dL_law_644 rfl ?_
  refine zr_aload_n dL_law_645 rfl ?_
  refine zr_iload dL_law_646 rfl ?_
  refine zr_iconst (v := nI 1) dL_law_648 (by decide) ?_
  refine zr_iaddN dL_law_649 ?_
  refine zr_sldN dL_law_650 (by omega) hgn ?_
  refine zr_callV (md' := mX12_release) (As := [.int ((gx G (i + 1)))]) dL_law_651 mlL_126 okX12_release rfl inX12_release slX12_release (by decide) (hL1.K 38 13) rfl (by omega) (Nat.le_of_ble_eq_true rfl) hcb1 (b_release (d := d - 1) (s0 := (gx G (i + 1))) (by omega) hcb1 hT1) (fun k M9 h => by cases h.2.2.2) (fun v9 M2 hq => ?_)
  obtain ⟨hT2, hF2, h402, e0⟩ := hq
  have hx9 := ro_void (fun v hv => v_sRel hv : ∀ v, (sRel (gx G (i + 1)) A).2 = .inl v → v = none)
  rw [hx9] at e0
  cases e0
  have hL2 := hT2.1
  have hS2 := hS1.mdl hF2
  have hcb2 := (hS2.cb (by omega)).1
  refine zr_aload_n dL_law_654 rfl ?_
  refine zr_callV (md' := mX12_thrown) (As := []) dL_law_655 mlL_97 okX12_thrown rfl inX12_thrown slX12_thrown (by decide) (hL2.K 38 13) rfl (by omega) (Nat.le_of_ble_eq_true rfl) hcb2 (c_thrown (d := d - 1) hcb2 hL2 h402) (fun k M1 h => by cases h.1) (fun v M9 hq => ?_)
  obtain ⟨e0, e9⟩ := hq
  cases e0
  rw [e9]
  refine zr_iload dL_law_658 rfl ?_
  refine zr_icmp_eqN 665 dL_law_660 (by decide) htl htl (fun h660 => ?_) (fun h660 => ?_)
  · refine zr_goto 1254 dL_law_665 (by decide) ?_
    refine zr_drop 5 rfl ?_
    exact hk M2 _ hS2 hT2
  · refine zr_iconst (v := nI 0) dL_law_663 (by decide) ?_
    refine zr_zret dL_law_664 rfl (Or.inl rfl) ?_
    exact absurd rfl h660
set_option maxRecDepth 100000 in
set_option maxHeartbeats 4000000 in
theorem g_get {G : zG} {ad : Nat → Nat} {d k0 n0 n i : Nat} {A : As} {M : zM} {Q : zOut → zM → Prop} (hd : 14 ≤ d) (hS : Sa ad M A n) (hT : Ta ad M A) (hn : n < 64) (hi : i + 5 ≤ gn G) (hgn : gn G ≤ 320) (hk : ∀ (M' : zM) (A' : As), Sa ad M' A' (n + 1) → Ta ad M' A' → zw G mL_law d k0 n0 Q 1254 [some (.ref ((gb G))), some (.ref ((ad 0))), some (.ref ((ad 38))), some (.ref ((ad 46))), some (.int (nI i)), none, none, none] [] M') : zw G mL_law d k0 n0 Q 668 [some (.ref ((gb G))), some (.ref ((ad 0))), some (.ref ((ad 38))), some (.ref ((ad 46))), some (.int (nI i)), none, none, none] [] M := by
  obtain ⟨hcb, hcx⟩ := hS.cb (by omega)
  have hL := hS.1.1
  refine zr_aload_n dL_law_668 rfl ?_
  refine zr_aload_n dL_law_669 rfl ?_
  refine zr_iload dL_law_670 rfl ?_
  refine zr_iconst (v := nI 1) dL_law_672 (by decide) ?_
  refine zr_iaddN dL_law_673 ?_
  refine zr_sldN dL_law_674 (by omega) hgn ?_
  refine zr_aload_n dL_law_675 rfl ?_
  refine zr_callSW (md' := mL_get) (As := [.ref ((ad 0)), .int ((gx G (i + 1))), .ref ((ad 46))]) dL_law_676 mlL_127 okL_get (by decide) stL_get rfl (by omega) (Nat.le_of_ble_eq_true rfl) hcb (h_get (d := d - 1) (s0 := (gx G (i + 1))) (by omega) hS hn) (fun k M9 h => by cases h.1) (fun v8 M1 hq => ?_)
  obtain ⟨e0, hS1, hT1f, hj1, hj2⟩ := hq
  cases e0
  have hT1 := hT1f hT
  have hL1 := hT1.1
  have htl : tc cdW (sGet (gx G (i + 1)) A).2 < 2 ^ 31 := tc_lt cdW (fun k => (cdW_3 k).1) _
  have hcb1 := (hS1.cb (by omega)).1
  refine zr_istore (lv' := [some (.ref ((gb G))), some (.ref ((ad 0))), some (.ref ((ad 38))), some (.ref ((ad 46))), some (.int (nI i)), some (.int (nI (tc cdW (sGet (gx G (i + 1)) A).2))), none, none]) dL_law_679 (Nat.le_of_ble_eq_true rfl) (Nat.le_of_ble_eq_true rfl) rfl rfl ?_
  refine zr_aload_n dL_law_681 rfl ?_
  refine zr_aload_n dL_law_682 rfl ?_
  refine zr_iload dL_law_683 rfl ?_
  refine zr_iconst (v := nI 1) dL_law_685 (by decide) ?_
  refine zr_iaddN dL_law_686 ?_
  refine zr_sldN dL_law_687 (by omega) hgn ?_
  refine zr_callV (md' := mX12_get) (As := [.int ((gx G (i + 1)))]) dL_law_688 mlL_130 okX12_get rfl inX12_get slX12_get (by decide) (hL1.K 38 13) rfl (by omega) (Nat.le_of_ble_eq_true rfl) hcb1 (b_get (d := d - 1) (s0 := (gx G (i + 1))) (by omega) hcb1 hT1) (fun k M9 h => by cases h.2.2.2) (fun v9 M2 hq => ?_)
  obtain ⟨hT2, hF2, h402, e0⟩ := hq
  obtain ⟨x9, hx9⟩ := ro_int (f := fun _ => True) (fun v hv => v_sGet hv : ∀ v, (sGet (gx G (i + 1)) A).2 = .inl v → ∃ x, v = some (.int x))
  rw [hx9] at e0
  cases e0
  have hL2 := hT2.1
  have hS2 := hS1.mdl hF2
  have hcb2 := (hS2.cb (by omega)).1
  refine zr_istore (lv' := [some (.ref ((gb G))), some (.ref ((ad 0))), some (.ref ((ad 38))), some (.ref ((ad 46))), some (.int (nI i)), some (.int (nI (tc cdW (sGet (gx G (i + 1)) A).2))), some (.int x9), none]) dL_law_691 (Nat.le_of_ble_eq_true rfl) (Nat.le_of_ble_eq_true rfl) rfl rfl ?_
  refine zr_aload_n dL_law_693 rfl ?_
  refine zr_callV (md' := mX12_thrown) (As := []) dL_law_694 mlL_97 okX12_thrown rfl inX12_thrown slX12_thrown (by decide) (hL2.K 38 13) rfl (by omega) (Nat.le_of_ble_eq_true rfl) hcb2 (c_thrown (d := d - 1) hcb2 hL2 h402) (fun k M1 h => by cases h.1) (fun v M9 hq => ?_)
  obtain ⟨e0, e9⟩ := hq
  cases e0
  rw [e9]
  refine zr_iload dL_law_697 rfl ?_
  refine zr_icmp_eqN 704 dL_law_699 (by decide) htl htl (fun h699 => ?_) (fun h699 => ?_)
  · refine zr_iload dL_law_704 rfl ?_
    refine zr_if_neN 721 dL_law_706 (by decide) htl (fun h706 => ?_) (fun h706 => ?_)
    · refine zr_goto 1254 dL_law_721 (by decide) ?_
      refine zr_drop 5 rfl ?_
      refine zr_drop 6 rfl ?_
      exact hk M2 _ hS2 hT2
    · refine zr_aload_n dL_law_709 rfl ?_
      refine zr_iconst (v := nI 0) dL_law_710 (by decide) ?_
      refine zr_lald dL_law_711 (hL2.K 46 17) (vin0 hL2) ?_
      refine zr_iload dL_law_712 rfl ?_
      refine zr_i2l dL_law_714 ?_
      refine zr_lcmp dL_law_715 ?_
      refine zr_if_eq 721 dL_law_716 (by decide) (fun h716 => ?_) (fun h716 => ?_)
      · refine zr_goto 1254 dL_law_721 (by decide) ?_
        refine zr_drop 5 rfl ?_
        refine zr_drop 6 rfl ?_
        exact hk M2 _ hS2 hT2
      · refine zr_iconst (v := nI 0) dL_law_719 (by decide) ?_
        refine zr_zret dL_law_720 rfl (Or.inl rfl) ?_
        exfalso
        obtain ⟨v9, hv9⟩ := tc_0 (fun k => (cdW_3 k).2) h706
        refine h716 ?_
        have e9 : v9 = some (.int x9) := by rw [hv9] at hx9; exact hx9
        rw [e9] at hv9
        have hz := hj1 x9 hv9
        have hzz : zJ M2 (ad 46) (Int32.toNatClampNeg (nI 0)) = Int32.toInt64 x9 := by rw [hF2.2.2.2.2.1]; exact hz
        rw [hzz]
        exact lg_same _
  · refine zr_iconst (v := nI 0) dL_law_702 (by decide) ?_
    refine zr_zret dL_law_703 rfl (Or.inl rfl) ?_
    exact absurd rfl h699
set_option maxRecDepth 100000 in
set_option maxHeartbeats 4000000 in
theorem g_seek {G : zG} {ad : Nat → Nat} {d k0 n0 n i : Nat} {A : As} {M : zM} {Q : zOut → zM → Prop} (hd : 14 ≤ d) (hS : Sa ad M A n) (hT : Ta ad M A) (hn : n < 64) (hi : i + 5 ≤ gn G) (hgn : gn G ≤ 320) (hk : ∀ (M' : zM) (A' : As), Sa ad M' A' (n + 1) → Ta ad M' A' → zw G mL_law d k0 n0 Q 1254 [some (.ref ((gb G))), some (.ref ((ad 0))), some (.ref ((ad 38))), some (.ref ((ad 46))), some (.int (nI i)), none, none, none] [] M') : zw G mL_law d k0 n0 Q 724 [some (.ref ((gb G))), some (.ref ((ad 0))), some (.ref ((ad 38))), some (.ref ((ad 46))), some (.int (nI i)), none, none, none] [] M := by
  obtain ⟨hcb, hcx⟩ := hS.cb (by omega)
  have hL := hS.1.1
  refine zr_aload_n dL_law_724 rfl ?_
  refine zr_aload_n dL_law_725 rfl ?_
  refine zr_iload dL_law_726 rfl ?_
  refine zr_iconst (v := nI 1) dL_law_728 (by decide) ?_
  refine zr_iaddN dL_law_729 ?_
  refine zr_sldN dL_law_730 (by omega) hgn ?_
  refine zr_aload_n dL_law_731 rfl ?_
  refine zr_iload dL_law_732 rfl ?_
  refine zr_iconst (v := nI 2) dL_law_734 (by decide) ?_
  refine zr_iaddN dL_law_735 ?_
  refine zr_sldN dL_law_736 (by omega) hgn ?_
  refine zr_if_eq 744 dL_law_737 (by decide) (fun h737 => ?_) (fun h737 => ?_)
  · refine zr_iconst (v := nI 0) dL_law_744 (by decide) ?_
    refine zr_aload_n dL_law_745 rfl ?_
    refine zr_callSW (md' := mL_seek) (As := [.ref ((ad 0)), .int ((gx G (i + 1))), .int (nI 0), .ref ((ad 46))]) dL_law_746 mlL_131 okL_seek (by decide) stL_seek rfl (by omega) (Nat.le_of_ble_eq_true rfl) hcb (h_seek (d := d - 1) (s0 := (gx G (i + 1))) (bh := (nI 0)) (by omega) hS hn) (fun k M9 h => by cases h.1) (fun v8 M1 hq => ?_)
    obtain ⟨e0, hS1, hT1f, hj1, hj2⟩ := hq
    cases e0
    have hT1 := hT1f hT
    have hL1 := hT1.1
    have htl : tc cdW (sSeek (gx G (i + 1)) (nI 0) A).2 < 2 ^ 31 := tc_lt cdW (fun k => (cdW_3 k).1) _
    have hcb1 := (hS1.cb (by omega)).1
    refine zr_istore (lv' := [some (.ref ((gb G))), some (.ref ((ad 0))), some (.ref ((ad 38))), some (.ref ((ad 46))), some (.int (nI i)), some (.int (nI (tc cdW (sSeek (gx G (i + 1)) (nI 0) A).2))), none, none]) dL_law_749 (Nat.le_of_ble_eq_true rfl) (Nat.le_of_ble_eq_true rfl) rfl rfl ?_
    refine zr_aload_n dL_law_751 rfl ?_
    refine zr_aload_n dL_law_752 rfl ?_
    refine zr_iload dL_law_753 rfl ?_
    refine zr_iconst (v := nI 1) dL_law_755 (by decide) ?_
    refine zr_iaddN dL_law_756 ?_
    refine zr_sldN dL_law_757 (by omega) hgn ?_
    refine zr_aload_n dL_law_758 rfl ?_
    refine zr_iload dL_law_759 rfl ?_
    refine zr_iconst (v := nI 2) dL_law_761 (by decide) ?_
    refine zr_iaddN dL_law_762 ?_
    refine zr_sldN dL_law_763 (by omega) hgn ?_
    refine zr_if_eq 771 dL_law_764 (by decide) (fun h764 => ?_) (fun h764 => absurd h737 h764)
    refine zr_iconst (v := nI 0) dL_law_771 (by decide) ?_
    refine zr_callV (md' := mX12_seek) (As := [.int ((gx G (i + 1))), .int (nI 0)]) dL_law_772 mlL_134 okX12_seek rfl inX12_seek slX12_seek (by decide) (hL1.K 38 13) rfl (by omega) (Nat.le_of_ble_eq_true rfl) hcb1 (b_seek (d := d - 1) (s0 := (gx G (i + 1))) (bh := (nI 0)) (by omega) hcb1 hT1) (fun k M9 h => by cases h.2.2.2) (fun v9 M2 hq => ?_)
    obtain ⟨hT2, hF2, h402, e0⟩ := hq
    obtain ⟨x9, hx9⟩ := ro_int (f := fun _ => True) (fun v hv => v_sSeek hv : ∀ v, (sSeek (gx G (i + 1)) (nI 0) A).2 = .inl v → ∃ x, v = some (.int x))
    rw [hx9] at e0
    cases e0
    have hL2 := hT2.1
    have hS2 := hS1.mdl hF2
    have hcb2 := (hS2.cb (by omega)).1
    refine zr_istore (lv' := [some (.ref ((gb G))), some (.ref ((ad 0))), some (.ref ((ad 38))), some (.ref ((ad 46))), some (.int (nI i)), some (.int (nI (tc cdW (sSeek (gx G (i + 1)) (nI 0) A).2))), some (.int x9), none]) dL_law_775 (Nat.le_of_ble_eq_true rfl) (Nat.le_of_ble_eq_true rfl) rfl rfl ?_
    refine zr_aload_n dL_law_777 rfl ?_
    refine zr_callV (md' := mX12_thrown) (As := []) dL_law_778 mlL_97 okX12_thrown rfl inX12_thrown slX12_thrown (by decide) (hL2.K 38 13) rfl (by omega) (Nat.le_of_ble_eq_true rfl) hcb2 (c_thrown (d := d - 1) hcb2 hL2 h402) (fun k M1 h => by cases h.1) (fun v M9 hq => ?_)
    obtain ⟨e0, e9⟩ := hq
    cases e0
    rw [e9]
    refine zr_iload dL_law_781 rfl ?_
    refine zr_icmp_eqN 788 dL_law_783 (by decide) htl htl (fun h783 => ?_) (fun h783 => ?_)
    · refine zr_iload dL_law_788 rfl ?_
      refine zr_if_neN 805 dL_law_790 (by decide) htl (fun h790 => ?_) (fun h790 => ?_)
      · refine zr_goto 1254 dL_law_805 (by decide) ?_
        refine zr_drop 5 rfl ?_
        refine zr_drop 6 rfl ?_
        exact hk M2 _ hS2 hT2
      · refine zr_aload_n dL_law_793 rfl ?_
        refine zr_iconst (v := nI 0) dL_law_794 (by decide) ?_
        refine zr_lald dL_law_795 (hL2.K 46 17) (vin0 hL2) ?_
        refine zr_iload dL_law_796 rfl ?_
        refine zr_i2l dL_law_798 ?_
        refine zr_lcmp dL_law_799 ?_
        refine zr_if_eq 805 dL_law_800 (by decide) (fun h800 => ?_) (fun h800 => ?_)
        · refine zr_goto 1254 dL_law_805 (by decide) ?_
          refine zr_drop 5 rfl ?_
          refine zr_drop 6 rfl ?_
          exact hk M2 _ hS2 hT2
        · refine zr_iconst (v := nI 0) dL_law_803 (by decide) ?_
          refine zr_zret dL_law_804 rfl (Or.inl rfl) ?_
          exfalso
          obtain ⟨v9, hv9⟩ := tc_0 (fun k => (cdW_3 k).2) h790
          refine h800 ?_
          have e9 : v9 = some (.int x9) := by rw [hv9] at hx9; exact hx9
          rw [e9] at hv9
          have hz := hj1 x9 hv9
          have hzz : zJ M2 (ad 46) (Int32.toNatClampNeg (nI 0)) = Int32.toInt64 x9 := by rw [hF2.2.2.2.2.1]; exact hz
          rw [hzz]
          exact lg_same _
    · refine zr_iconst (v := nI 0) dL_law_786 (by decide) ?_
      refine zr_zret dL_law_787 rfl (Or.inl rfl) ?_
      exact absurd rfl h783
  · refine zr_iconst (v := nI 1) dL_law_740 (by decide) ?_
    refine zr_goto 745 dL_law_741 (by decide) ?_
    refine zr_aload_n dL_law_745 rfl ?_
    refine zr_callSW (md' := mL_seek) (As := [.ref ((ad 0)), .int ((gx G (i + 1))), .int (nI 1), .ref ((ad 46))]) dL_law_746 mlL_131 okL_seek (by decide) stL_seek rfl (by omega) (Nat.le_of_ble_eq_true rfl) hcb (h_seek (d := d - 1) (s0 := (gx G (i + 1))) (bh := (nI 1)) (by omega) hS hn) (fun k M9 h => by cases h.1) (fun v8 M1 hq => ?_)
    obtain ⟨e0, hS1, hT1f, hj1, hj2⟩ := hq
    cases e0
    have hT1 := hT1f hT
    have hL1 := hT1.1
    have htl : tc cdW (sSeek (gx G (i + 1)) (nI 1) A).2 < 2 ^ 31 := tc_lt cdW (fun k => (cdW_3 k).1) _
    have hcb1 := (hS1.cb (by omega)).1
    refine zr_istore (lv' := [some (.ref ((gb G))), some (.ref ((ad 0))), some (.ref ((ad 38))), some (.ref ((ad 46))), some (.int (nI i)), some (.int (nI (tc cdW (sSeek (gx G (i + 1)) (nI 1) A).2))), none, none]) dL_law_749 (Nat.le_of_ble_eq_true rfl) (Nat.le_of_ble_eq_true rfl) rfl rfl ?_
    refine zr_aload_n dL_law_751 rfl ?_
    refine zr_aload_n dL_law_752 rfl ?_
    refine zr_iload dL_law_753 rfl ?_
    refine zr_iconst (v := nI 1) dL_law_755 (by decide) ?_
    refine zr_iaddN dL_law_756 ?_
    refine zr_sldN dL_law_757 (by omega) hgn ?_
    refine zr_aload_n dL_law_758 rfl ?_
    refine zr_iload dL_law_759 rfl ?_
    refine zr_iconst (v := nI 2) dL_law_761 (by decide) ?_
    refine zr_iaddN dL_law_762 ?_
    refine zr_sldN dL_law_763 (by omega) hgn ?_
    refine zr_if_eq 771 dL_law_764 (by decide) (fun h764 => absurd h764 h737) (fun h764 => ?_)
    refine zr_iconst (v := nI 1) dL_law_767 (by decide) ?_
    refine zr_goto 772 dL_law_768 (by decide) ?_
    refine zr_callV (md' := mX12_seek) (As := [.int ((gx G (i + 1))), .int (nI 1)]) dL_law_772 mlL_134 okX12_seek rfl inX12_seek slX12_seek (by decide) (hL1.K 38 13) rfl (by omega) (Nat.le_of_ble_eq_true rfl) hcb1 (b_seek (d := d - 1) (s0 := (gx G (i + 1))) (bh := (nI 1)) (by omega) hcb1 hT1) (fun k M9 h => by cases h.2.2.2) (fun v9 M2 hq => ?_)
    obtain ⟨hT2, hF2, h402, e0⟩ := hq
    obtain ⟨x9, hx9⟩ := ro_int (f := fun _ => True) (fun v hv => v_sSeek hv : ∀ v, (sSeek (gx G (i + 1)) (nI 1) A).2 = .inl v → ∃ x, v = some (.int x))
    rw [hx9] at e0
    cases e0
    have hL2 := hT2.1
    have hS2 := hS1.mdl hF2
    have hcb2 := (hS2.cb (by omega)).1
    refine zr_istore (lv' := [some (.ref ((gb G))), some (.ref ((ad 0))), some (.ref ((ad 38))), some (.ref ((ad 46))), some (.int (nI i)), some (.int (nI (tc cdW (sSeek (gx G (i + 1)) (nI 1) A).2))), some (.int x9), none]) dL_law_775 (Nat.le_of_ble_eq_true rfl) (Nat.le_of_ble_eq_true rfl) rfl rfl ?_
    refine zr_aload_n dL_law_777 rfl ?_
    refine zr_callV (md' := mX12_thrown) (As := []) dL_law_778 mlL_97 okX12_thrown rfl inX12_thrown slX12_thrown (by decide) (hL2.K 38 13) rfl (by omega) (Nat.le_of_ble_eq_true rfl) hcb2 (c_thrown (d := d - 1) hcb2 hL2 h402) (fun k M1 h => by cases h.1) (fun v M9 hq => ?_)
    obtain ⟨e0, e9⟩ := hq
    cases e0
    rw [e9]
    refine zr_iload dL_law_781 rfl ?_
    refine zr_icmp_eqN 788 dL_law_783 (by decide) htl htl (fun h783 => ?_) (fun h783 => ?_)
    · refine zr_iload dL_law_788 rfl ?_
      refine zr_if_neN 805 dL_law_790 (by decide) htl (fun h790 => ?_) (fun h790 => ?_)
      · refine zr_goto 1254 dL_law_805 (by decide) ?_
        refine zr_drop 5 rfl ?_
        refine zr_drop 6 rfl ?_
        exact hk M2 _ hS2 hT2
      · refine zr_aload_n dL_law_793 rfl ?_
        refine zr_iconst (v := nI 0) dL_law_794 (by decide) ?_
        refine zr_lald dL_law_795 (hL2.K 46 17) (vin0 hL2) ?_
        refine zr_iload dL_law_796 rfl ?_
        refine zr_i2l dL_law_798 ?_
        refine zr_lcmp dL_law_799 ?_
        refine zr_if_eq 805 dL_law_800 (by decide) (fun h800 => ?_) (fun h800 => ?_)
        · refine zr_goto 1254 dL_law_805 (by decide) ?_
          refine zr_drop 5 rfl ?_
          refine zr_drop 6 rfl ?_
          exact hk M2 _ hS2 hT2
        · refine zr_iconst (v := nI 0) dL_law_803 (by decide) ?_
          refine zr_zret dL_law_804 rfl (Or.inl rfl) ?_
          exfalso
          obtain ⟨v9, hv9⟩ := tc_0 (fun k => (cdW_3 k).2) h790
          refine h800 ?_
          have e9 : v9 = some (.int x9) := by rw [hv9] at hx9; exact hx9
          rw [e9] at hv9
          have hz := hj1 x9 hv9
          have hzz : zJ M2 (ad 46) (Int32.toNatClampNeg (nI 0)) = Int32.toInt64 x9 := by rw [hF2.2.2.2.2.1]; exact hz
          rw [hzz]
          exact lg_same _
    · refine zr_iconst (v := nI 0) dL_law_786 (by decide) ?_
      refine zr_zret dL_law_787 rfl (Or.inl rfl) ?_
      exact absurd rfl h783
set_option maxRecDepth 100000 in
set_option maxHeartbeats 4000000 in
theorem g_before {G : zG} {ad : Nat → Nat} {d k0 n0 n i : Nat} {A : As} {M : zM} {Q : zOut → zM → Prop} (hd : 14 ≤ d) (hS : Sa ad M A n) (hT : Ta ad M A) (hn : n < 64) (hi : i + 5 ≤ gn G) (hgn : gn G ≤ 320) (hk : ∀ (M' : zM) (A' : As), Sa ad M' A' (n + 1) → Ta ad M' A' → zw G mL_law d k0 n0 Q 1254 [some (.ref ((gb G))), some (.ref ((ad 0))), some (.ref ((ad 38))), some (.ref ((ad 46))), some (.int (nI i)), none, none, none] [] M') : zw G mL_law d k0 n0 Q 808 [some (.ref ((gb G))), some (.ref ((ad 0))), some (.ref ((ad 38))), some (.ref ((ad 46))), some (.int (nI i)), none, none, none] [] M := by
  obtain ⟨hcb, hcx⟩ := hS.cb (by omega)
  have hL := hS.1.1
  refine zr_aload_n dL_law_808 rfl ?_
  refine zr_aload_n dL_law_809 rfl ?_
  refine zr_iload dL_law_810 rfl ?_
  refine zr_iconst (v := nI 1) dL_law_812 (by decide) ?_
  refine zr_iaddN dL_law_813 ?_
  refine zr_sldN dL_law_814 (by omega) hgn ?_
  refine zr_aload_n dL_law_815 rfl ?_
  refine zr_callSW (md' := mL_before) (As := [.ref ((ad 0)), .int ((gx G (i + 1))), .ref ((ad 46))]) dL_law_816 mlL_135 okL_before (by decide) stL_before rfl (by omega) (Nat.le_of_ble_eq_true rfl) hcb (h_before (d := d - 1) (s0 := (gx G (i + 1))) (by omega) hS hn) (fun k M9 h => by cases h.1) (fun v8 M1 hq => ?_)
  obtain ⟨e0, hS1, hT1f, hj1, hj2⟩ := hq
  cases e0
  have hT1 := hT1f hT
  have hL1 := hT1.1
  have htl : tc cdW (sBef (gx G (i + 1)) A).2 < 2 ^ 31 := tc_lt cdW (fun k => (cdW_3 k).1) _
  have hcb1 := (hS1.cb (by omega)).1
  refine zr_istore (lv' := [some (.ref ((gb G))), some (.ref ((ad 0))), some (.ref ((ad 38))), some (.ref ((ad 46))), some (.int (nI i)), some (.int (nI (tc cdW (sBef (gx G (i + 1)) A).2))), none, none]) dL_law_819 (Nat.le_of_ble_eq_true rfl) (Nat.le_of_ble_eq_true rfl) rfl rfl ?_
  refine zr_aload_n dL_law_821 rfl ?_
  refine zr_aload_n dL_law_822 rfl ?_
  refine zr_iload dL_law_823 rfl ?_
  refine zr_iconst (v := nI 1) dL_law_825 (by decide) ?_
  refine zr_iaddN dL_law_826 ?_
  refine zr_sldN dL_law_827 (by omega) hgn ?_
  refine zr_callV (md' := mX12_before) (As := [.int ((gx G (i + 1)))]) dL_law_828 mlL_137 okX12_before rfl inX12_before slX12_before (by decide) (hL1.K 38 13) rfl (by omega) (Nat.le_of_ble_eq_true rfl) hcb1 (b_before (d := d - 1) (s0 := (gx G (i + 1))) (by omega) hcb1 hT1) (fun k M9 h => by cases h.2.2.2) (fun v9 M2 hq => ?_)
  obtain ⟨hT2, hF2, h402, e0⟩ := hq
  obtain ⟨x9, hx9⟩ := ro_int (f := fun _ => True) (fun v hv => v_sBef hv : ∀ v, (sBef (gx G (i + 1)) A).2 = .inl v → ∃ x, v = some (.int x))
  rw [hx9] at e0
  cases e0
  have hL2 := hT2.1
  have hS2 := hS1.mdl hF2
  have hcb2 := (hS2.cb (by omega)).1
  refine zr_istore (lv' := [some (.ref ((gb G))), some (.ref ((ad 0))), some (.ref ((ad 38))), some (.ref ((ad 46))), some (.int (nI i)), some (.int (nI (tc cdW (sBef (gx G (i + 1)) A).2))), some (.int x9), none]) dL_law_831 (Nat.le_of_ble_eq_true rfl) (Nat.le_of_ble_eq_true rfl) rfl rfl ?_
  refine zr_aload_n dL_law_833 rfl ?_
  refine zr_callV (md' := mX12_thrown) (As := []) dL_law_834 mlL_97 okX12_thrown rfl inX12_thrown slX12_thrown (by decide) (hL2.K 38 13) rfl (by omega) (Nat.le_of_ble_eq_true rfl) hcb2 (c_thrown (d := d - 1) hcb2 hL2 h402) (fun k M1 h => by cases h.1) (fun v M9 hq => ?_)
  obtain ⟨e0, e9⟩ := hq
  cases e0
  rw [e9]
  refine zr_iload dL_law_837 rfl ?_
  refine zr_icmp_eqN 844 dL_law_839 (by decide) htl htl (fun h839 => ?_) (fun h839 => ?_)
  · refine zr_iload dL_law_844 rfl ?_
    refine zr_if_neN 861 dL_law_846 (by decide) htl (fun h846 => ?_) (fun h846 => ?_)
    · refine zr_goto 1254 dL_law_861 (by decide) ?_
      refine zr_drop 5 rfl ?_
      refine zr_drop 6 rfl ?_
      exact hk M2 _ hS2 hT2
    · refine zr_aload_n dL_law_849 rfl ?_
      refine zr_iconst (v := nI 0) dL_law_850 (by decide) ?_
      refine zr_lald dL_law_851 (hL2.K 46 17) (vin0 hL2) ?_
      refine zr_iload dL_law_852 rfl ?_
      refine zr_i2l dL_law_854 ?_
      refine zr_lcmp dL_law_855 ?_
      refine zr_if_eq 861 dL_law_856 (by decide) (fun h856 => ?_) (fun h856 => ?_)
      · refine zr_goto 1254 dL_law_861 (by decide) ?_
        refine zr_drop 5 rfl ?_
        refine zr_drop 6 rfl ?_
        exact hk M2 _ hS2 hT2
      · refine zr_iconst (v := nI 0) dL_law_859 (by decide) ?_
        refine zr_zret dL_law_860 rfl (Or.inl rfl) ?_
        exfalso
        obtain ⟨v9, hv9⟩ := tc_0 (fun k => (cdW_3 k).2) h846
        refine h856 ?_
        have e9 : v9 = some (.int x9) := by rw [hv9] at hx9; exact hx9
        rw [e9] at hv9
        have hz := hj1 x9 hv9
        have hzz : zJ M2 (ad 46) (Int32.toNatClampNeg (nI 0)) = Int32.toInt64 x9 := by rw [hF2.2.2.2.2.1]; exact hz
        rw [hzz]
        exact lg_same _
  · refine zr_iconst (v := nI 0) dL_law_842 (by decide) ?_
    refine zr_zret dL_law_843 rfl (Or.inl rfl) ?_
    exact absurd rfl h839
set_option maxRecDepth 100000 in
set_option maxHeartbeats 4000000 in
theorem g_bytes {G : zG} {ad : Nat → Nat} {d k0 n0 n i : Nat} {A : As} {M : zM} {Q : zOut → zM → Prop} (hd : 14 ≤ d) (hS : Sa ad M A n) (hT : Ta ad M A) (hn : n < 64) (hi : i + 5 ≤ gn G) (hgn : gn G ≤ 320) (hk : ∀ (M' : zM) (A' : As), Sa ad M' A' (n + 1) → Ta ad M' A' → zw G mL_law d k0 n0 Q 1254 [some (.ref ((gb G))), some (.ref ((ad 0))), some (.ref ((ad 38))), some (.ref ((ad 46))), some (.int (nI i)), none, none, none] [] M') : zw G mL_law d k0 n0 Q 864 [some (.ref ((gb G))), some (.ref ((ad 0))), some (.ref ((ad 38))), some (.ref ((ad 46))), some (.int (nI i)), none, none, none] [] M := by
  obtain ⟨hcb, hcx⟩ := hS.cb (by omega)
  have hL := hS.1.1
  refine zr_aload_n dL_law_864 rfl ?_
  refine zr_aload_n dL_law_865 rfl ?_
  refine zr_iload dL_law_866 rfl ?_
  refine zr_iconst (v := nI 1) dL_law_868 (by decide) ?_
  refine zr_iaddN dL_law_869 ?_
  refine zr_sldN dL_law_870 (by omega) hgn ?_
  refine zr_if_eq 878 dL_law_871 (by decide) (fun h871 => ?_) (fun h871 => ?_)
  · refine zr_iconst (v := nI 0) dL_law_878 (by decide) ?_
    refine zr_aload_n dL_law_879 rfl ?_
    refine zr_iload dL_law_880 rfl ?_
    refine zr_iconst (v := nI 2) dL_law_882 (by decide) ?_
    refine zr_iaddN dL_law_883 ?_
    refine zr_sldN dL_law_884 (by omega) hgn ?_
    refine zr_aload_n dL_law_885 rfl ?_
    refine zr_callSW (md' := mL_bytes) (As := [.ref ((ad 0)), .int (nI 0), .int ((gx G (i + 2))), .ref ((ad 46))]) dL_law_886 mlL_138 okL_bytes (by decide) stL_bytes rfl (by omega) (Nat.le_of_ble_eq_true rfl) hcb (h_bytes (d := d - 1) (vl := (nI 0)) (at0 := (gx G (i + 2))) (by omega) hS hn) (fun k M9 h => by cases h.1) (fun v8 M1 hq => ?_)
    obtain ⟨e0, hS1, hT1f, hj1, hj2⟩ := hq
    cases e0
    have hT1 := hT1f hT
    have hL1 := hT1.1
    have htl : tc cd1 (sBytes (nI 0) (gx G (i + 2)) A).2 < 2 ^ 31 := tc_lt cd1 (fun k => (cd1_3 k).1) _
    have hcb1 := (hS1.cb (by omega)).1
    refine zr_istore (lv' := [some (.ref ((gb G))), some (.ref ((ad 0))), some (.ref ((ad 38))), some (.ref ((ad 46))), some (.int (nI i)), some (.int (nI (tc cd1 (sBytes (nI 0) (gx G (i + 2)) A).2))), none, none]) dL_law_889 (Nat.le_of_ble_eq_true rfl) (Nat.le_of_ble_eq_true rfl) rfl rfl ?_
    refine zr_aload_n dL_law_891 rfl ?_
    refine zr_aload_n dL_law_892 rfl ?_
    refine zr_iload dL_law_893 rfl ?_
    refine zr_iconst (v := nI 1) dL_law_895 (by decide) ?_
    refine zr_iaddN dL_law_896 ?_
    refine zr_sldN dL_law_897 (by omega) hgn ?_
    refine zr_if_eq 905 dL_law_898 (by decide) (fun h898 => ?_) (fun h898 => absurd h871 h898)
    refine zr_iconst (v := nI 0) dL_law_905 (by decide) ?_
    refine zr_aload_n dL_law_906 rfl ?_
    refine zr_iload dL_law_907 rfl ?_
    refine zr_iconst (v := nI 2) dL_law_909 (by decide) ?_
    refine zr_iaddN dL_law_910 ?_
    refine zr_sldN dL_law_911 (by omega) hgn ?_
    refine zr_callV (md' := mX12_bytes) (As := [.int (nI 0), .int ((gx G (i + 2)))]) dL_law_912 mlL_141 okX12_bytes rfl inX12_bytes slX12_bytes (by decide) (hL1.K 38 13) rfl (by omega) (Nat.le_of_ble_eq_true rfl) hcb1 (b_bytes (d := d - 1) (vl := (nI 0)) (at0 := (gx G (i + 2))) (by omega) hcb1 hT1) (fun k M9 h => by cases h.2.2.2) (fun v9 M2 hq => ?_)
    obtain ⟨hT2, hF2, h402, e0⟩ := hq
    obtain ⟨x9, hx9⟩ := ro_long (f := fun _ => True) (fun v hv => v_sBytes hv : ∀ v, (sBytes (nI 0) (gx G (i + 2)) A).2 = .inl v → ∃ x, v = some (.long x))
    rw [hx9] at e0
    cases e0
    have hL2 := hT2.1
    have hS2 := hS1.mdl hF2
    have hcb2 := (hS2.cb (by omega)).1
    refine zr_lstore (lv' := [some (.ref ((gb G))), some (.ref ((ad 0))), some (.ref ((ad 38))), some (.ref ((ad 46))), some (.int (nI i)), some (.int (nI (tc cd1 (sBytes (nI 0) (gx G (i + 2)) A).2))), some (.long x9), none]) dL_law_915 (Nat.le_of_ble_eq_true rfl) (Nat.le_of_ble_eq_true rfl) rfl rfl ?_
    refine zr_aload_n dL_law_917 rfl ?_
    refine zr_callV (md' := mX12_thrown) (As := []) dL_law_918 mlL_97 okX12_thrown rfl inX12_thrown slX12_thrown (by decide) (hL2.K 38 13) rfl (by omega) (Nat.le_of_ble_eq_true rfl) hcb2 (c_thrown (d := d - 1) hcb2 hL2 h402) (fun k M1 h => by cases h.1) (fun v M9 hq => ?_)
    obtain ⟨e0, e9⟩ := hq
    cases e0
    rw [e9]
    refine zr_iload dL_law_921 rfl ?_
    refine zr_icmp_eqN 928 dL_law_923 (by decide) htl htl (fun h923 => ?_) (fun h923 => ?_)
    · refine zr_iload dL_law_928 rfl ?_
      refine zr_if_neN 944 dL_law_930 (by decide) htl (fun h930 => ?_) (fun h930 => ?_)
      · refine zr_goto 1254 dL_law_944 (by decide) ?_
        refine zr_drop 5 rfl ?_
        refine zr_drop 6 rfl ?_
        exact hk M2 _ hS2 hT2
      · refine zr_aload_n dL_law_933 rfl ?_
        refine zr_iconst (v := nI 0) dL_law_934 (by decide) ?_
        refine zr_lald dL_law_935 (hL2.K 46 17) (vin0 hL2) ?_
        refine zr_lload dL_law_936 rfl ?_
        refine zr_lcmp dL_law_938 ?_
        refine zr_if_eq 944 dL_law_939 (by decide) (fun h939 => ?_) (fun h939 => ?_)
        · refine zr_goto 1254 dL_law_944 (by decide) ?_
          refine zr_drop 5 rfl ?_
          refine zr_drop 6 rfl ?_
          exact hk M2 _ hS2 hT2
        · refine zr_iconst (v := nI 0) dL_law_942 (by decide) ?_
          refine zr_zret dL_law_943 rfl (Or.inl rfl) ?_
          exfalso
          obtain ⟨v9, hv9⟩ := tc_0 (fun k => (cd1_3 k).2) h930
          refine h939 ?_
          have e9 : v9 = some (.long x9) := by rw [hv9] at hx9; exact hx9
          rw [e9] at hv9
          have hz := hj2 x9 hv9
          have hzz : zJ M2 (ad 46) (Int32.toNatClampNeg (nI 0)) = x9 := by rw [hF2.2.2.2.2.1]; exact hz
          rw [hzz]
          exact lg_same _
    · refine zr_iconst (v := nI 0) dL_law_926 (by decide) ?_
      refine zr_zret dL_law_927 rfl (Or.inl rfl) ?_
      exact absurd rfl h923
  · refine zr_iconst (v := nI 1) dL_law_874 (by decide) ?_
    refine zr_goto 879 dL_law_875 (by decide) ?_
    refine zr_aload_n dL_law_879 rfl ?_
    refine zr_iload dL_law_880 rfl ?_
    refine zr_iconst (v := nI 2) dL_law_882 (by decide) ?_
    refine zr_iaddN dL_law_883 ?_
    refine zr_sldN dL_law_884 (by omega) hgn ?_
    refine zr_aload_n dL_law_885 rfl ?_
    refine zr_callSW (md' := mL_bytes) (As := [.ref ((ad 0)), .int (nI 1), .int ((gx G (i + 2))), .ref ((ad 46))]) dL_law_886 mlL_138 okL_bytes (by decide) stL_bytes rfl (by omega) (Nat.le_of_ble_eq_true rfl) hcb (h_bytes (d := d - 1) (vl := (nI 1)) (at0 := (gx G (i + 2))) (by omega) hS hn) (fun k M9 h => by cases h.1) (fun v8 M1 hq => ?_)
    obtain ⟨e0, hS1, hT1f, hj1, hj2⟩ := hq
    cases e0
    have hT1 := hT1f hT
    have hL1 := hT1.1
    have htl : tc cd1 (sBytes (nI 1) (gx G (i + 2)) A).2 < 2 ^ 31 := tc_lt cd1 (fun k => (cd1_3 k).1) _
    have hcb1 := (hS1.cb (by omega)).1
    refine zr_istore (lv' := [some (.ref ((gb G))), some (.ref ((ad 0))), some (.ref ((ad 38))), some (.ref ((ad 46))), some (.int (nI i)), some (.int (nI (tc cd1 (sBytes (nI 1) (gx G (i + 2)) A).2))), none, none]) dL_law_889 (Nat.le_of_ble_eq_true rfl) (Nat.le_of_ble_eq_true rfl) rfl rfl ?_
    refine zr_aload_n dL_law_891 rfl ?_
    refine zr_aload_n dL_law_892 rfl ?_
    refine zr_iload dL_law_893 rfl ?_
    refine zr_iconst (v := nI 1) dL_law_895 (by decide) ?_
    refine zr_iaddN dL_law_896 ?_
    refine zr_sldN dL_law_897 (by omega) hgn ?_
    refine zr_if_eq 905 dL_law_898 (by decide) (fun h898 => absurd h898 h871) (fun h898 => ?_)
    refine zr_iconst (v := nI 1) dL_law_901 (by decide) ?_
    refine zr_goto 906 dL_law_902 (by decide) ?_
    refine zr_aload_n dL_law_906 rfl ?_
    refine zr_iload dL_law_907 rfl ?_
    refine zr_iconst (v := nI 2) dL_law_909 (by decide) ?_
    refine zr_iaddN dL_law_910 ?_
    refine zr_sldN dL_law_911 (by omega) hgn ?_
    refine zr_callV (md' := mX12_bytes) (As := [.int (nI 1), .int ((gx G (i + 2)))]) dL_law_912 mlL_141 okX12_bytes rfl inX12_bytes slX12_bytes (by decide) (hL1.K 38 13) rfl (by omega) (Nat.le_of_ble_eq_true rfl) hcb1 (b_bytes (d := d - 1) (vl := (nI 1)) (at0 := (gx G (i + 2))) (by omega) hcb1 hT1) (fun k M9 h => by cases h.2.2.2) (fun v9 M2 hq => ?_)
    obtain ⟨hT2, hF2, h402, e0⟩ := hq
    obtain ⟨x9, hx9⟩ := ro_long (f := fun _ => True) (fun v hv => v_sBytes hv : ∀ v, (sBytes (nI 1) (gx G (i + 2)) A).2 = .inl v → ∃ x, v = some (.long x))
    rw [hx9] at e0
    cases e0
    have hL2 := hT2.1
    have hS2 := hS1.mdl hF2
    have hcb2 := (hS2.cb (by omega)).1
    refine zr_lstore (lv' := [some (.ref ((gb G))), some (.ref ((ad 0))), some (.ref ((ad 38))), some (.ref ((ad 46))), some (.int (nI i)), some (.int (nI (tc cd1 (sBytes (nI 1) (gx G (i + 2)) A).2))), some (.long x9), none]) dL_law_915 (Nat.le_of_ble_eq_true rfl) (Nat.le_of_ble_eq_true rfl) rfl rfl ?_
    refine zr_aload_n dL_law_917 rfl ?_
    refine zr_callV (md' := mX12_thrown) (As := []) dL_law_918 mlL_97 okX12_thrown rfl inX12_thrown slX12_thrown (by decide) (hL2.K 38 13) rfl (by omega) (Nat.le_of_ble_eq_true rfl) hcb2 (c_thrown (d := d - 1) hcb2 hL2 h402) (fun k M1 h => by cases h.1) (fun v M9 hq => ?_)
    obtain ⟨e0, e9⟩ := hq
    cases e0
    rw [e9]
    refine zr_iload dL_law_921 rfl ?_
    refine zr_icmp_eqN 928 dL_law_923 (by decide) htl htl (fun h923 => ?_) (fun h923 => ?_)
    · refine zr_iload dL_law_928 rfl ?_
      refine zr_if_neN 944 dL_law_930 (by decide) htl (fun h930 => ?_) (fun h930 => ?_)
      · refine zr_goto 1254 dL_law_944 (by decide) ?_
        refine zr_drop 5 rfl ?_
        refine zr_drop 6 rfl ?_
        exact hk M2 _ hS2 hT2
      · refine zr_aload_n dL_law_933 rfl ?_
        refine zr_iconst (v := nI 0) dL_law_934 (by decide) ?_
        refine zr_lald dL_law_935 (hL2.K 46 17) (vin0 hL2) ?_
        refine zr_lload dL_law_936 rfl ?_
        refine zr_lcmp dL_law_938 ?_
        refine zr_if_eq 944 dL_law_939 (by decide) (fun h939 => ?_) (fun h939 => ?_)
        · refine zr_goto 1254 dL_law_944 (by decide) ?_
          refine zr_drop 5 rfl ?_
          refine zr_drop 6 rfl ?_
          exact hk M2 _ hS2 hT2
        · refine zr_iconst (v := nI 0) dL_law_942 (by decide) ?_
          refine zr_zret dL_law_943 rfl (Or.inl rfl) ?_
          exfalso
          obtain ⟨v9, hv9⟩ := tc_0 (fun k => (cd1_3 k).2) h930
          refine h939 ?_
          have e9 : v9 = some (.long x9) := by rw [hv9] at hx9; exact hx9
          rw [e9] at hv9
          have hz := hj2 x9 hv9
          have hzz : zJ M2 (ad 46) (Int32.toNatClampNeg (nI 0)) = x9 := by rw [hF2.2.2.2.2.1]; exact hz
          rw [hzz]
          exact lg_same _
    · refine zr_iconst (v := nI 0) dL_law_926 (by decide) ?_
      refine zr_zret dL_law_927 rfl (Or.inl rfl) ?_
      exact absurd rfl h923
set_option maxRecDepth 100000 in
set_option maxHeartbeats 4000000 in
theorem g_flush {G : zG} {ad : Nat → Nat} {d k0 n0 n i : Nat} {A : As} {M : zM} {Q : zOut → zM → Prop} (hd : 14 ≤ d) (hS : Sa ad M A n) (hT : Ta ad M A) (hn : n < 64) (hi : i + 5 ≤ gn G) (hgn : gn G ≤ 320) (hk : ∀ (M' : zM) (A' : As), Sa ad M' A' (n + 1) → Ta ad M' A' → zw G mL_law d k0 n0 Q 1254 [some (.ref ((gb G))), some (.ref ((ad 0))), some (.ref ((ad 38))), some (.ref ((ad 46))), some (.int (nI i)), none, none, none] [] M') : zw G mL_law d k0 n0 Q 947 [some (.ref ((gb G))), some (.ref ((ad 0))), some (.ref ((ad 38))), some (.ref ((ad 46))), some (.int (nI i)), none, none, none] [] M := by
  obtain ⟨hcb, hcx⟩ := hS.cb (by omega)
  have hL := hS.1.1
  refine zr_aload_n dL_law_947 rfl ?_
  refine zr_callSW (md' := mL_flush) (As := [.ref ((ad 0))]) dL_law_948 mlL_142 okL_flush (by decide) stL_flush rfl (by omega) (Nat.le_of_ble_eq_true rfl) hcb (h_flush (d := d - 1)  (by omega) hS hn) (fun k M9 h => by cases h.1) (fun v8 M1 hq => ?_)
  obtain ⟨e0, hS1, hT1f, hj1, hj2⟩ := hq
  cases e0
  have hT1 := hT1f hT
  have hL1 := hT1.1
  have htl : tc cdW (sWork A).2 < 2 ^ 31 := tc_lt cdW (fun k => (cdW_3 k).1) _
  have hcb1 := (hS1.cb (by omega)).1
  refine zr_istore (lv' := [some (.ref ((gb G))), some (.ref ((ad 0))), some (.ref ((ad 38))), some (.ref ((ad 46))), some (.int (nI i)), some (.int (nI (tc cdW (sWork A).2))), none, none]) dL_law_951 (Nat.le_of_ble_eq_true rfl) (Nat.le_of_ble_eq_true rfl) rfl rfl ?_
  refine zr_aload_n dL_law_953 rfl ?_
  refine zr_callV (md' := mX12_flush) (As := []) dL_law_954 mlL_144 okX12_flush rfl inX12_flush slX12_flush (by decide) (hL1.K 38 13) rfl (by omega) (Nat.le_of_ble_eq_true rfl) hcb1 (b_flush (d := d - 1)  (by omega) hcb1 hT1) (fun k M9 h => by cases h.2.2.2) (fun v9 M2 hq => ?_)
  obtain ⟨hT2, hF2, h402, e0⟩ := hq
  have hx9 := ro_void (fun v hv => v_sWork hv : ∀ v, (sWork A).2 = .inl v → v = none)
  rw [hx9] at e0
  cases e0
  have hL2 := hT2.1
  have hS2 := hS1.mdl hF2
  have hcb2 := (hS2.cb (by omega)).1
  refine zr_aload_n dL_law_957 rfl ?_
  refine zr_callV (md' := mX12_thrown) (As := []) dL_law_958 mlL_97 okX12_thrown rfl inX12_thrown slX12_thrown (by decide) (hL2.K 38 13) rfl (by omega) (Nat.le_of_ble_eq_true rfl) hcb2 (c_thrown (d := d - 1) hcb2 hL2 h402) (fun k M1 h => by cases h.1) (fun v M9 hq => ?_)
  obtain ⟨e0, e9⟩ := hq
  cases e0
  rw [e9]
  refine zr_iload dL_law_961 rfl ?_
  refine zr_icmp_eqN 968 dL_law_963 (by decide) htl htl (fun h963 => ?_) (fun h963 => ?_)
  · refine zr_goto 1254 dL_law_968 (by decide) ?_
    refine zr_drop 5 rfl ?_
    exact hk M2 _ hS2 hT2
  · refine zr_iconst (v := nI 0) dL_law_966 (by decide) ?_
    refine zr_zret dL_law_967 rfl (Or.inl rfl) ?_
    exact absurd rfl h963
set_option maxRecDepth 100000 in
set_option maxHeartbeats 4000000 in
theorem g_compact {G : zG} {ad : Nat → Nat} {d k0 n0 n i : Nat} {A : As} {M : zM} {Q : zOut → zM → Prop} (hd : 14 ≤ d) (hS : Sa ad M A n) (hT : Ta ad M A) (hn : n < 64) (hi : i + 5 ≤ gn G) (hgn : gn G ≤ 320) (hk : ∀ (M' : zM) (A' : As), Sa ad M' A' (n + 1) → Ta ad M' A' → zw G mL_law d k0 n0 Q 1254 [some (.ref ((gb G))), some (.ref ((ad 0))), some (.ref ((ad 38))), some (.ref ((ad 46))), some (.int (nI i)), none, none, none] [] M') : zw G mL_law d k0 n0 Q 971 [some (.ref ((gb G))), some (.ref ((ad 0))), some (.ref ((ad 38))), some (.ref ((ad 46))), some (.int (nI i)), none, none, none] [] M := by
  obtain ⟨hcb, hcx⟩ := hS.cb (by omega)
  have hL := hS.1.1
  refine zr_aload_n dL_law_971 rfl ?_
  refine zr_callSW (md' := mL_compact) (As := [.ref ((ad 0))]) dL_law_972 mlL_145 okL_compact (by decide) stL_compact rfl (by omega) (Nat.le_of_ble_eq_true rfl) hcb (h_compact (d := d - 1)  (by omega) hS hn) (fun k M9 h => by cases h.1) (fun v8 M1 hq => ?_)
  obtain ⟨e0, hS1, hT1f, hj1, hj2⟩ := hq
  cases e0
  have hT1 := hT1f hT
  have hL1 := hT1.1
  have htl : tc cdW (sWork A).2 < 2 ^ 31 := tc_lt cdW (fun k => (cdW_3 k).1) _
  have hcb1 := (hS1.cb (by omega)).1
  refine zr_istore (lv' := [some (.ref ((gb G))), some (.ref ((ad 0))), some (.ref ((ad 38))), some (.ref ((ad 46))), some (.int (nI i)), some (.int (nI (tc cdW (sWork A).2))), none, none]) dL_law_975 (Nat.le_of_ble_eq_true rfl) (Nat.le_of_ble_eq_true rfl) rfl rfl ?_
  refine zr_aload_n dL_law_977 rfl ?_
  refine zr_callV (md' := mX12_compact) (As := []) dL_law_978 mlL_147 okX12_compact rfl inX12_compact slX12_compact (by decide) (hL1.K 38 13) rfl (by omega) (Nat.le_of_ble_eq_true rfl) hcb1 (b_compact (d := d - 1)  (by omega) hcb1 hT1) (fun k M9 h => by cases h.2.2.2) (fun v9 M2 hq => ?_)
  obtain ⟨hT2, hF2, h402, e0⟩ := hq
  have hx9 := ro_void (fun v hv => v_sWork hv : ∀ v, (sWork A).2 = .inl v → v = none)
  rw [hx9] at e0
  cases e0
  have hL2 := hT2.1
  have hS2 := hS1.mdl hF2
  have hcb2 := (hS2.cb (by omega)).1
  refine zr_aload_n dL_law_981 rfl ?_
  refine zr_callV (md' := mX12_thrown) (As := []) dL_law_982 mlL_97 okX12_thrown rfl inX12_thrown slX12_thrown (by decide) (hL2.K 38 13) rfl (by omega) (Nat.le_of_ble_eq_true rfl) hcb2 (c_thrown (d := d - 1) hcb2 hL2 h402) (fun k M1 h => by cases h.1) (fun v M9 hq => ?_)
  obtain ⟨e0, e9⟩ := hq
  cases e0
  rw [e9]
  refine zr_iload dL_law_985 rfl ?_
  refine zr_icmp_eqN 992 dL_law_987 (by decide) htl htl (fun h987 => ?_) (fun h987 => ?_)
  · refine zr_goto 1254 dL_law_992 (by decide) ?_
    refine zr_drop 5 rfl ?_
    exact hk M2 _ hS2 hT2
  · refine zr_iconst (v := nI 0) dL_law_990 (by decide) ?_
    refine zr_zret dL_law_991 rfl (Or.inl rfl) ?_
    exact absurd rfl h987
set_option maxRecDepth 100000 in
set_option maxHeartbeats 4000000 in
theorem g_power {G : zG} {ad : Nat → Nat} {d k0 n0 n i : Nat} {A : As} {M : zM} {Q : zOut → zM → Prop} (hd : 14 ≤ d) (hS : Sa ad M A n) (hT : Ta ad M A) (hn : n < 64) (hi : i + 5 ≤ gn G) (hgn : gn G ≤ 320) (hk : ∀ (M' : zM) (A' : As), Sa ad M' A' (n + 1) → Ta ad M' A' → zw G mL_law d k0 n0 Q 1254 [some (.ref ((gb G))), some (.ref ((ad 0))), some (.ref ((ad 38))), some (.ref ((ad 46))), some (.int (nI i)), none, none, none] [] M') : zw G mL_law d k0 n0 Q 995 [some (.ref ((gb G))), some (.ref ((ad 0))), some (.ref ((ad 38))), some (.ref ((ad 46))), some (.int (nI i)), none, none, none] [] M := by
  obtain ⟨hcb, hcx⟩ := hS.cb (by omega)
  have hL := hS.1.1
  refine zr_aload_n dL_law_995 rfl ?_
  refine zr_aload_n dL_law_996 rfl ?_
  refine zr_iload dL_law_997 rfl ?_
  refine zr_iconst (v := nI 1) dL_law_999 (by decide) ?_
  refine zr_iaddN dL_law_1000 ?_
  refine zr_sldN dL_law_1001 (by omega) hgn ?_
  refine zr_aload_n dL_law_1002 rfl ?_
  refine zr_iload dL_law_1003 rfl ?_
  refine zr_iconst (v := nI 2) dL_law_1005 (by decide) ?_
  refine zr_iaddN dL_law_1006 ?_
  refine zr_sldN dL_law_1007 (by omega) hgn ?_
  refine zr_aload_n dL_law_1008 rfl ?_
  refine zr_iload dL_law_1009 rfl ?_
  refine zr_iconst (v := nI 3) dL_law_1011 (by decide) ?_
  refine zr_iaddN dL_law_1012 ?_
  refine zr_sldN dL_law_1013 (by omega) hgn ?_
  refine zr_callSW (md' := mL_power) (As := [.ref ((ad 0)), .int ((gx G (i + 1))), .int ((gx G (i + 2))), .int ((gx G (i + 3)))]) dL_law_1014 mlL_148 okL_power (by decide) stL_power rfl (by omega) (Nat.le_of_ble_eq_true rfl) hcb (h_power (d := d - 1) (w0 := (gx G (i + 1))) (k9 := (gx G (i + 2))) (b9 := (gx G (i + 3))) (by omega) hS hn) (fun k M9 h => by cases h.1) (fun v8 M1 hq => ?_)
  obtain ⟨e0, hS1, hT1f, hj1, hj2⟩ := hq
  cases e0
  have hT1 := hT1f hT
  have hL1 := hT1.1
  have htl : tc cd1 (sPow (gx G (i + 1)) (gx G (i + 2)) (gx G (i + 3)) A).2 < 2 ^ 31 := tc_lt cd1 (fun k => (cd1_3 k).1) _
  have hcb1 := (hS1.cb (by omega)).1
  refine zr_istore (lv' := [some (.ref ((gb G))), some (.ref ((ad 0))), some (.ref ((ad 38))), some (.ref ((ad 46))), some (.int (nI i)), some (.int (nI (tc cd1 (sPow (gx G (i + 1)) (gx G (i + 2)) (gx G (i + 3)) A).2))), none, none]) dL_law_1017 (Nat.le_of_ble_eq_true rfl) (Nat.le_of_ble_eq_true rfl) rfl rfl ?_
  refine zr_aload_n dL_law_1019 rfl ?_
  refine zr_aload_n dL_law_1020 rfl ?_
  refine zr_iload dL_law_1021 rfl ?_
  refine zr_iconst (v := nI 1) dL_law_1023 (by decide) ?_
  refine zr_iaddN dL_law_1024 ?_
  refine zr_sldN dL_law_1025 (by omega) hgn ?_
  refine zr_aload_n dL_law_1026 rfl ?_
  refine zr_iload dL_law_1027 rfl ?_
  refine zr_iconst (v := nI 2) dL_law_1029 (by decide) ?_
  refine zr_iaddN dL_law_1030 ?_
  refine zr_sldN dL_law_1031 (by omega) hgn ?_
  refine zr_aload_n dL_law_1032 rfl ?_
  refine zr_iload dL_law_1033 rfl ?_
  refine zr_iconst (v := nI 3) dL_law_1035 (by decide) ?_
  refine zr_iaddN dL_law_1036 ?_
  refine zr_sldN dL_law_1037 (by omega) hgn ?_
  refine zr_callV (md' := mX12_power) (As := [.int ((gx G (i + 1))), .int ((gx G (i + 2))), .int ((gx G (i + 3)))]) dL_law_1038 mlL_151 okX12_power rfl inX12_power slX12_power (by decide) (hL1.K 38 13) rfl (by omega) (Nat.le_of_ble_eq_true rfl) hcb1 (b_power (d := d - 1) (w0 := (gx G (i + 1))) (k9 := (gx G (i + 2))) (b9 := (gx G (i + 3))) (by omega) hcb1 hT1) (fun k M9 h => by cases h.2.2.2) (fun v9 M2 hq => ?_)
  obtain ⟨hT2, hF2, h402, e0⟩ := hq
  have hx9 := ro_void (fun v hv => v_sPow hv : ∀ v, (sPow (gx G (i + 1)) (gx G (i + 2)) (gx G (i + 3)) A).2 = .inl v → v = none)
  rw [hx9] at e0
  cases e0
  have hL2 := hT2.1
  have hS2 := hS1.mdl hF2
  have hcb2 := (hS2.cb (by omega)).1
  refine zr_aload_n dL_law_1041 rfl ?_
  refine zr_callV (md' := mX12_thrown) (As := []) dL_law_1042 mlL_97 okX12_thrown rfl inX12_thrown slX12_thrown (by decide) (hL2.K 38 13) rfl (by omega) (Nat.le_of_ble_eq_true rfl) hcb2 (c_thrown (d := d - 1) hcb2 hL2 h402) (fun k M1 h => by cases h.1) (fun v M9 hq => ?_)
  obtain ⟨e0, e9⟩ := hq
  cases e0
  rw [e9]
  refine zr_iload dL_law_1045 rfl ?_
  refine zr_icmp_eqN 1052 dL_law_1047 (by decide) htl htl (fun h1047 => ?_) (fun h1047 => ?_)
  · refine zr_goto 1254 dL_law_1052 (by decide) ?_
    refine zr_drop 5 rfl ?_
    exact hk M2 _ hS2 hT2
  · refine zr_iconst (v := nI 0) dL_law_1050 (by decide) ?_
    refine zr_zret dL_law_1051 rfl (Or.inl rfl) ?_
    exact absurd rfl h1047
set_option maxRecDepth 100000 in
set_option maxHeartbeats 4000000 in
theorem g_reopen {G : zG} {ad : Nat → Nat} {d k0 n0 n i : Nat} {A : As} {M : zM} {Q : zOut → zM → Prop} (hd : 14 ≤ d) (hS : Sa ad M A n) (hT : Ta ad M A) (hn : n < 64) (hi : i + 5 ≤ gn G) (hgn : gn G ≤ 320) (hk : ∀ (M' : zM) (A' : As), Sa ad M' A' (n + 1) → Ta ad M' A' → zw G mL_law d k0 n0 Q 1254 [some (.ref ((gb G))), some (.ref ((ad 0))), some (.ref ((ad 38))), some (.ref ((ad 46))), some (.int (nI i)), none, none, none] [] M') : zw G mL_law d k0 n0 Q 1055 [some (.ref ((gb G))), some (.ref ((ad 0))), some (.ref ((ad 38))), some (.ref ((ad 46))), some (.int (nI i)), none, none, none] [] M := by
  obtain ⟨hcb, hcx⟩ := hS.cb (by omega)
  have hL := hS.1.1
  refine zr_aload_n dL_law_1055 rfl ?_
  refine zr_aload_n dL_law_1056 rfl ?_
  refine zr_callSW (md' := mL_reopen) (As := [.ref ((ad 0)), .ref ((ad 46))]) dL_law_1057 mlL_152 okL_reopen (by decide) stL_reopen rfl (by omega) (Nat.le_of_ble_eq_true rfl) hcb (h_reopen (d := d - 1)  (by omega) hS hn) (fun k M9 h => by cases h.1) (fun v8 M1 hq => ?_)
  obtain ⟨e0, hS1, hT1f, hj1, hj2⟩ := hq
  cases e0
  have hT1 := hT1f hT
  have hL1 := hT1.1
  have htl : tc cd1 (sReo A).2 < 2 ^ 31 := tc_lt cd1 (fun k => (cd1_3 k).1) _
  have hcb1 := (hS1.cb (by omega)).1
  refine zr_istore (lv' := [some (.ref ((gb G))), some (.ref ((ad 0))), some (.ref ((ad 38))), some (.ref ((ad 46))), some (.int (nI i)), some (.int (nI (tc cd1 (sReo A).2))), none, none]) dL_law_1060 (Nat.le_of_ble_eq_true rfl) (Nat.le_of_ble_eq_true rfl) rfl rfl ?_
  refine zr_aload_n dL_law_1062 rfl ?_
  refine zr_callV (md' := mX12_reopen) (As := []) dL_law_1063 mlL_154 okX12_reopen rfl inX12_reopen slX12_reopen (by decide) (hL1.K 38 13) rfl (by omega) (Nat.le_of_ble_eq_true rfl) hcb1 (b_reopen (d := d - 1)  (by omega) hcb1 hT1) (fun k M9 h => by cases h.2.2.2) (fun v9 M2 hq => ?_)
  obtain ⟨hT2, hF2, h402, e0⟩ := hq
  obtain ⟨x9, hx9⟩ := ro_int (f := fun _ => True) (fun v hv => v_sReo hv : ∀ v, (sReo A).2 = .inl v → ∃ x, v = some (.int x))
  rw [hx9] at e0
  cases e0
  have hL2 := hT2.1
  have hS2 := hS1.mdl hF2
  have hcb2 := (hS2.cb (by omega)).1
  refine zr_istore (lv' := [some (.ref ((gb G))), some (.ref ((ad 0))), some (.ref ((ad 38))), some (.ref ((ad 46))), some (.int (nI i)), some (.int (nI (tc cd1 (sReo A).2))), some (.int x9), none]) dL_law_1066 (Nat.le_of_ble_eq_true rfl) (Nat.le_of_ble_eq_true rfl) rfl rfl ?_
  refine zr_aload_n dL_law_1068 rfl ?_
  refine zr_callV (md' := mX12_thrown) (As := []) dL_law_1069 mlL_97 okX12_thrown rfl inX12_thrown slX12_thrown (by decide) (hL2.K 38 13) rfl (by omega) (Nat.le_of_ble_eq_true rfl) hcb2 (c_thrown (d := d - 1) hcb2 hL2 h402) (fun k M1 h => by cases h.1) (fun v M9 hq => ?_)
  obtain ⟨e0, e9⟩ := hq
  cases e0
  rw [e9]
  refine zr_iload dL_law_1072 rfl ?_
  refine zr_icmp_eqN 1079 dL_law_1074 (by decide) htl htl (fun h1074 => ?_) (fun h1074 => ?_)
  · refine zr_iload dL_law_1079 rfl ?_
    refine zr_if_neN 1096 dL_law_1081 (by decide) htl (fun h1081 => ?_) (fun h1081 => ?_)
    · refine zr_goto 1254 dL_law_1096 (by decide) ?_
      refine zr_drop 5 rfl ?_
      refine zr_drop 6 rfl ?_
      exact hk M2 _ hS2 hT2
    · refine zr_aload_n dL_law_1084 rfl ?_
      refine zr_iconst (v := nI 0) dL_law_1085 (by decide) ?_
      refine zr_lald dL_law_1086 (hL2.K 46 17) (vin0 hL2) ?_
      refine zr_iload dL_law_1087 rfl ?_
      refine zr_i2l dL_law_1089 ?_
      refine zr_lcmp dL_law_1090 ?_
      refine zr_if_eq 1096 dL_law_1091 (by decide) (fun h1091 => ?_) (fun h1091 => ?_)
      · refine zr_goto 1254 dL_law_1096 (by decide) ?_
        refine zr_drop 5 rfl ?_
        refine zr_drop 6 rfl ?_
        exact hk M2 _ hS2 hT2
      · refine zr_iconst (v := nI 0) dL_law_1094 (by decide) ?_
        refine zr_zret dL_law_1095 rfl (Or.inl rfl) ?_
        exfalso
        obtain ⟨v9, hv9⟩ := tc_0 (fun k => (cd1_3 k).2) h1081
        refine h1091 ?_
        have e9 : v9 = some (.int x9) := by rw [hv9] at hx9; exact hx9
        rw [e9] at hv9
        have hz := hj1 x9 hv9
        have hzz : zJ M2 (ad 46) (Int32.toNatClampNeg (nI 0)) = Int32.toInt64 x9 := by rw [hF2.2.2.2.2.1]; exact hz
        rw [hzz]
        exact lg_same _
  · refine zr_iconst (v := nI 0) dL_law_1077 (by decide) ?_
    refine zr_zret dL_law_1078 rfl (Or.inl rfl) ?_
    exact absurd rfl h1074
set_option maxRecDepth 100000 in
set_option maxHeartbeats 4000000 in
theorem g_told {G : zG} {ad : Nat → Nat} {d k0 n0 n i : Nat} {A : As} {M : zM} {Q : zOut → zM → Prop} (hd : 14 ≤ d) (hS : Sa ad M A n) (hT : Ta ad M A) (hn : n < 64) (hi : i + 5 ≤ gn G) (hgn : gn G ≤ 320) (hk : ∀ (M' : zM) (A' : As), Sa ad M' A' (n + 1) → Ta ad M' A' → zw G mL_law d k0 n0 Q 1254 [some (.ref ((gb G))), some (.ref ((ad 0))), some (.ref ((ad 38))), some (.ref ((ad 46))), some (.int (nI i)), none, none, none] [] M') : zw G mL_law d k0 n0 Q 1099 [some (.ref ((gb G))), some (.ref ((ad 0))), some (.ref ((ad 38))), some (.ref ((ad 46))), some (.int (nI i)), none, none, none] [] M := by
  obtain ⟨hcb, hcx⟩ := hS.cb (by omega)
  have hL := hS.1.1
  refine zr_aload_n dL_law_1099 rfl ?_
  refine zr_aload_n dL_law_1100 rfl ?_
  refine zr_iload dL_law_1101 rfl ?_
  refine zr_iconst (v := nI 1) dL_law_1103 (by decide) ?_
  refine zr_iaddN dL_law_1104 ?_
  refine zr_sldN dL_law_1105 (by omega) hgn ?_
  refine zr_aload_n dL_law_1106 rfl ?_
  refine zr_callSW (md' := mL_told) (As := [.ref ((ad 0)), .int ((gx G (i + 1))), .ref ((ad 46))]) dL_law_1107 mlL_155 okL_told (by decide) stL_told rfl (by omega) (Nat.le_of_ble_eq_true rfl) hcb (h_told (d := d - 1) (x0 := (gx G (i + 1))) (by omega) hS hn) (fun k M9 h => by cases h.1) (fun v8 M1 hq => ?_)
  obtain ⟨e0, hS1, hT1f, hj1, hj2⟩ := hq
  cases e0
  have hT1 := hT1f hT
  have hL1 := hT1.1
  have htl : tc cd1 (sTold (gx G (i + 1)) A).2 < 2 ^ 31 := tc_lt cd1 (fun k => (cd1_3 k).1) _
  have hcb1 := (hS1.cb (by omega)).1
  refine zr_istore (lv' := [some (.ref ((gb G))), some (.ref ((ad 0))), some (.ref ((ad 38))), some (.ref ((ad 46))), some (.int (nI i)), some (.int (nI (tc cd1 (sTold (gx G (i + 1)) A).2))), none, none]) dL_law_1110 (Nat.le_of_ble_eq_true rfl) (Nat.le_of_ble_eq_true rfl) rfl rfl ?_
  refine zr_aload_n dL_law_1112 rfl ?_
  refine zr_aload_n dL_law_1113 rfl ?_
  refine zr_iload dL_law_1114 rfl ?_
  refine zr_iconst (v := nI 1) dL_law_1116 (by decide) ?_
  refine zr_iaddN dL_law_1117 ?_
  refine zr_sldN dL_law_1118 (by omega) hgn ?_
  refine zr_callV (md' := mX12_told) (As := [.int ((gx G (i + 1)))]) dL_law_1119 mlL_157 okX12_told rfl inX12_told slX12_told (by decide) (hL1.K 38 13) rfl (by omega) (Nat.le_of_ble_eq_true rfl) hcb1 (b_told (d := d - 1) (x0 := (gx G (i + 1))) (by omega) hcb1 hT1) (fun k M9 h => by cases h.2.2.2) (fun v9 M2 hq => ?_)
  obtain ⟨hT2, hF2, h402, e0⟩ := hq
  obtain ⟨x9, hx9⟩ := ro_int (f := fun _ => True) (fun v hv => v_sTold hv : ∀ v, (sTold (gx G (i + 1)) A).2 = .inl v → ∃ x, v = some (.int x))
  rw [hx9] at e0
  cases e0
  have hL2 := hT2.1
  have hS2 := hS1.mdl hF2
  have hcb2 := (hS2.cb (by omega)).1
  refine zr_istore (lv' := [some (.ref ((gb G))), some (.ref ((ad 0))), some (.ref ((ad 38))), some (.ref ((ad 46))), some (.int (nI i)), some (.int (nI (tc cd1 (sTold (gx G (i + 1)) A).2))), some (.int x9), none]) dL_law_1122 (Nat.le_of_ble_eq_true rfl) (Nat.le_of_ble_eq_true rfl) rfl rfl ?_
  refine zr_aload_n dL_law_1124 rfl ?_
  refine zr_callV (md' := mX12_thrown) (As := []) dL_law_1125 mlL_97 okX12_thrown rfl inX12_thrown slX12_thrown (by decide) (hL2.K 38 13) rfl (by omega) (Nat.le_of_ble_eq_true rfl) hcb2 (c_thrown (d := d - 1) hcb2 hL2 h402) (fun k M1 h => by cases h.1) (fun v M9 hq => ?_)
  obtain ⟨e0, e9⟩ := hq
  cases e0
  rw [e9]
  refine zr_iload dL_law_1128 rfl ?_
  refine zr_icmp_eqN 1135 dL_law_1130 (by decide) htl htl (fun h1130 => ?_) (fun h1130 => ?_)
  · refine zr_iload dL_law_1135 rfl ?_
    refine zr_if_neN 1152 dL_law_1137 (by decide) htl (fun h1137 => ?_) (fun h1137 => ?_)
    · refine zr_goto 1254 dL_law_1152 (by decide) ?_
      refine zr_drop 5 rfl ?_
      refine zr_drop 6 rfl ?_
      exact hk M2 _ hS2 hT2
    · refine zr_aload_n dL_law_1140 rfl ?_
      refine zr_iconst (v := nI 0) dL_law_1141 (by decide) ?_
      refine zr_lald dL_law_1142 (hL2.K 46 17) (vin0 hL2) ?_
      refine zr_iload dL_law_1143 rfl ?_
      refine zr_i2l dL_law_1145 ?_
      refine zr_lcmp dL_law_1146 ?_
      refine zr_if_eq 1152 dL_law_1147 (by decide) (fun h1147 => ?_) (fun h1147 => ?_)
      · refine zr_goto 1254 dL_law_1152 (by decide) ?_
        refine zr_drop 5 rfl ?_
        refine zr_drop 6 rfl ?_
        exact hk M2 _ hS2 hT2
      · refine zr_iconst (v := nI 0) dL_law_1150 (by decide) ?_
        refine zr_zret dL_law_1151 rfl (Or.inl rfl) ?_
        exfalso
        obtain ⟨v9, hv9⟩ := tc_0 (fun k => (cd1_3 k).2) h1137
        refine h1147 ?_
        have e9 : v9 = some (.int x9) := by rw [hv9] at hx9; exact hx9
        rw [e9] at hv9
        have hz := hj1 x9 hv9
        have hzz : zJ M2 (ad 46) (Int32.toNatClampNeg (nI 0)) = Int32.toInt64 x9 := by rw [hF2.2.2.2.2.1]; exact hz
        rw [hzz]
        exact lg_same _
  · refine zr_iconst (v := nI 0) dL_law_1133 (by decide) ?_
    refine zr_zret dL_law_1134 rfl (Or.inl rfl) ?_
    exact absurd rfl h1130
set_option maxRecDepth 100000 in
set_option maxHeartbeats 4000000 in
theorem g_digest {G : zG} {ad : Nat → Nat} {d k0 n0 n i : Nat} {A : As} {M : zM} {Q : zOut → zM → Prop} (hd : 14 ≤ d) (hS : Sa ad M A n) (hT : Ta ad M A) (hn : n < 64) (hi : i + 5 ≤ gn G) (hgn : gn G ≤ 320) (hk : ∀ (M' : zM) (A' : As), Sa ad M' A' (n + 1) → Ta ad M' A' → zw G mL_law d k0 n0 Q 1254 [some (.ref ((gb G))), some (.ref ((ad 0))), some (.ref ((ad 38))), some (.ref ((ad 46))), some (.int (nI i)), none, none, none] [] M') : zw G mL_law d k0 n0 Q 1155 [some (.ref ((gb G))), some (.ref ((ad 0))), some (.ref ((ad 38))), some (.ref ((ad 46))), some (.int (nI i)), none, none, none] [] M := by
  obtain ⟨hcb, hcx⟩ := hS.cb (by omega)
  have hL := hS.1.1
  refine zr_aload_n dL_law_1155 rfl ?_
  refine zr_aload_n dL_law_1156 rfl ?_
  refine zr_iload dL_law_1157 rfl ?_
  refine zr_iconst (v := nI 1) dL_law_1159 (by decide) ?_
  refine zr_iaddN dL_law_1160 ?_
  refine zr_sldN dL_law_1161 (by omega) hgn ?_
  refine zr_aload_n dL_law_1162 rfl ?_
  refine zr_callSW (md' := mL_digest) (As := [.ref ((ad 0)), .int ((gx G (i + 1))), .ref ((ad 46))]) dL_law_1163 mlL_158 okL_digest (by decide) stL_digest rfl (by omega) (Nat.le_of_ble_eq_true rfl) hcb (h_digest (d := d - 1) (s0 := (gx G (i + 1))) (by omega) hS hn) (fun k M9 h => by cases h.1) (fun v8 M1 hq => ?_)
  obtain ⟨e0, hS1, hT1f, hj1, hj2⟩ := hq
  cases e0
  have hT1 := hT1f hT
  have hL1 := hT1.1
  have htl : tc cdW (sDig (gx G (i + 1)) A).2 < 2 ^ 31 := tc_lt cdW (fun k => (cdW_3 k).1) _
  have hcb1 := (hS1.cb (by omega)).1
  refine zr_istore (lv' := [some (.ref ((gb G))), some (.ref ((ad 0))), some (.ref ((ad 38))), some (.ref ((ad 46))), some (.int (nI i)), some (.int (nI (tc cdW (sDig (gx G (i + 1)) A).2))), none, none]) dL_law_1166 (Nat.le_of_ble_eq_true rfl) (Nat.le_of_ble_eq_true rfl) rfl rfl ?_
  refine zr_aload_n dL_law_1168 rfl ?_
  refine zr_aload_n dL_law_1169 rfl ?_
  refine zr_iload dL_law_1170 rfl ?_
  refine zr_iconst (v := nI 1) dL_law_1172 (by decide) ?_
  refine zr_iaddN dL_law_1173 ?_
  refine zr_sldN dL_law_1174 (by omega) hgn ?_
  refine zr_callV (md' := mX12_digest) (As := [.int ((gx G (i + 1)))]) dL_law_1175 mlL_160 okX12_digest rfl inX12_digest slX12_digest (by decide) (hL1.K 38 13) rfl (by omega) (Nat.le_of_ble_eq_true rfl) hcb1 (b_digest (d := d - 1) (s0 := (gx G (i + 1))) (by omega) hcb1 hT1) (fun k M9 h => by cases h.2.2.2) (fun v9 M2 hq => ?_)
  obtain ⟨hT2, hF2, h402, e0⟩ := hq
  obtain ⟨x9, hx9⟩ := ro_long (f := fun _ => True) (fun v hv => v_sDig hv : ∀ v, (sDig (gx G (i + 1)) A).2 = .inl v → ∃ x, v = some (.long x))
  rw [hx9] at e0
  cases e0
  have hL2 := hT2.1
  have hS2 := hS1.mdl hF2
  have hcb2 := (hS2.cb (by omega)).1
  refine zr_lstore (lv' := [some (.ref ((gb G))), some (.ref ((ad 0))), some (.ref ((ad 38))), some (.ref ((ad 46))), some (.int (nI i)), some (.int (nI (tc cdW (sDig (gx G (i + 1)) A).2))), some (.long x9), none]) dL_law_1178 (Nat.le_of_ble_eq_true rfl) (Nat.le_of_ble_eq_true rfl) rfl rfl ?_
  refine zr_aload_n dL_law_1180 rfl ?_
  refine zr_callV (md' := mX12_thrown) (As := []) dL_law_1181 mlL_97 okX12_thrown rfl inX12_thrown slX12_thrown (by decide) (hL2.K 38 13) rfl (by omega) (Nat.le_of_ble_eq_true rfl) hcb2 (c_thrown (d := d - 1) hcb2 hL2 h402) (fun k M1 h => by cases h.1) (fun v M9 hq => ?_)
  obtain ⟨e0, e9⟩ := hq
  cases e0
  rw [e9]
  refine zr_iload dL_law_1184 rfl ?_
  refine zr_icmp_eqN 1191 dL_law_1186 (by decide) htl htl (fun h1186 => ?_) (fun h1186 => ?_)
  · refine zr_iload dL_law_1191 rfl ?_
    refine zr_if_neN 1207 dL_law_1193 (by decide) htl (fun h1193 => ?_) (fun h1193 => ?_)
    · refine zr_goto 1254 dL_law_1207 (by decide) ?_
      refine zr_drop 5 rfl ?_
      refine zr_drop 6 rfl ?_
      exact hk M2 _ hS2 hT2
    · refine zr_aload_n dL_law_1196 rfl ?_
      refine zr_iconst (v := nI 0) dL_law_1197 (by decide) ?_
      refine zr_lald dL_law_1198 (hL2.K 46 17) (vin0 hL2) ?_
      refine zr_lload dL_law_1199 rfl ?_
      refine zr_lcmp dL_law_1201 ?_
      refine zr_if_eq 1207 dL_law_1202 (by decide) (fun h1202 => ?_) (fun h1202 => ?_)
      · refine zr_goto 1254 dL_law_1207 (by decide) ?_
        refine zr_drop 5 rfl ?_
        refine zr_drop 6 rfl ?_
        exact hk M2 _ hS2 hT2
      · refine zr_iconst (v := nI 0) dL_law_1205 (by decide) ?_
        refine zr_zret dL_law_1206 rfl (Or.inl rfl) ?_
        exfalso
        obtain ⟨v9, hv9⟩ := tc_0 (fun k => (cdW_3 k).2) h1193
        refine h1202 ?_
        have e9 : v9 = some (.long x9) := by rw [hv9] at hx9; exact hx9
        rw [e9] at hv9
        have hz := hj2 x9 hv9
        have hzz : zJ M2 (ad 46) (Int32.toNatClampNeg (nI 0)) = x9 := by rw [hF2.2.2.2.2.1]; exact hz
        rw [hzz]
        exact lg_same _
  · refine zr_iconst (v := nI 0) dL_law_1189 (by decide) ?_
    refine zr_zret dL_law_1190 rfl (Or.inl rfl) ?_
    exact absurd rfl h1186
set_option maxRecDepth 100000 in
set_option maxHeartbeats 4000000 in
theorem g_check {G : zG} {ad : Nat → Nat} {d k0 n0 n i : Nat} {A : As} {M : zM} {Q : zOut → zM → Prop} (hd : 14 ≤ d) (hS : Sa ad M A n) (hT : Ta ad M A) (hn : n < 64) (hi : i + 5 ≤ gn G) (hgn : gn G ≤ 320) (hk : ∀ (M' : zM) (A' : As), Sa ad M' A' (n + 1) → Ta ad M' A' → zw G mL_law d k0 n0 Q 1254 [some (.ref ((gb G))), some (.ref ((ad 0))), some (.ref ((ad 38))), some (.ref ((ad 46))), some (.int (nI i)), none, none, none] [] M') : zw G mL_law d k0 n0 Q 1210 [some (.ref ((gb G))), some (.ref ((ad 0))), some (.ref ((ad 38))), some (.ref ((ad 46))), some (.int (nI i)), none, none, none] [] M := by
  obtain ⟨hcb, hcx⟩ := hS.cb (by omega)
  have hL := hS.1.1
  refine zr_aload_n dL_law_1210 rfl ?_
  refine zr_aload_n dL_law_1211 rfl ?_
  refine zr_callSW (md' := mL_check) (As := [.ref ((ad 0)), .ref ((ad 46))]) dL_law_1212 mlL_161 okL_check (by decide) stL_check rfl (by omega) (Nat.le_of_ble_eq_true rfl) hcb (h_check (d := d - 1)  (by omega) hS hn) (fun k M9 h => by cases h.1) (fun v8 M1 hq => ?_)
  obtain ⟨e0, hS1, hT1f, hj1, hj2⟩ := hq
  cases e0
  have hT1 := hT1f hT
  have hL1 := hT1.1
  have htl : tc cd1 (sChk A).2 < 2 ^ 31 := tc_lt cd1 (fun k => (cd1_3 k).1) _
  have hcb1 := (hS1.cb (by omega)).1
  refine zr_istore (lv' := [some (.ref ((gb G))), some (.ref ((ad 0))), some (.ref ((ad 38))), some (.ref ((ad 46))), some (.int (nI i)), some (.int (nI (tc cd1 (sChk A).2))), none, none]) dL_law_1215 (Nat.le_of_ble_eq_true rfl) (Nat.le_of_ble_eq_true rfl) rfl rfl ?_
  refine zr_aload_n dL_law_1217 rfl ?_
  refine zr_callV (md' := mX12_check) (As := []) dL_law_1218 mlL_163 okX12_check rfl inX12_check slX12_check (by decide) (hL1.K 38 13) rfl (by omega) (Nat.le_of_ble_eq_true rfl) hcb1 (b_check (d := d - 1)  (by omega) hcb1 hT1) (fun k M9 h => by cases h.2.2.2) (fun v9 M2 hq => ?_)
  obtain ⟨hT2, hF2, h402, e0⟩ := hq
  obtain ⟨x9, hx9⟩ := ro_int (f := fun _ => True) (fun v hv => v_sChk hv : ∀ v, (sChk A).2 = .inl v → ∃ x, v = some (.int x))
  rw [hx9] at e0
  cases e0
  have hL2 := hT2.1
  have hS2 := hS1.mdl hF2
  have hcb2 := (hS2.cb (by omega)).1
  refine zr_istore (lv' := [some (.ref ((gb G))), some (.ref ((ad 0))), some (.ref ((ad 38))), some (.ref ((ad 46))), some (.int (nI i)), some (.int (nI (tc cd1 (sChk A).2))), some (.int x9), none]) dL_law_1221 (Nat.le_of_ble_eq_true rfl) (Nat.le_of_ble_eq_true rfl) rfl rfl ?_
  refine zr_aload_n dL_law_1223 rfl ?_
  refine zr_callV (md' := mX12_thrown) (As := []) dL_law_1224 mlL_97 okX12_thrown rfl inX12_thrown slX12_thrown (by decide) (hL2.K 38 13) rfl (by omega) (Nat.le_of_ble_eq_true rfl) hcb2 (c_thrown (d := d - 1) hcb2 hL2 h402) (fun k M1 h => by cases h.1) (fun v M9 hq => ?_)
  obtain ⟨e0, e9⟩ := hq
  cases e0
  rw [e9]
  refine zr_iload dL_law_1227 rfl ?_
  refine zr_icmp_eqN 1234 dL_law_1229 (by decide) htl htl (fun h1229 => ?_) (fun h1229 => ?_)
  · refine zr_iload dL_law_1234 rfl ?_
    refine zr_if_neN 1251 dL_law_1236 (by decide) htl (fun h1236 => ?_) (fun h1236 => ?_)
    · refine zr_goto 1254 dL_law_1251 (by decide) ?_
      refine zr_drop 5 rfl ?_
      refine zr_drop 6 rfl ?_
      exact hk M2 _ hS2 hT2
    · refine zr_aload_n dL_law_1239 rfl ?_
      refine zr_iconst (v := nI 0) dL_law_1240 (by decide) ?_
      refine zr_lald dL_law_1241 (hL2.K 46 17) (vin0 hL2) ?_
      refine zr_iload dL_law_1242 rfl ?_
      refine zr_i2l dL_law_1244 ?_
      refine zr_lcmp dL_law_1245 ?_
      refine zr_if_eq 1251 dL_law_1246 (by decide) (fun h1246 => ?_) (fun h1246 => ?_)
      · refine zr_goto 1254 dL_law_1251 (by decide) ?_
        refine zr_drop 5 rfl ?_
        refine zr_drop 6 rfl ?_
        exact hk M2 _ hS2 hT2
      · refine zr_iconst (v := nI 0) dL_law_1249 (by decide) ?_
        refine zr_zret dL_law_1250 rfl (Or.inl rfl) ?_
        exfalso
        obtain ⟨v9, hv9⟩ := tc_0 (fun k => (cd1_3 k).2) h1236
        refine h1246 ?_
        have e9 : v9 = some (.int x9) := by rw [hv9] at hx9; exact hx9
        rw [e9] at hv9
        have hz := hj1 x9 hv9
        have hzz : zJ M2 (ad 46) (Int32.toNatClampNeg (nI 0)) = Int32.toInt64 x9 := by rw [hF2.2.2.2.2.1]; exact hz
        rw [hzz]
        exact lg_same _
  · refine zr_iconst (v := nI 0) dL_law_1232 (by decide) ?_
    refine zr_zret dL_law_1233 rfl (Or.inl rfl) ?_
    exact absurd rfl h1229
