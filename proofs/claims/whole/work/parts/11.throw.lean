/-! ===== ROW of zw: throw new E("text") ===== -/
def zNs : List String := ["java/lang/RuntimeException", "java/lang/Exception"]
/-- the words of a throw: k the exception, ik its class's entry, ic its constructor's -/
def zthOk (own : String) (ik ic k : Nat) : Prop := Cond.classLink own ik (zex k) ∈ lw_tbl ∧ Cond.initialized (zex k) ∈ lw_tbl ∧ (∀ w ∈ vx_atS own ic (zex k) zNs, w ∈ lw_tbl ∧ zgw w = true) ∧ ∀ w ∈ Cond.classLink own ik (zex k) :: Cond.initialized (zex k) :: vx_atS own ic (zex k) zNs, vx_ot w = true
theorem zfit_ex (k : Nat) : Bundle.fit (zex k) = true := by
  unfold zex
  split <;> decide +kernel
theorem zfit_ns : ∀ n ∈ zNs, Bundle.fit n = true := by decide +kernel
section ZT
variable {G : zG} {md : zD} {d k0 n0 : Nat} {Q : zOut → zM → Prop} {pc : Nat} {lv : List (Option Value)} {st : List Value} {M : zM}
theorem zW_kept {H H1 : Heap} (hw : zW G M H) (hq : ∀ q : Nat, q < H.size → H1[q]? = H[q]?) : zW G M H1 := by
  obtain ⟨L, hL, hP, hD, hF, hN⟩ := hw
  exact ⟨L, hL, hP.kept (fun k q hk => hq _ (hP k q hk).lt), hD, hF, hN⟩
theorem zthrow {k : Nat} {p : Program} {e : Env} {R : Room} {s : State} {m : MethodId} {args : Array Value} {below : List Frame} {meth : Method} {c9 : Code} {H : Heap} {locs : List Loc} {g : JFrame} (hm : k0 ≤ zC M ∧ n0 ≤ zS M) (hw : zW G M H) (hq : Q (.inr k) (zthr M))
    (h : W p (gL G) e R s m args below meth c9 H locs (zC M - k0) (zS M - n0) (vx_MQ below (fun _ _ _ _ => False) (fun E _ t => E = zex k ∧ ∀ q : Nat, q < H.size → t.heap[q]? = H[q]?) args s (zC M - k0 + 1) (zS M - n0 + 6) (gA G)) g) : W p (gL G) e R s m args below meth c9 H locs (zC M - k0) (zS M - n0) (zZ G k0 n0 Q below s) g := by
  intro T hT X
  obtain ⟨t, a1, o, b1, b2, b3⟩ := h T hT X
  rcases b3 with ⟨h9, -⟩ | ⟨q, rfl, E, ce, L, ⟨rfl, hk⟩, hce, hcv, hcl, hW, hsm, hL⟩
  · exact h9.elim
  · have e1 : zC M - k0 + 1 = zC (zthr M) - k0 := by show _ = zC M + 1 - k0; omega
    have e2 : zS M - n0 + 6 = zS (zthr M) - n0 := by show _ = zS M + 6 - n0; omega
    rw [e1, e2] at hsm
    exact ⟨t, a1, .threw q, b1, b2, .inr k, zthr M, L, ⟨q, ce, rfl, hce, hcv, hcl⟩, hq, zW_kept (M := M) hw hk, by show _ ≤ zC M + 1; omega, by show _ ≤ zS M + 6; omega, hW, hsm, hL⟩
theorem zr_throw {k ik is ic sk : Nat} {text : String} (d0 : decode md.2.1 pc = .ok (.new ik, 3)) (d3 : decode md.2.1 (pc + 3) = .ok (.dup, 1)) (d4 : decode md.2.1 (pc + 4) = .ok (.ldc is, 2)) (d6 : decode md.2.1 (pc + 6) = .ok (.invokespecial ic, 3)) (d9 : decode md.2.1 (pc + 9) = .ok (.athrow, 1))
    (hok : zthOk md.1.cls ik ic k) (hs : zstr[sk]? = some (md.1.cls, is, text)) (hh : md.2.2.2.2 = []) (hd6 : 6 ≤ d) (hst : (st.map fun v => v.category).sum ≤ 8) (hb : zC M + 1 ≤ 600128 ∧ zS M + 6 ≤ 7301098) (hq : Q (.inr k) (zthr M)) : zw G md d k0 n0 Q pc lv st M := by
  intro p e R s m args below meth c9 H locs ls B hr hm hw hS hl
  have hO := B.2.2.2.2.2.2.2.2
  obtain ⟨h1, h2, h3, h4, h5, h6, h7, h8, h9, h10, h11, h12⟩ := id hO
  refine zthrow hm hw hq ?_
  exact vx_throwS B.1 B.2.1 h12.1 (own := md.1.cls) (cls := zex k) (text := text) (names := zNs) (ik := ik) (is := is) (ic := ic) (sa := gs G sk) B.2.2.2.2.2.1 (zfit_ex k) zfit_ns (zgw_use rfl (h1 _ hok.1 rfl) args) (zgw_use rfl (h1 _ hok.2.1 rfl) args) (h8 sk _ hs) (fun w h => zgw_use (hok.2.2.1 w h).2 (h1 w (hok.2.2.1 w h).1 (hok.2.2.1 w h).2) args) hok.2.2.2 h6 h7 hS (by rw [hl.1, B.2.2.2.2.1]) d0 d3 d4 d6 d9
    (fun x hx => by rw [B.2.2.2.2.2.2.2.1, hh] at hx; cases hx) (by show 2 + 3 < R.frames; omega) (by show _ + (13 * (2 + 1) + 43) ≤ R.locals; omega) (by omega) (by omega) B.2.2.2.1 (fun t _ _ h => ⟨rfl, h⟩) hS.2.2 (Nat.le_refl _) (Nat.le_refl _)
theorem zr_throwW {k ik is ic sk : Nat} {text : String} (d0 : decode md.2.1 pc = .ok (.new ik, 3)) (d3 : decode md.2.1 (pc + 3) = .ok (.dup, 1)) (d4 : decode md.2.1 (pc + 4) = .ok (.ldc_w is, 3)) (d7 : decode md.2.1 (pc + 7) = .ok (.invokespecial ic, 3)) (d10 : decode md.2.1 (pc + 10) = .ok (.athrow, 1))
    (hok : zthOk md.1.cls ik ic k) (hs : zstr[sk]? = some (md.1.cls, is, text)) (hh : md.2.2.2.2 = []) (hd6 : 6 ≤ d) (hst : (st.map fun v => v.category).sum ≤ 8) (hb : zC M + 1 ≤ 600128 ∧ zS M + 6 ≤ 7301098) (hq : Q (.inr k) (zthr M)) : zw G md d k0 n0 Q pc lv st M := by
  intro p e R s m args below meth c9 H locs ls B hr hm hw hS hl
  have hO := B.2.2.2.2.2.2.2.2
  obtain ⟨h1, h2, h3, h4, h5, h6, h7, h8, h9, h10, h11, h12⟩ := id hO
  refine zthrow hm hw hq ?_
  exact vx_throwSW B.1 B.2.1 h12.1 (own := md.1.cls) (cls := zex k) (text := text) (names := zNs) (ik := ik) (is := is) (ic := ic) (sa := gs G sk) B.2.2.2.2.2.1 (zfit_ex k) zfit_ns (zgw_use rfl (h1 _ hok.1 rfl) args) (zgw_use rfl (h1 _ hok.2.1 rfl) args) (h8 sk _ hs) (fun w h => zgw_use (hok.2.2.1 w h).2 (h1 w (hok.2.2.1 w h).1 (hok.2.2.1 w h).2) args) hok.2.2.2 h6 h7 hS (by rw [hl.1, B.2.2.2.2.1]) d0 d3 d4 d7 d10
    (fun x hx => by rw [B.2.2.2.2.2.2.2.1, hh] at hx; cases hx) (by show 2 + 3 < R.frames; omega) (by show _ + (13 * (2 + 1) + 43) ≤ R.locals; omega) (by omega) (by omega) B.2.2.2.1 (fun t _ _ h => ⟨rfl, h⟩) hS.2.2 (Nat.le_refl _) (Nat.le_refl _)
end ZT

