/-! ===== ROWS of zw that touch the heap ===== -/
theorem zE_obj {ids : Nat → ClassId} {M : zM} {a c : Nat} (h : zK M a = c + 1) (hc : c < 13) : zE ids M a = .inr (c, zflds c M a) := by
  unfold zE
  rw [if_neg (by omega), if_neg (by omega), if_neg (by omega), if_neg (by omega), if_neg (by omega), if_neg (by omega), h, Nat.add_sub_cancel]
theorem zE_B {ids : Nat → ClassId} {M : zM} {a : Nat} (h : zK M a = 14) : zE ids M a = .inl (ids 0, zN M a, .inl (zA M a)) := by simp [zE, h]
theorem zE_I {ids : Nat → ClassId} {M : zM} {a : Nat} (h : zK M a = 15) : zE ids M a = .inl (ids 1, zN M a, .inl (zA M a)) := by simp [zE, h]
theorem zE_Z {ids : Nat → ClassId} {M : zM} {a : Nat} (h : zK M a = 16) : zE ids M a = .inl (ids 2, zN M a, .inl (zA M a)) := by simp [zE, h]
theorem zE_J {ids : Nat → ClassId} {M : zM} {a : Nat} (h : zK M a = 17) : zE ids M a = .inl (ids 3, zN M a, .inr (.inl (zJ M a))) := by simp [zE, h]
theorem zE_V {ids : Nat → ClassId} {M : zM} {a : Nat} (h : zK M a = 18) : zE ids M a = .inl (ids 4, zN M a, .inr (.inr (.inr (.inr (zB M a))))) := by simp [zE, h]
theorem zE_T {ids : Nat → ClassId} {M : zM} {a : Nat} (h : zK M a = 19) : zE ids M a = .inl (ids 5, zN M a, .inr (.inr (.inr (.inr (zB M a))))) := by simp [zE, h]
theorem zE_congr {ids : Nat → ClassId} {M M' : zM} {b : Nat} (hK : zK M' b = zK M b) (hN : zN M' b = zN M b) (hA : zA M' b = zA M b) (hB : zB M' b = zB M b) (hJ : zJ M' b = zJ M b) (hI : ∀ x, zI M' x b = zI M x b) (hR : ∀ x, zR M' x b = zR M x b) : zE ids M' b = zE ids M b := by
  have hf : ∀ c, zflds c M' b = zflds c M b := fun c => by
    unfold zflds
    refine List.map_congr_left (fun j _ => ?_)
    unfold zfld
    rw [hI, hR]
  unfold zE
  rw [hK, hN, hA, hB, hJ, hf]
theorem zat {L : List Nat} {f : Nat → va_E} {a : Nat} (h : a ∈ L) : ∃ q : Nat, (va_pl L f)[q]? = some (a, f a) := by
  obtain ⟨q, hq⟩ := va_pl_get (X := []) (f := f) h
  exact ⟨q, hq⟩
theorem zset {A : Nat → Prop} {L : List Nat} {f : Nat → va_E} {a q : Nat} {e : va_E} (hD : va_D A (va_pl L f)) (h : a ∈ L) (hq : (va_pl L f)[q]? = some (a, f a)) : (va_pl L f).set q (a, e) = va_pl L (va_up f a e) := va_pl_set (X := []) hD h hq
theorem zup {ids : Nat → ClassId} {M M' : zM} {a : Nat} {e : va_E} (hE : zE ids M' a = e) (hO : ∀ b, b ≠ a → zE ids M' b = zE ids M b) (L : List Nat) : va_pl L (va_up (zE ids M) a e) = va_pl L (zE ids M') := va_pl_congr fun b => by
  by_cases hb : b = a
  · subst hb
    rw [va_up_self, hE]
  · rw [va_up_ne _ _ hb, hO b hb]
/-- a field's link -/
def zlk (own : String) (idx c k : Nat) : Prop := Cond.fieldLink own idx (zRX c) (zTX c k).2.1 (zTX c k).2.2.1 ∈ lw_tbl ∨ Cond.fieldLinkNest own idx (zRX c) (zTX c k).2.1 (zTX c k).2.2.1 "LsmStore" ∈ lw_tbl
theorem zflds_at {c : Nat} {M : zM} {a k : Nat} (hk : k < zn c) : (zflds c M a)[k]? = some (zfld c M a k) := by
  unfold zflds
  rw [List.getElem?_map, List.getElem?_range hk]
  rfl
theorem zflds_len (c : Nat) (M : zM) (a : Nat) : (zflds c M a).length = zn c := by simp [zflds]
theorem zn_lt : ∀ c, c < 13 → zn c ≤ 32 := by
  refine zc_cases ?_ ?_ ?_ ?_ ?_ ?_ ?_ ?_ ?_ ?_ ?_ ?_ ?_ <;> decide
section ZH
variable {G : zG} {md : zD} {d k0 n0 : Nat} {Q : zOut → zM → Prop} {pc : Nat} {lv : List (Option Value)} {st : List Value} {M : zM}
theorem zr_get {idx c k a : Nat} {v : Value} (hd : decode md.2.1 pc = .ok (.getfield idx, 3)) (hlk : zlk md.1.cls idx c k) (hc : c < 13) (hk : k < zn c) (hK : zK M a = c + 1) (hv : zfld c M a k = v)
    (kk : zw G md d k0 n0 Q (pc + 3) lv (v :: st) M) : zw G md d k0 n0 Q pc lv (.ref a :: st) M := by
  intro p e R s m args below meth c9 H locs ls B hr hm hw hS hl
  have kk' := kk p e R s m args below meth c9 H locs ls B hr hm hw hS hl
  obtain ⟨L, hL, hP, hD, hF, hN⟩ := hw
  obtain ⟨q, hq⟩ := zat (f := zE (gi G) M) ((hL a).mpr (by omega))
  rw [zE_obj hK hc] at hq
  have hO := B.2.2.2.2.2.2.2.2
  have hts : ∀ w ∈ u_ws (zRX c) (zTX c) (zn c), w.before args s = true := fun w h => zgw_use (zc_gw c hc w h) (hO.1 w (zc_in c hc w h) (zc_gw c hc w h)) args
  have hsame : ∀ x, s.fieldFound? (zTX c k).1 (zTX c k).2.1 (zTX c k).2.2.1 = some x → s.fieldFound? (zRX c) (zTX c k).2.1 (zTX c k).2.2.1 = some x := fun x h => by rw [zc_own c hc k hk] at h; exact h
  rcases hlk with h | h
  · exact va_get B.1 B.2.1 hts (fun _ h => h) B.2.2.2.2.2.1 hO.2.1 hP q hq (zc_cl c hc) k hk (zgw_use rfl (hO.1 _ h rfl) args) hsame (by rw [zflds_at hk, hv]) hd kk'
  · exact va_getN B.1 B.2.1 hts (fun _ h => h) B.2.2.2.2.2.1 hO.2.1 hP q hq (zc_cl c hc) k hk (zgw_use rfl (hO.1 _ h rfl) args) hsame (by rw [zflds_at hk, hv]) hd kk'
theorem zr_getI {idx c k a : Nat} (hd : decode md.2.1 pc = .ok (.getfield idx, 3)) (hlk : zlk md.1.cls idx c k) (hc : c < 13) (hk : k < zn c) (ht : zref (zty c k) = false) (hK : zK M a = c + 1)
    (kk : zw G md d k0 n0 Q (pc + 3) lv (.int (zI M (c * 32 + k) a) :: st) M) : zw G md d k0 n0 Q pc lv (.ref a :: st) M :=
  zr_get hd hlk hc hk hK (by unfold zfld; rw [if_neg (by rw [ht]; decide)]) kk
theorem zr_getR {idx c k a b : Nat} (hd : decode md.2.1 pc = .ok (.getfield idx, 3)) (hlk : zlk md.1.cls idx c k) (hc : c < 13) (hk : k < zn c) (ht : zref (zty c k) = true) (hK : zK M a = c + 1) (hb : zR M (c * 32 + k) a = some b)
    (kk : zw G md d k0 n0 Q (pc + 3) lv (.ref b :: st) M) : zw G md d k0 n0 Q pc lv (.ref a :: st) M :=
  zr_get hd hlk hc hk hK (by unfold zfld; rw [if_pos ht, hb]; rfl) kk
theorem zflds_set {c : Nat} {M M' : zM} {a k : Nat} {v : Value} (hk : k < zn c) (h1 : zfld c M' a k = v) (h2 : ∀ j, j < zn c → j ≠ k → zfld c M' a j = zfld c M a j) : (zflds c M a).set k v = zflds c M' a := by
  apply List.ext_getElem?
  intro j
  by_cases hj : j < zn c
  · rw [zflds_at hj]
    by_cases e : k = j
    · subst e
      rw [List.getElem?_set_self (by rw [zflds_len]; exact hk), h1]
    · rw [List.getElem?_set_ne e, zflds_at hj, h2 j hj (fun z => e z.symm)]
  · rw [List.getElem?_eq_none (by rw [List.length_set, zflds_len]; omega), List.getElem?_eq_none (by rw [zflds_len]; omega)]
theorem zr_putV {M' : zM} {idx c k a : Nat} {v : Value} (hd : decode md.2.1 pc = .ok (.putfield idx, 3)) (hlk : zlk md.1.cls idx c k) (hc : c < 13) (hk : k < zn c) (hK : zK M a = c + 1)
    (hfin : (zTX c k).2.2.2 = false ∨ (md.1.name = "<init>" ∧ zRX c = md.1.cls ∧ Cond.fieldLink md.1.cls idx (zRX c) (zTX c k).2.1 (zTX c k).2.2.1 ∈ lw_tbl)) (hn : narrow (zty c k) v = v) (hf : fits (zty c k) v = true)
    (h1 : zfld c M' a k = v) (h2 : ∀ j, j < zn c → j ≠ k → zfld c M' a j = zfld c M a j) (hKK : zK M' = zK M) (hNN : zN M' = zN M) (hAA : zA M' = zA M) (hBB : zB M' = zB M) (hJJ : zJ M' = zJ M) (hCC : zC M' = zC M) (hSS : zS M' = zS M) (hI : ∀ x b, b ≠ a → zI M' x b = zI M x b) (hR : ∀ x b, b ≠ a → zR M' x b = zR M x b)
    (kk : zw G md d k0 n0 Q (pc + 3) lv st M') : zw G md d k0 n0 Q pc lv (v :: .ref a :: st) M := by
  intro p e R s m args below meth c9 H locs ls B hr hm hw hS hl
  obtain ⟨L, hL, hP, hD, hF, hN⟩ := hw
  have ha : a ∈ L := (hL a).mpr (by omega)
  obtain ⟨q, hq⟩ := zat (f := zE (gi G) M) ha
  have hq0 := hq
  rw [zE_obj hK hc] at hq
  have hO := B.2.2.2.2.2.2.2.2
  have hts : ∀ w ∈ u_ws (zRX c) (zTX c) (zn c), w.before args s = true := fun w h => zgw_use (zc_gw c hc w h) (hO.1 w (zc_in c hc w h) (zc_gw c hc w h)) args
  have hsame : ∀ x, s.fieldFound? (zTX c k).1 (zTX c k).2.1 (zTX c k).2.2.1 = some x → s.fieldFound? (zRX c) (zTX c k).2.1 (zTX c k).2.2.1 = some x := fun x h => by rw [zc_own c hc k hk] at h; exact h
  have hE : zE (gi G) M' a = .inr (c, (zflds c M a).set k v) := by rw [zE_obj (by rw [hKK]; exact hK) hc, zflds_set hk h1 h2]
  have hOth : ∀ b, b ≠ a → zE (gi G) M' b = zE (gi G) M b := fun b hb => zE_congr (by rw [hKK]) (by rw [hNN]) (by rw [hAA]) (by rw [hBB]) (by rw [hJJ]) (fun x => hI x b hb) (fun x => hR x b hb)
  have kk' : ∀ (H1 : Heap) (locs1 : List Loc), va_P (gD G) vwCl ((va_pl L (zE (gi G) M)).set q (a, .inr (c, (zflds c M a).set k v))) H1 → va_D (gA G) ((va_pl L (zE (gi G) M)).set q (a, .inr (c, (zflds c M a).set k v))) → va_S (gA G) s.heap H1 locs1 → W p (gL G) e R s m args below meth c9 H1 locs1 (zC M - k0) (zS M - n0) (zZ G k0 n0 Q below s) (F0 m (pc + 3) ls st) := by
    intro H1 locs1 hP1 hD1 hS1
    rw [zset hD ha hq0, zup hE hOth] at hP1 hD1
    have := kk p e R s m args below meth c9 H1 locs1 ls B hr (by rw [hCC, hSS]; exact hm) ⟨L, fun b => by rw [hKK]; exact hL b, hP1, hD1, fun b i hb => by rw [hAA]; exact hF b i (by rw [← hKK]; exact hb), fun b => by rw [hNN]; exact hN b⟩ hS1 hl
    rw [hCC, hSS] at this
    exact this
  have hlen : k < (zflds c M a).length := by rw [zflds_len]; exact hk
  rcases hfin with hfin | ⟨hi1, hi2, hi3⟩
  · rcases hlk with h | h
    · exact va_put B.1 B.2.1 hts (fun _ h => h) (zty c) (zc_ty c hc) (zc_nm c hc) B.2.2.2.2.2.1 hO.2.1 hP hD hS q hq (zc_cl c hc) k hk (zgw_use rfl (hO.1 _ h rfl) args) hsame hfin (zc_ty c hc k hk) hn hf hlen hd kk'
    · exact va_putN B.1 B.2.1 hts (fun _ h => h) (zty c) (zc_ty c hc) (zc_nm c hc) B.2.2.2.2.2.1 hO.2.1 hP hD hS q hq (zc_cl c hc) k hk (zgw_use rfl (hO.1 _ h rfl) args) hsame hfin (zc_ty c hc k hk) hn hf hlen hd kk'
  · by_cases hfin : (zTX c k).2.2.2 = true
    · exact va_putF B.1 B.2.1 hts (fun _ h => h) (zty c) (zc_ty c hc) (zc_nm c hc) B.2.2.2.2.2.1 hO.2.1 hP hD hS q hq (zc_cl c hc) k hk (zgw_use rfl (hO.1 _ hi3 rfl) args) hsame hfin (by rw [B.2.2.2.2.2.2.1]; exact hi1) (by rw [zc_own c hc k hk]; exact hi2) (zc_ty c hc k hk) hn hf hlen hd kk'
    · exact va_put B.1 B.2.1 hts (fun _ h => h) (zty c) (zc_ty c hc) (zc_nm c hc) B.2.2.2.2.2.1 hO.2.1 hP hD hS q hq (zc_cl c hc) k hk (zgw_use rfl (hO.1 _ hi3 rfl) args) hsame (by cases h9 : (zTX c k).2.2.2 with | false => rfl | true => exact absurd h9 hfin) (zc_ty c hc k hk) hn hf hlen hd kk'
theorem zput_I (M : zM) (f a : Nat) (v : Int32) (x y : Nat) : zI (zput M f a v) x y = if x = f ∧ y = a then v else zI M x y := rfl
theorem zputR_R (M : zM) (f a : Nat) (v : Option Nat) (x y : Nat) : zR (zputR M f a v) x y = if x = f ∧ y = a then v else zR M x y := rfl
theorem zfld_put {c k a j : Nat} {M : zM} {v : Int32} (hj : j ≠ k) : zfld c (zput M (c * 32 + k) a v) a j = zfld c M a j := by
  have h1 : zI (zput M (c * 32 + k) a v) (c * 32 + j) a = zI M (c * 32 + j) a := by rw [zput_I, if_neg (by omega)]
  unfold zfld
  rw [h1]
  rfl
theorem zfld_putR {c k a j : Nat} {M : zM} {v : Option Nat} (hj : j ≠ k) : zfld c (zputR M (c * 32 + k) a v) a j = zfld c M a j := by
  have h1 : zR (zputR M (c * 32 + k) a v) (c * 32 + j) a = zR M (c * 32 + j) a := by rw [zputR_R, if_neg (by omega)]
  unfold zfld
  rw [h1]
  rfl
/-- an int field that isn't final -/
theorem zr_putI {idx c k a : Nat} {v : Int32} (hd : decode md.2.1 pc = .ok (.putfield idx, 3)) (hlk : zlk md.1.cls idx c k) (hc : c < 13) (hk : k < zn c) (ht : zty c k = .int) (hfin : (zTX c k).2.2.2 = false) (hK : zK M a = c + 1)
    (kk : zw G md d k0 n0 Q (pc + 3) lv st (zput M (c * 32 + k) a v)) : zw G md d k0 n0 Q pc lv (.int v :: .ref a :: st) M := by
  refine zr_putV hd hlk hc hk hK (Or.inl hfin) (by rw [ht]; rfl) (by rw [ht]; rfl) ?_ (fun j _ hj => zfld_put hj) rfl rfl rfl rfl rfl rfl rfl (fun x b hb => by rw [zput_I, if_neg (fun z => hb z.2)]) (fun _ _ _ => rfl) kk
  unfold zfld
  rw [if_neg (by rw [ht]; decide), zput_I, if_pos ⟨rfl, rfl⟩]
/-- a boolean field that isn't final -/
theorem zr_putZ {idx c k a : Nat} {v : Int32} (hd : decode md.2.1 pc = .ok (.putfield idx, 3)) (hlk : zlk md.1.cls idx c k) (hc : c < 13) (hk : k < zn c) (ht : zty c k = .boolean) (hfin : (zTX c k).2.2.2 = false) (hv : v = 0 ∨ v = 1) (hK : zK M a = c + 1)
    (kk : zw G md d k0 n0 Q (pc + 3) lv st (zput M (c * 32 + k) a v)) : zw G md d k0 n0 Q pc lv (.int v :: .ref a :: st) M := by
  refine zr_putV hd hlk hc hk hK (Or.inl hfin) (by rw [ht]; rcases hv with rfl | rfl <;> rfl) (by rw [ht]; rcases hv with rfl | rfl <;> rfl) ?_ (fun j _ hj => zfld_put hj) rfl rfl rfl rfl rfl rfl rfl (fun x b hb => by rw [zput_I, if_neg (fun z => hb z.2)]) (fun _ _ _ => rfl) kk
  unfold zfld
  rw [if_neg (by rw [ht]; decide), zput_I, if_pos ⟨rfl, rfl⟩]
theorem zfits_ref {t : FieldType} (h : zref t = true) (b : Nat) : narrow t (.ref b) = .ref b ∧ fits t (.ref b) = true := by
  cases t <;> first | (simp [zref] at h; done) | exact ⟨rfl, rfl⟩
/-- a field of references, in the constructor -/
theorem zr_putR {idx c k a b : Nat} (hd : decode md.2.1 pc = .ok (.putfield idx, 3)) (hlk : Cond.fieldLink md.1.cls idx (zRX c) (zTX c k).2.1 (zTX c k).2.2.1 ∈ lw_tbl) (hin : md.1.name = "<init>") (hown : zRX c = md.1.cls) (hc : c < 13) (hk : k < zn c) (ht : zref (zty c k) = true) (hK : zK M a = c + 1)
    (kk : zw G md d k0 n0 Q (pc + 3) lv st (zputR M (c * 32 + k) a (some b))) : zw G md d k0 n0 Q pc lv (.ref b :: .ref a :: st) M := by
  refine zr_putV hd (Or.inl hlk) hc hk hK (Or.inr ⟨hin, hown, hlk⟩) (zfits_ref ht b).1 (zfits_ref ht b).2 ?_ (fun j _ hj => zfld_putR hj) rfl rfl rfl rfl rfl rfl rfl (fun _ _ _ => rfl) (fun x b9 hb => by rw [zputR_R, if_neg (fun z => hb z.2)]) kk
  unfold zfld
  rw [if_pos ht, zputR_R, if_pos ⟨rfl, rfl⟩]
  rfl
end ZH
