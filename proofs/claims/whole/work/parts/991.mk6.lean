/-! ===== constructors, in the mirror (6): the law's head ===== -/
theorem Iso.ext {ad ad' : Nat → Nat} {M N : zM} (h : Iso ad M N) (he : ∀ i, zK N i ≠ 0 → ad' i = ad i) : Iso ad' M N := by
  have hm : ∀ o : Option Nat, (∀ j, o = some j → zK N j ≠ 0) → o.map ad' = o.map ad := fun o ho => by
    cases o with
    | none => rfl
    | some j => exact congrArg some (he j (ho j rfl))
  refine ⟨fun i j hi hj e => h.1 i j hi hj (by rw [← he i hi, ← he j hj]; exact e), fun i hi => ?_, h.2.2⟩
  obtain ⟨a1, a2, a3⟩ := h.2.1 i hi
  rw [he i hi]
  refine ⟨a1, fun hl f => ⟨(a2 hl f).1, ?_⟩, fun hl => ⟨(a3 hl).1, (a3 hl).2.1, fun x => ?_⟩⟩
  · rw [hm _ (fun j hj => h.2.2.1 i f j hi hl hj)]; exact (a2 hl f).2
  · rw [hm _ (fun j hj => h.2.2.2.1 i x j hi hl hj)]; exact (a3 hl).2.2 x
def okp (o : Nat × Nat × Nat × Nat) : Bool := match o with
  | (0, _, _, _) => true
  | (1, _, _, _) => true
  | (2, f, i, _) => psx.contains (f, i)
  | (3, _, _, _) => true
  | (4, _, _, _) => true
  | (5, i, k, _) => i == 14 && k == 8
  | (_, f, i, _) => psx.contains (f, i)
def Wz (N : zM) : Prop := (∀ f i, (f, i) ∉ psx → zI N f i = 0) ∧ (∀ i, i ≠ 14 → ∀ j, zA N i j = 0) ∧ (∀ j, 8 ≤ j → zA N 14 j = 0)
theorem m1s_I (N : zM) (b : Nat) : ∀ k, zI (m1s N b k) = zI N
  | 0 => rfl
  | k + 1 => (show zI (m1s N b (k + 1)) = zI (m1s N b k) from rfl).trans (m1s_I N b k)
theorem m1s_A (N : zM) {b i : Nat} (h : i ≠ b) : ∀ k, zA (m1s N b k) i = zA N i
  | 0 => rfl
  | k + 1 => by
    show va_up (zA (m1s N b k)) b _ i = _
    rw [va_up_ne _ _ h]
    exact m1s_A N h k
theorem m1s_Ahi (N : zM) {b j : Nat} : ∀ k, k ≤ j → zA (m1s N b k) b j = zA N b j
  | 0, _ => rfl
  | k + 1, h => by
    show va_up (zA (m1s N b k)) b (upd (zA (m1s N b k) b) k (-1)) b j = _
    rw [va_up_self]
    show (if j = k then _ else zA (m1s N b k) b j) = _
    rw [if_neg (by omega)]
    exact m1s_Ahi N k (by omega)
theorem Wz.nA {N : zM} (h : Wz N) (i κ n : Nat) : Wz (znewA N i κ n) := by
  refine ⟨h.1, fun x hx j => ?_, fun j hj => ?_⟩
  · show va_up (zA N) i (fun _ => 0) x j = 0
    by_cases e : x = i
    · rw [e, va_up_self]
    · rw [va_up_ne _ _ e]; exact h.2.1 x hx j
  · show va_up (zA N) i (fun _ => 0) 14 j = 0
    by_cases e : 14 = i
    · rw [← e, va_up_self]
    · rw [va_up_ne _ _ e]; exact h.2.2 j hj
theorem Wz.nO {N : zM} (h : Wz N) (i c n : Nat) : Wz (znewO N i c n) := by
  refine ⟨fun f x hx => ?_, h.2⟩
  show (if x = i then 0 else zI N f x) = 0
  by_cases e : x = i
  · rw [if_pos e]
  · rw [if_neg e]; exact h.1 f x hx
theorem Wz.pt {N : zM} (h : Wz N) {f i : Nat} (v : Int32) (hp : psx.contains (f, i) = true) : Wz (zput N f i v) := by
  refine ⟨fun g x hx => ?_, h.2⟩
  show (if g = f ∧ x = i then v else zI N g x) = 0
  rw [if_neg (fun z => hx (by rw [z.1, z.2]; first | exact List.contains_iff_mem.mp hp | exact List.elem_iff.mp hp | simpa using hp))]
  exact h.1 g x hx
theorem Wz.zap {N : zM} (h : Wz N) (o : Nat × Nat × Nat × Nat) (ho : okp o = true) : Wz (zap N o) := by
  obtain ⟨t, x, y, z⟩ := o
  rcases t with _ | _ | _ | _ | _ | _ | t
  · exact h.nO x y z
  · exact h.nA x y z
  · exact h.pt _ ho
  · exact h
  · exact h
  · have ho2 : (x == 14 && y == 8) = true := ho
    rw [Bool.and_eq_true, beq_iff_eq, beq_iff_eq] at ho2
    obtain ⟨e1, e2⟩ := ho2
    subst e1
    subst e2
    refine ⟨fun f i hi => ?_, fun i hi j => ?_, fun j hj => ?_⟩
    · show zI (m1s N 14 8) f i = 0
      rw [m1s_I]; exact h.1 f i hi
    · show zA (m1s N 14 8) i j = 0
      rw [m1s_A N hi]; exact h.2.1 i hi j
    · show zA (m1s N 14 8) 14 j = 0
      rw [m1s_Ahi N 8 hj]; exact h.2.2 j hj
  · exact h.pt _ ho
theorem Wz.run {N : zM} (h : Wz N) (l : List (Nat × Nat × Nat × Nat)) (hl : ∀ o ∈ l, okp o = true) : Wz (zrun N l) := by
  induction l generalizing N with
  | nil => exact h
  | cons o l ih => exact ih (h.zap o (hl o List.mem_cons_self)) (fun o' ho' => hl o' (List.mem_cons_of_mem _ ho'))
theorem Wz.tl {N : zM} (h : Wz N) : ∀ k, Wz (tlN N k)
  | 0 => h
  | k + 1 => (Wz.tl h k).run (tb k) (fun o ho => by
    unfold tb at ho
    simp only [List.mem_cons, List.not_mem_nil, or_false] at ho
    rcases ho with e | e | e | e | e <;> (rw [e]; rfl))
theorem wz0 : Wz ze := ⟨fun _ _ _ => rfl, fun _ _ _ => rfl, fun _ _ => rfl⟩
theorem wz17 : Wz b17 := by
  have w0 : Wz b0 := wz0.zap _ (by decide)
  have w1 : Wz b1 := ((w0.zap _ (by decide)).run _ (by decide)).zap _ (by decide)
  have w2 : Wz b2 := ((w1.zap _ (by decide)).run _ (by decide)).zap _ (by decide)
  have w3 : Wz b3 := ((w2.zap _ (by decide)).run _ (by decide)).zap _ (by decide)
  have w4 : Wz b4 := ((w3.zap _ (by decide)).run _ (by decide)).zap _ (by decide)
  have w5 : Wz b5 := ((w4.zap _ (by decide)).run _ (by decide)).zap _ (by decide)
  have w6 : Wz b6 := ((w5.zap _ (by decide)).run _ (by decide)).zap _ (by decide)
  have w7 : Wz b7 := ((w6.zap _ (by decide)).run _ (by decide)).zap _ (by decide)
  have w7f : Wz b7f := w7.zap _ (by decide)
  have w7g : Wz b7g := w7f.run _ (by decide)
  have w8 : Wz b8 := (w7g.tl 256).zap _ (by decide)
  have w9 : Wz b9 := (w8.zap _ (by decide)).zap _ (by decide)
  have w10 : Wz b10 := ((w9.zap _ (by decide)).run _ (by decide)).zap _ (by decide)
  have w11 : Wz b11 := ((w10.zap _ (by decide)).run _ (by decide)).zap _ (by decide)
  have w12 : Wz b12 := ((w11.zap _ (by decide)).run _ (by decide)).zap _ (by decide)
  have w13 : Wz b13 := ((w12.zap _ (by decide)).run _ (by decide)).zap _ (by decide)
  have w14 : Wz b14 := ((w13.zap _ (by decide)).run _ (by decide)).zap _ (by decide)
  have w15 : Wz b15 := ((w14.zap _ (by decide)).run _ (by decide)).zap _ (by decide)
  have w16 : Wz b16 := (w15.zap _ (by decide)).run _ (by decide)
  exact w16.zap _ (by decide)
theorem ub (a : Nat → Nat) : ∀ n, ∃ B, ∀ i, i < n → a i < B
  | 0 => ⟨0, fun i hi => by omega⟩
  | n + 1 => by
    obtain ⟨B, h⟩ := ub a n
    refine ⟨B + a n + 1, fun i hi => ?_⟩
    by_cases e : i = n
    · rw [e]; omega
    · have := h i (by omega); omega
theorem ivl_none {f i : Nat} (hi : i < 582) (hk : kd i < 14) (h : (f, i) ∉ psx) : ivl f i = 0 := by
  have hn : ∀ a b, (a, b) ∈ psx → ¬ (f = a ∧ i = b) := fun a b hm z => h (by rw [z.1, z.2]; exact hm)
  unfold ivl
  rw [if_neg (hn 34 1 (by decide)), if_neg (hn 35 1 (by decide)), if_neg (hn 69 17 (by decide)), if_neg (hn 70 17 (by decide)), if_neg (hn 401 38 (by decide)), if_neg (fun z => ?_)]
  · rfl
  · rcases kd_odd i hi z.2 hk with e | e | e
    · exact hn 259 576 (by decide) ⟨z.1, e⟩
    · exact hn 259 578 (by decide) ⟨z.1, e⟩
    · exact hn 259 580 (by decide) ⟨z.1, e⟩
theorem zs_of {a : Nat → Nat} {M : zM} (h : Iso a M b17) : ∃ ad : Nat → Nat, ad 0 = a 0 ∧ ad 38 = a 38 ∧ ad 46 = a 46 ∧ Zs ad M := by
  obtain ⟨B, hB⟩ := ub a 582
  have hg : ∀ i, i < 582 → zK b17 i ≠ 0 → ¬ (47 ≤ i ∧ i < 64) := fun i hi hz z => hz (by rw [bk_K i hi]; exact kd_gap2 i hi z.1 z.2)
  have hgo : ∀ i, i < 582 → ¬ (47 ≤ i ∧ i < 64) → zK b17 i ≠ 0 := fun i hi hz e => hz (kd_gap i hi (by rw [← bk_K i hi]; exact e))
  obtain ⟨ad, hin, hout⟩ : ∃ ad : Nat → Nat, (∀ i, 47 ≤ i ∧ i < 64 → ad i = B + i) ∧ (∀ i, ¬ (47 ≤ i ∧ i < 64) → ad i = a i) := ⟨fun i => if 47 ≤ i ∧ i < 64 then B + i else a i, fun i hi => if_pos hi, fun i hi => if_neg hi⟩
  have I : Iso ad M b17 := h.ext (fun i hi => by
    by_cases hl : i < 582
    · exact hout i (hg i hl hi)
    · exact hout i (by omega))
  have r : ∀ f i j, i < 582 → kd i ≠ 0 → kd i < 14 → zR b17 f i = some j → zR M f (ad i) = some (ad j) := fun f i j hi h0 h4 e => by
    rw [((I.2.1 i (by rw [bk_K i hi]; exact h0)).2.1 (by rw [bk_K i hi]; exact h4) f).2, e]; rfl
  have rb : ∀ i x j, i < 582 → 14 ≤ kd i → zB b17 i x = some j → zB M (ad i) x = some (ad j) := fun i x j hi h4 e => by
    rw [((I.2.1 i (by rw [bk_K i hi]; omega)).2.2 (by rw [bk_K i hi]; exact h4)).2.2 x, e]; rfl
  refine ⟨ad, hout 0 (by omega), hout 38 (by omega), hout 46 (by omega), ⟨fun i j hi hj e => ?_, fun i hi h0 => ?_, fun i hi h4 => ?_, fun q hq => ?_, fun j hj => ?_, fun l hl => ?_, fun l hl => ?_, fun j hj => ?_⟩, fun f i hi h0 h4 => ?_, fun i hi h4 => ?_, ?_⟩
  · by_cases ei : 47 ≤ i ∧ i < 64
    · by_cases ej : 47 ≤ j ∧ j < 64
      · rw [hin i ei, hin j ej] at e; omega
      · rw [hin i ei, hout j ej] at e; have := hB j hj; omega
    · by_cases ej : 47 ≤ j ∧ j < 64
      · rw [hout i ei, hin j ej] at e; have := hB i hi; omega
      · exact I.1 i j (hgo i hi ei) (hgo j hj ej) e
  · rw [(I.2.1 i (by rw [bk_K i hi]; exact h0)).1, bk_K i hi]
  · rw [((I.2.1 i (by rw [bk_K i hi]; omega)).2.2 (by rw [bk_K i hi]; exact h4)).1, bk_N i hi h4]
  · obtain ⟨q1, q2, q3⟩ := kd_rf q hq
    exact r _ _ _ q1 q2 q3 (bk_R q hq)
  · have hk : kd (tA j) = 9 := kd_tA j
    exact ⟨r _ _ _ (by unfold tA; omega) (by omega) (by omega) (bk_T j hj).1, r _ _ _ (by unfold tA; omega) (by omega) (by omega) (bk_T j hj).2⟩
  · have hk : kd (32 + l) = 5 := by rcases (show l = 0 ∨ l = 1 ∨ l = 2 by omega) with e | e | e <;> (rw [e]; rfl)
    exact ⟨r _ _ _ (by omega) (by omega) (by omega) (bk_L l hl).1, r _ _ _ (by omega) (by omega) (by omega) (bk_L l hl).2.1, r _ _ _ (by omega) (by omega) (by omega) (bk_L l hl).2.2⟩
  · exact rb 22 l _ (by decide) (by decide) (bk_B l hl)
  · exact rb 20 j _ (by decide) (by decide) (bk_P j hj)
  · rw [((I.2.1 i (by rw [bk_K i hi]; exact h0)).2.1 (by rw [bk_K i hi]; exact h4) f).1]
    by_cases hm : (f, i) ∈ psx
    · exact bk_I (f, i) hm
    · rw [wz17.1 f i hm, ivl_none hi h4 hm]
  · rw [((I.2.1 i (by rw [bk_K i hi]; omega)).2.2 (by rw [bk_K i hi]; exact h4)).2.1]
    funext j
    unfold al
    by_cases e : i = 14
    · subst e
      by_cases hj : j < 8
      · rw [if_pos ⟨rfl, hj⟩]; exact bk_A j hj
      · rw [if_neg (fun z => hj z.2)]; exact wz17.2.2 j (by omega)
    · rw [if_neg (fun z => e z.1)]; exact wz17.2.1 i e j
  · rw [I.2.2.2.2.1, I.2.2.2.2.2]; exact bk_C
set_option maxRecDepth 100000 in
set_option maxHeartbeats 4000000 in
theorem t_law0 {G : zG} {d k0 n0 : Nat} {Q : zOut → zM → Prop} {M : zM} (hd : 14 ≤ d) (hgn : gn G ≤ 320) (hq9 : ∀ M : zM, zC M ≤ 600128 ∧ zS M ≤ 7301098 → Q (.inl (some (.int (nI 1)))) M) (hK : ∀ x, zK M x = 0) (hC : zC M = 0 ∧ zS M = 0) : zw G mL_law d k0 n0 Q 0 [some (.ref (gb G)), none, none, none, none, none, none, none] [] M := by
  obtain ⟨ad, hI⟩ : ∃ ad : Nat → Nat, Iso ad M ze := ⟨fun x => x, fun i _ hi => absurd rfl hi, fun i hi => absurd rfl hi, fun i _ _ hi => absurd rfl hi, fun i _ _ hi => absurd rfl hi, hC.1, hC.2⟩
  refine zn_new (i := 0) hI dL_law_0 clL_8 (by decide) (by decide +kernel) (by decide +kernel) (fun a1 M1 h1 I1 => ?_)
  have J2 : Iso a1 M1 b0 := I1
  refine zr_dup dL_law_3 rfl ?_
  refine zr_callI (md' := mX11_init) (As := []) dL_law_4 (Or.inl mlL_85) okX11_init rfl rfl rfl inX11_init rfl (by omega) (Nat.le_of_ble_eq_true rfl) (J2.c0 (by decide +kernel)) (v_X11 (d := d - 1) (by omega) (show Iso a1 M1 b0 from J2)) (fun k M1 h => by cases h.1) (fun v M3 hq => ?_)
  obtain ⟨e0, a3, u3_0, I3⟩ := hq
  cases e0
  show zw G mL_law d _ _ _ 7 [some (.ref (gb G)), none, none, none, none, none, none, none] [.ref (a1 0)] M3
  have q3_0 : a3 0 = a1 0 := u3_0
  rw [← q3_0]
  refine zr_astore_n (lv' := [some (.ref (gb G)), some (.ref (a3 0)), none, none, none, none, none, none]) dL_law_7 (Nat.le_of_ble_eq_true rfl) (Nat.le_of_ble_eq_true rfl) rfl rfl ?_
  refine zn_new (i := 38) I3 dL_law_8 clL_86 (by decide) (by decide +kernel) (by decide +kernel) (fun a4 M4 h4 I4 => ?_)
  have q4_0 : a4 0 = a3 0 := h4 0 (by decide +kernel)
  rw [← q4_0]
  refine zr_dup dL_law_11 rfl ?_
  refine zr_callI (md' := mX12_init) (As := []) dL_law_12 (Or.inl mlL_88) okX12_init rfl rfl rfl inX12_init rfl (by omega) (Nat.le_of_ble_eq_true rfl) (I4.c0 (by decide +kernel)) (v_X12 (d := d - 1) (by omega) I4 (by decide +kernel) (by decide +kernel) (by decide +kernel) (by decide +kernel) (by decide +kernel) (by decide +kernel) (by decide +kernel) (by decide +kernel) (by decide +kernel)) (fun k M1 h => by cases h.1) (fun v M5 hq => ?_)
  obtain ⟨e0, a5, h5, I5⟩ := hq
  cases e0
  show zw G mL_law d _ _ _ 15 [some (.ref (gb G)), some (.ref (a4 0)), none, none, none, none, none, none] [.ref (a4 38)] M5
  have q5_0 : a5 0 = a4 0 := h5 0 (by decide +kernel)
  rw [← q5_0]
  have q5_38 : a5 38 = a4 38 := h5 38 (by decide +kernel)
  rw [← q5_38]
  have J6 : Iso a5 M5 b16 := I5
  refine zr_astore_n (lv' := [some (.ref (gb G)), some (.ref (a5 0)), some (.ref (a5 38)), none, none, none, none, none]) dL_law_15 (Nat.le_of_ble_eq_true rfl) (Nat.le_of_ble_eq_true rfl) rfl rfl ?_
  refine zr_iconst (v := nI 1) dL_law_16 (by decide) ?_
  refine zn_newP (κ := 17) (i := 46) J6 dL_law_17 rfl (Or.inr (Or.inr (Or.inr ⟨rfl, rfl, rfl⟩))) ac_long (by decide) (by decide +kernel) (by decide +kernel) (fun a7 M7 h7 I7 => ?_)
  have q7_0 : a7 0 = a5 0 := h7 0 (by decide +kernel)
  rw [← q7_0]
  have q7_38 : a7 38 = a5 38 := h7 38 (by decide +kernel)
  rw [← q7_38]
  have J8 : Iso a7 M7 b17 := I7
  refine zr_astore_n (lv' := [some (.ref (gb G)), some (.ref (a7 0)), some (.ref (a7 38)), some (.ref (a7 46)), none, none, none, none]) dL_law_19 (Nat.le_of_ble_eq_true rfl) (Nat.le_of_ble_eq_true rfl) rfl rfl ?_
  refine zr_iconst (v := nI 0) dL_law_20 (by decide) ?_
  refine zr_istore (lv' := [some (.ref (gb G)), some (.ref (a7 0)), some (.ref (a7 38)), some (.ref (a7 46)), some (.int (nI 0)), none, none, none]) dL_law_21 (Nat.le_of_ble_eq_true rfl) (Nat.le_of_ble_eq_true rfl) rfl rfl ?_
  obtain ⟨ad9, e0, e1, e2, hZ⟩ := zs_of J8
  rw [← e0, ← e1, ← e2]
  exact l_law hd hgn hq9 64 0 A0 _ rfl (by decide) hZ.sa hZ.ta
