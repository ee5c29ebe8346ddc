/-! ===== the mirror's steps: what is made, as lists over places ===== -/
/-- one step: 0 an object, 1 a row, 2 a field's number, 3 a field's reference, 4 a cell's reference, 5 a row's first cells get -1, 6 a field gets -1 -/
def zap (N : zM) (o : Nat × Nat × Nat × Nat) : zM := match o with
  | (0, i, c, n) => znewO N i c n
  | (1, i, κ, n) => znewA N i κ n
  | (2, f, i, v) => zput N f i (nI v)
  | (3, f, i, j) => zputR N f i (some j)
  | (4, i, y, j) => zsetB N i (va_up (zB N i) y (some j))
  | (5, i, k, _) => m1s N i k
  | (_, f, i, _) => zput N f i (-1)
def zrun (N : zM) (l : List (Nat × Nat × Nat × Nat)) : zM := l.foldl zap N
def ze : zM := (fun _ _ => 0, fun _ _ => none, fun _ _ => 0, fun _ _ => none, fun _ _ => 0, fun _ => 0, fun _ => 0, 0, 0)
/-- M' is N' over places, and the places of N lie where they lay -/
def Nxt (ad : Nat → Nat) (N M' N' : zM) : Prop := ∃ ad', (∀ i, zK N i ≠ 0 → ad' i = ad i) ∧ Iso ad' M' N'
theorem ag1 {ad ad' : Nat → Nat} {N : zM} {p q : Nat} (hp : zK N p = 0) (h : ∀ i, zK N i ≠ 0 → ad' i = ad i) : ∀ i, zK N i ≠ 0 → adp ad' p q i = ad i := fun i hi => (adp_ne _ (fun z => hi (by rw [z]; exact hp))).trans (h i hi)
theorem Iso.c {ad : Nat → Nat} {M N : zM} (h : Iso ad M N) {a b : Nat} (hN : zC N + a ≤ 600128 ∧ zS N + b ≤ 7301098) : zC M + a ≤ 600128 ∧ zS M + b ≤ 7301098 := by rw [h.2.2.2.2.1, h.2.2.2.2.2]; exact hN
theorem Iso.c0 {ad : Nat → Nat} {M N : zM} (h : Iso ad M N) (hN : zC N + 20 ≤ 600128 ∧ zS N + 400000 ≤ 7301098) : zC M ≤ 600128 ∧ zS M ≤ 7301098 := by rw [h.2.2.2.2.1, h.2.2.2.2.2]; omega
theorem Iso.r {ad : Nat → Nat} {M N : zM} (h : Iso ad M N) {f i j c : Nat} (hk : zK N i = c + 1) (hc : c < 13) (hr : zR N f i = some j) : zR M f (ad i) = some (ad j) := by
  rw [((h.2.1 i (by omega)).2.1 (by omega) f).2, hr]; rfl
theorem kA {N : zM} {x i κ n v : Nat} (h : zK N x = v) (hx : x ≠ i) : zK (zap N (1, i, κ, n)) x = v := (va_up_ne _ _ hx).trans h
theorem kA0 {N : zM} {i κ n : Nat} : zK (zap N (1, i, κ, n)) i = κ := va_up_self _ _ _
theorem kO {N : zM} {x i c n v : Nat} (h : zK N x = v) (hx : x ≠ i) : zK (zap N (0, i, c, n)) x = v := (va_up_ne _ _ hx).trans h
theorem kO0 {N : zM} {i c n : Nat} : zK (zap N (0, i, c, n)) i = c + 1 := va_up_self _ _ _
section ZN
variable {G : zG} {md : zD} {d k0 n0 : Nat} {Q : zOut → zM → Prop} {pc : Nat} {lv : List (Option Value)} {st : List Value} {M N : zM} {ad : Nat → Nat}
theorem zn_new {idx c i : Nat} (hI : Iso ad M N) (hd : decode md.2.1 pc = .ok (.new idx, 3)) (hlk : Cond.classLink md.1.cls idx (zRX c) ∈ lw_tbl) (hc : c < 13) (hi : zK N i = 0) (hb : zC N + 1 ≤ 600128 ∧ zS N + zn c ≤ 7301098)
    (kk : ∀ ad1 M1, (∀ x, zK N x ≠ 0 → ad1 x = ad x) → Iso ad1 M1 (zap N (0, i, c, zn c)) → zw G md d k0 n0 Q (pc + 3) lv (.ref (ad1 i) :: st) M1) : zw G md d k0 n0 Q pc lv st M := by
  refine zr_new hd hlk hc (hI.c hb) (fun q hq => ?_)
  have h := kk (adp ad i q) _ (ag1 hi (fun _ _ => rfl)) (hI.newO hq hi hc)
  rw [adp_hit] at h
  exact h
theorem zn_newP {atype : ArrayType} {ty : FieldType} {κ t0 n i : Nat} (hI : Iso ad M N) (hd : decode md.2.1 pc = .ok (.newarray atype, 2)) (hty : newarray.typeOf atype = ty) (hk : (ty = .byte ∧ κ = 14 ∧ t0 = 0) ∨ (ty = .int ∧ κ = 15 ∧ t0 = 1) ∨ (ty = .boolean ∧ κ = 16 ∧ t0 = 2) ∨ (ty = .long ∧ κ = 17 ∧ t0 = 3))
    (hlk : Cond.arrayClass ty ∈ lw_tbl) (hn : n < 2 ^ 31) (hi : zK N i = 0) (hb : zC N + 1 ≤ 600128 ∧ zS N + n ≤ 7301098) (kk : ∀ ad1 M1, (∀ x, zK N x ≠ 0 → ad1 x = ad x) → Iso ad1 M1 (zap N (1, i, κ, n)) → zw G md d k0 n0 Q (pc + 2) lv (.ref (ad1 i) :: st) M1) : zw G md d k0 n0 Q pc lv (.int (nI n) :: st) M := by
  refine zr_newPN hd hty hk hlk hn (hI.c hb) (fun q hq => ?_)
  have h := kk (adp ad i q) _ (ag1 hi (fun _ _ => rfl)) (hI.newA hq hi (by omega))
  rw [adp_hit] at h
  exact h
theorem zn_newQ {idx κ t0 n i : Nat} {C : String} (hI : Iso ad M N) (hd : decode md.2.1 pc = .ok (.anewarray idx, 3)) (hk : (C = RX4 ∧ κ = 18 ∧ t0 = 4) ∨ (C = RX8 ∧ κ = 19 ∧ t0 = 5)) (hlk : Cond.classLink md.1.cls idx C ∈ lw_tbl) (hlk2 : Cond.arrayOver (.object C) ∈ lw_tbl)
    (hn : n < 2 ^ 31) (hi : zK N i = 0) (hb : zC N + 1 ≤ 600128 ∧ zS N + n ≤ 7301098) (kk : ∀ ad1 M1, (∀ x, zK N x ≠ 0 → ad1 x = ad x) → Iso ad1 M1 (zap N (1, i, κ, n)) → zw G md d k0 n0 Q (pc + 3) lv (.ref (ad1 i) :: st) M1) : zw G md d k0 n0 Q pc lv (.int (nI n) :: st) M := by
  refine zr_newQN hd hk hlk hlk2 hn (hI.c hb) (fun q hq => ?_)
  have h := kk (adp ad i q) _ (ag1 hi (fun _ _ => rfl)) (hI.newA hq hi (by omega))
  rw [adp_hit] at h
  exact h
theorem zn_putR {idx c k i j : Nat} (hI : Iso ad M N) (hd : decode md.2.1 pc = .ok (.putfield idx, 3)) (hlk : Cond.fieldLink md.1.cls idx (zRX c) (zTX c k).2.1 (zTX c k).2.2.1 ∈ lw_tbl) (hin : md.1.name = "<init>") (hown : zRX c = md.1.cls) (hc : c < 13) (hk : k < zn c) (ht : zref (zty c k) = true) (hK : zK N i = c + 1) (hj : zK N j ≠ 0)
    (kk : ∀ M1, Iso ad M1 (zap N (3, c * 32 + k, i, j)) → zw G md d k0 n0 Q (pc + 3) lv st M1) : zw G md d k0 n0 Q pc lv (.ref (ad j) :: .ref (ad i) :: st) M :=
  zr_putR hd hlk hin hown hc hk ht (hI.k hK (by omega)) (kk _ (hI.putR (by omega) hj))
theorem zn_putI {idx c k i v : Nat} (hI : Iso ad M N) (hd : decode md.2.1 pc = .ok (.putfield idx, 3)) (hlk : zlk md.1.cls idx c k) (hc : c < 13) (hk : k < zn c) (ht : zty c k = .int) (hfin : (zTX c k).2.2.2 = false) (hK : zK N i = c + 1)
    (kk : ∀ M1, Iso ad M1 (zap N (2, c * 32 + k, i, v)) → zw G md d k0 n0 Q (pc + 3) lv st M1) : zw G md d k0 n0 Q pc lv (.int (nI v) :: .ref (ad i) :: st) M :=
  zr_putI hd hlk hc hk ht hfin (hI.k hK (by omega)) (kk _ (hI.put (by omega)))
theorem zn_getR {idx c k i j : Nat} (hI : Iso ad M N) (hd : decode md.2.1 pc = .ok (.getfield idx, 3)) (hlk : zlk md.1.cls idx c k) (hc : c < 13) (hk : k < zn c) (ht : zref (zty c k) = true) (hK : zK N i = c + 1) (hr : zR N (c * 32 + k) i = some j)
    (kk : zw G md d k0 n0 Q (pc + 3) lv (.ref (ad j) :: st) M) : zw G md d k0 n0 Q pc lv (.ref (ad i) :: st) M :=
  zr_getR hd hlk hc hk ht (hI.k hK (by omega)) (hI.r hK hc hr) kk
theorem zn_aast {i j y n : Nat} (hI : Iso ad M N) (hd : decode md.2.1 pc = .ok (.aastore, 1)) (hK : (zK N i = 18 ∧ zK N j = 5) ∨ (zK N i = 19 ∧ zK N j = 9)) (hN : zN N i = n) (hi : y < n) (hn : n < 2 ^ 31)
    (kk : ∀ M1, Iso ad M1 (zap N (4, i, y, j)) → zw G md d k0 n0 Q (pc + 1) lv st M1) : zw G md d k0 n0 Q pc lv (.ref (ad j) :: .int (nI y) :: .ref (ad i) :: st) M := by
  have hi0 : zK N i ≠ 0 := by omega
  have hi4 : 14 ≤ zK N i := by omega
  have hj0 : zK N j ≠ 0 := by omega
  have e1 := (hI.2.1 i hi0).1
  have e2 := (hI.2.1 j hj0).1
  exact zr_aastN hd (by rw [e1, e2]; exact hK) ((((hI.2.1 i hi0).2.2 hi4).1).trans hN) hi hn (kk _ (hI.setB hi0 hi4 hj0))
end ZN
