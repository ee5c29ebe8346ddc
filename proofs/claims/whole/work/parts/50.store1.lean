/-! ===== LsmStore: find, firstFrom, lastBefore ===== -/
/-- the entries of the log and of the first n levels -/
def up (E : List Nat) (Ls : Nat → List zF) : Nat → List Nat
  | 0 => E
  | n + 1 => up E Ls n ++ lvE (Ls n)
/-- what can be read: the log's index and the levels -/
def Sto (ad : Nat → Nat) (M : zM) (E : List Nat) (Ls : Nat → List zF) : Prop := Lg ad M E ∧ Eb (zA M (ad 2)) E ∧ E.Pairwise (pre (zA M (ad 2))) ∧ ∀ l, l < 3 → Lv ad M l (Ls l) ∧ LC (zA M (ad 2)) (Ls l)
/-- what stands higher is newer -/
def Nwr (D : Nat → Int32) (E : List Nat) (Ls : Nat → List zF) : Prop := ∀ n, n < 3 → ∀ p ∈ up E Ls n, ∀ q ∈ lvE (Ls n), eky D p = eky D q → ecm D q < ecm D p
theorem up_le {E : List Nat} {Ls : Nat → List zF} {n k p : Nat} (h : n ≤ k) (hp : p ∈ up E Ls n) : p ∈ up E Ls k := by
  induction k with
  | zero => rw [show n = 0 by omega] at hp; exact hp
  | succ k ih =>
    rcases Nat.lt_or_ge n (k + 1) with e | e
    · exact List.mem_append_left _ (ih (by omega))
    · rw [show n = k + 1 by omega] at hp; exact hp
theorem Hit.up {D : Nat → Int32} {E : List Nat} {Ls : Nat → List zF} {k : List Nat} {v n p : Nat} (hN : Nwr D E Ls) : ∀ {m : Nat}, n + m ≤ 3 → Hit D (up E Ls n) k v (some p) → Hit D (up E Ls (n + m)) k v (some p)
  | 0, _, h => h
  | m + 1, hm, h => by
    have ih := Hit.up hN (m := m) (by omega) h
    obtain ⟨a1, a2, a3, a4⟩ := ih.1 p rfl
    refine ⟨fun q hq => ?_, fun z => by cases z⟩
    cases hq
    refine ⟨List.mem_append_left _ a1, a2, a3, fun q hq hk hv => ?_⟩
    rcases List.mem_append.mp hq with hq | hq
    · exact a4 q hq hk hv
    · exact Nat.le_of_lt (hN (n + m) (by omega) p a1 q hq (a2.trans hk.symm))
theorem Hit.join {D : Nat → Int32} {U V : List Nat} {k : List Nat} {v : Nat} {x : Option Nat} (h : Hit D U k v none) (g : Hit D V k v x) : Hit D (U ++ V) k v x := by
  have h0 := h.2 rfl
  refine ⟨fun p hp => ?_, fun hn q hq hk => ?_⟩
  · obtain ⟨a1, a2, a3, a4⟩ := g.1 p hp
    refine ⟨List.mem_append_right _ a1, a2, a3, fun q hq hk hv => ?_⟩
    rcases List.mem_append.mp hq with hq | hq
    · exact absurd hv (Nat.not_le.mpr (h0 q hq hk))
    · exact a4 q hq hk hv
  · rcases List.mem_append.mp hq with hq | hq
    · exact h0 q hq hk
    · exact g.2 hn q hq hk
/-- the first key that isn't before; the last that is -/
def FrmK (D : Nat → Int32) (U : List Nat) (k : List Nat) (v : Nat) (x : Option Nat) : Prop := (∀ p, x = some p → p ∈ U ∧ ¬ bef D p k v ∧ ∀ q ∈ U, ¬ bef D q k v → ¬ klt (eky D q) (eky D p)) ∧ (x = none → ∀ q ∈ U, bef D q k v)
def LstK (D : Nat → Int32) (U : List Nat) (k : List Nat) (v : Nat) (x : Option Nat) : Prop := (∀ p, x = some p → p ∈ U ∧ bef D p k v ∧ ∀ q ∈ U, bef D q k v → ¬ klt (eky D p) (eky D q)) ∧ (x = none → ∀ q ∈ U, ¬ bef D q k v)
theorem pre_nk {D : Nat → Int32} {p q : Nat} (h : q = p ∨ pre D p q) : ¬ klt (eky D q) (eky D p) := by
  rcases h with rfl | h
  · exact klt_irrefl _
  · exact pre_klt h
theorem Frm.k {D : Nat → Int32} {U : List Nat} {k : List Nat} {v : Nat} {x : Option Nat} (h : Frm D U k v x) : FrmK D U k v x := ⟨fun p hp => ⟨(h.1 p hp).1, (h.1 p hp).2.1, fun q hq hb => pre_nk ((h.1 p hp).2.2 q hq hb)⟩, h.2⟩
theorem Lst.k {D : Nat → Int32} {U : List Nat} {k : List Nat} {v : Nat} {x : Option Nat} (h : Lst D U k v x) : LstK D U k v x := ⟨fun p hp => ⟨(h.1 p hp).1, (h.1 p hp).2.1, fun q hq hb => pre_nk (((h.1 p hp).2.2 q hq hb).imp Eq.symm id)⟩, h.2⟩
theorem klt_cot {a b c : List Nat} (h1 : ¬ klt b a) (h2 : ¬ klt c b) : ¬ klt c a := fun z => by
  rcases klt_tri b c with e | e | e
  · exact h1 (klt_trans _ _ _ e z)
  · exact h1 (by rw [e]; exact z)
  · exact h2 e
/-- x the best of U, y of V: which is the best of both -/
theorem FrmK.left {D : Nat → Int32} {U V : List Nat} {k : List Nat} {v : Nat} {x y : Option Nat} (h : FrmK D U k v x) (g : FrmK D V k v y) (hxy : ∀ q, y = some q → ∃ p, x = some p ∧ ¬ klt (eky D q) (eky D p)) : FrmK D (U ++ V) k v x := by
  refine ⟨fun p hp => ⟨List.mem_append_left _ (h.1 p hp).1, (h.1 p hp).2.1, fun q hq hb => ?_⟩, fun hn q hq => ?_⟩
  · rcases List.mem_append.mp hq with hq | hq
    · exact (h.1 p hp).2.2 q hq hb
    · cases hy : y with
      | none => exact absurd (g.2 hy q hq) hb
      | some z =>
        obtain ⟨p', e, hk⟩ := hxy z hy
        cases Option.some.inj (hp.symm.trans e)
        exact klt_cot hk ((g.1 z hy).2.2 q hq hb)
  · rcases List.mem_append.mp hq with hq | hq
    · exact h.2 hn q hq
    · cases hy : y with
      | none => exact g.2 hy q hq
      | some z =>
        obtain ⟨p', e, -⟩ := hxy z hy
        rw [hn] at e; cases e
theorem FrmK.right {D : Nat → Int32} {U V : List Nat} {k : List Nat} {v z : Nat} {x : Option Nat} (h : FrmK D U k v x) (g : FrmK D V k v (some z)) (hxy : ∀ p, x = some p → klt (eky D z) (eky D p)) : FrmK D (U ++ V) k v (some z) := by
  obtain ⟨a1, a2, a3⟩ := g.1 z rfl
  refine ⟨fun p hp => ?_, fun hn => by cases hn⟩
  cases hp
  refine ⟨List.mem_append_right _ a1, a2, fun q hq hb => ?_⟩
  rcases List.mem_append.mp hq with hq | hq
  · cases hx : x with
    | none => exact absurd (h.2 hx q hq) hb
    | some p => exact fun w => (h.1 p hx).2.2 q hq hb (klt_trans _ _ _ w (hxy p hx))
  · exact a3 q hq hb
theorem LstK.left {D : Nat → Int32} {U V : List Nat} {k : List Nat} {v : Nat} {x y : Option Nat} (h : LstK D U k v x) (g : LstK D V k v y) (hxy : ∀ q, y = some q → ∃ p, x = some p ∧ ¬ klt (eky D p) (eky D q)) : LstK D (U ++ V) k v x := by
  refine ⟨fun p hp => ⟨List.mem_append_left _ (h.1 p hp).1, (h.1 p hp).2.1, fun q hq hb => ?_⟩, fun hn q hq => ?_⟩
  · rcases List.mem_append.mp hq with hq | hq
    · exact (h.1 p hp).2.2 q hq hb
    · cases hy : y with
      | none => exact absurd hb (g.2 hy q hq)
      | some z =>
        obtain ⟨p', e, hk⟩ := hxy z hy
        cases Option.some.inj (hp.symm.trans e)
        exact klt_cot ((g.1 z hy).2.2 q hq hb) hk
  · rcases List.mem_append.mp hq with hq | hq
    · exact h.2 hn q hq
    · cases hy : y with
      | none => exact g.2 hy q hq
      | some z =>
        obtain ⟨p', e, -⟩ := hxy z hy
        rw [hn] at e; cases e
theorem LstK.right {D : Nat → Int32} {U V : List Nat} {k : List Nat} {v z : Nat} {x : Option Nat} (h : LstK D U k v x) (g : LstK D V k v (some z)) (hxy : ∀ p, x = some p → klt (eky D p) (eky D z)) : LstK D (U ++ V) k v (some z) := by
  obtain ⟨a1, a2, a3⟩ := g.1 z rfl
  refine ⟨fun p hp => ?_, fun hn => by cases hn⟩
  cases hp
  refine ⟨List.mem_append_right _ a1, a2, fun q hq hb => ?_⟩
  rcases List.mem_append.mp hq with hq | hq
  · cases hx : x with
    | none => exact absurd hb (h.2 hx q hq)
    | some p => exact fun w => (h.1 p hx).2.2 q hq hb (klt_trans _ _ _ (hxy p hx) w)
  · exact a3 q hq hb
theorem up_eb {ad : Nat → Nat} {M : zM} {E : List Nat} {Ls : Nat → List zF} (h : Sto ad M E Ls) : ∀ {n p : Nat}, n ≤ 3 → p ∈ up E Ls n → p < 303096 ∧ ecm (zA M (ad 2)) p < 2 ^ 31
  | 0, p, _, hp => h.2.1 p hp
  | n + 1, p, hn, hp => (List.mem_append.mp hp).elim (fun z => up_eb h (by omega) z) (fun z => (h.2.2.2 n (by omega)).2.eb p z)
set_option maxRecDepth 100000 in
set_option maxHeartbeats 4000000 in
theorem l_find {G : zG} {ad : Nat → Nat} {d k0 n0 v r rc len cap : Nat} {E : List Nat} {Ls : Nat → List zF} {M : zM} {Q : zOut → zM → Prop} (hd : 4 ≤ d) (hcb : zC M ≤ 600128 ∧ zS M ≤ 7301098) (hL : Lay ad M) (hS : Sto ad M E Ls) (hw : zRw M r rc len cap) (hvb : v < 2 ^ 31) (hN : Nwr (zA M (ad 2)) E Ls) (hq0 : ∀ x : Option Nat, Hit (zA M (ad 2)) (up E Ls 3) (rwl (zA M rc) len) v x → Q (.inl (some (.int (zvi x)))) M) : ∀ (m n : Nat) (x : Option Nat), 3 - n = m → n ≤ 3 → Hit (zA M (ad 2)) (up E Ls n) (rwl (zA M rc) len) v x → zw G mX11_find d k0 n0 Q 13 [some (.ref ((ad 0))), some (.ref r), some (.int (nI v)), some (.int (zvi x)), some (.int (nI n))] [] M := by
  intro m
  induction m using Nat.strongRecOn with
  | _ m ih =>
    intro n x hm hn3 hx
    obtain ⟨gK, gR, gKb, gNb, gI, gl, gc⟩ := id hw
    have hbx : ∀ c, x = some c → c < 2 ^ 31 := fun c hc => by have := (up_eb hS hn3 (hx.1 c hc).1).1; omega
    refine zr_iload dX11_find_13 rfl ?_
    refine zr_iconst (v := nI 3) dX11_find_15 (by decide) ?_
    refine zr_icmp_geN 43 dX11_find_16 (by decide) (by omega) (by omega) (fun h16 => ?_) (fun h16 => ?_)
    · refine zr_iload_n dX11_find_43 rfl ?_
      refine zr_iret dX11_find_44 rfl ?_
      have e9 : n = 3 := by omega
      subst e9
      exact hq0 x hx
    · refine zr_iload_n dX11_find_19 rfl ?_
      refine zr_iconst (v := -1) dX11_find_20 (by decide) ?_
      refine zr_icmp_neO 43 dX11_find_21 (by decide) hbx (fun xv h21 => ?_) (fun h21 => ?_)
      · subst h21
        refine zr_iload_n dX11_find_43 rfl ?_
        refine zr_iret dX11_find_44 rfl ?_
        have e9 := hx.up hN (m := 3 - n) (by omega)
        rw [show n + (3 - n) = 3 by omega] at e9
        exact hq0 _ e9
      · subst h21
        refine zr_aload_n dX11_find_24 rfl ?_
        refine zr_getR dX11_find_25 lkX11_63 (by decide) (by decide) rfl (hL.K 0 12) (hL.R 360 0 22) ?_
        refine zr_iload dX11_find_28 rfl ?_
        refine zr_aaldK dX11_find_30 (Or.inl (hL.K 22 18)) (hL.N 22 3) (by omega) (by omega) (hL.lv (by omega)) ?_
        refine zr_aload_n dX11_find_31 rfl ?_
        refine zr_iload_n dX11_find_32 rfl ?_
        refine zr_callV (md' := mX4_find) (As := [.ref r, .int (nI v)]) dX11_find_33 mlX11_314 okX4_find rfl inX4_find slX4_find (by decide) (hL.Kl (by omega)) rfl (by omega) (Nat.le_of_ble_eq_true rfl) hcb (c_Level_find (d := d - 1) (by omega) hcb hL (l := n) (by omega) (hS.2.2.2 n (by omega)).1 (hS.2.2.2 n (by omega)).2 hw hvb) (fun k M1 h => by obtain ⟨-, t, h, -⟩ := h; cases h) (fun v M1 hq => ?_)
        obtain ⟨e1, y, e0, hy⟩ := hq
        cases e0
        rw [e1]
        refine zr_istore_n (lv' := [some (.ref ((ad 0))), some (.ref r), some (.int (nI v)), some (.int (zvi y)), some (.int (nI n))]) dX11_find_36 (Nat.le_of_ble_eq_true rfl) (Nat.le_of_ble_eq_true rfl) rfl rfl ?_
        refine zr_iincN (n := 1) (lv' := [some (.ref ((ad 0))), some (.ref r), some (.int (nI v)), some (.int (zvi y)), some (.int (nI (n + 1)))]) dX11_find_37 (Nat.le_of_ble_eq_true rfl) (Nat.le_of_ble_eq_true rfl) rfl rfl rfl ?_
        refine zr_goto 13 dX11_find_40 (by decide) ?_
        exact ih _ (by omega) (n + 1) y rfl (by omega) (hx.join hy)
set_option maxRecDepth 100000 in
set_option maxHeartbeats 4000000 in
theorem c_find {G : zG} {ad : Nat → Nat} {d v r rc len cap : Nat} {E : List Nat} {Ls : Nat → List zF} {M : zM} (hd : 4 ≤ d) (hcb : zC M ≤ 600128 ∧ zS M ≤ 7301098) (hL : Lay ad M) (hS : Sto ad M E Ls) (hw : zRw M r rc len cap) (hvb : v < 2 ^ 31) (hN : Nwr (zA M (ad 2)) E Ls)  : zMet G mX11_find d [.ref ((ad 0)), .ref r, .int (nI v)] M (fun o M' => M' = M ∧ ∃ x : Option Nat, o = .inl (some (.int (zvi x))) ∧ Hit (zA M (ad 2)) (up E Ls 3) (rwl (zA M rc) len) v x) := by
  refine zMet_of (by decide +kernel) (Nat.le_of_ble_eq_true rfl) rfl hcb ?_
  show zw G mX11_find d _ _ _ 0 [some (.ref ((ad 0))), some (.ref r), some (.int (nI v)), none, none] [] M
  obtain ⟨gK, gR, gKb, gNb, gI, gl, gc⟩ := id hw
  refine zr_aload_n dX11_find_0 rfl ?_
  refine zr_getR dX11_find_1 lkX11_50 (by decide) (by decide) rfl (hL.K 0 12) (hL.R 358 0 15) ?_
  refine zr_aload_n dX11_find_4 rfl ?_
  refine zr_iload_n dX11_find_5 rfl ?_
  refine zr_callV (md' := mX5_find) (As := [.ref r, .int (nI v)]) dX11_find_6 mlX11_313 okX5_find rfl inX5_find slX5_find (by decide) (hL.K 15 6) rfl (by omega) (Nat.le_of_ble_eq_true rfl) hcb (c_Log_find (d := d - 1) (by omega) hcb hL hS.1 hS.2.1 hS.2.2.1 hw hvb) (fun k M1 h => by obtain ⟨-, t, h, -⟩ := h; cases h) (fun v M1 hq => ?_)
  obtain ⟨e1, x, e0, hx⟩ := hq
  cases e0
  rw [e1]
  refine zr_istore_n (lv' := [some (.ref ((ad 0))), some (.ref r), some (.int (nI v)), some (.int (zvi x)), none]) dX11_find_9 (Nat.le_of_ble_eq_true rfl) (Nat.le_of_ble_eq_true rfl) rfl rfl ?_
  refine zr_iconst (v := nI 0) dX11_find_10 (by decide) ?_
  refine zr_istore (lv' := [some (.ref ((ad 0))), some (.ref r), some (.int (nI v)), some (.int (zvi x)), some (.int (nI 0))]) dX11_find_11 (Nat.le_of_ble_eq_true rfl) (Nat.le_of_ble_eq_true rfl) rfl rfl ?_
  exact l_find hd hcb hL hS hw hvb hN (fun x h => ⟨rfl, x, rfl, h⟩) _ 0 x rfl (by omega) hx
set_option maxRecDepth 100000 in
set_option maxHeartbeats 4000000 in
theorem l_firstFrom {G : zG} {ad : Nat → Nat} {d k0 n0 v r rc len cap : Nat} {E : List Nat} {Ls : Nat → List zF} {M : zM} {Q : zOut → zM → Prop} (hd : 4 ≤ d) (hcb : zC M ≤ 600128 ∧ zS M ≤ 7301098) (hL : Lay ad M) (hS : Sto ad M E Ls) (hw : zRw M r rc len cap) (hvb : v < 2 ^ 31) (hq0 : ∀ x : Option Nat, FrmK (zA M (ad 2)) (up E Ls 3) (rwl (zA M rc) len) v x → Q (.inl (some (.int (zvi x)))) M) : ∀ (m n : Nat) (x : Option Nat), 3 - n = m → n ≤ 3 → FrmK (zA M (ad 2)) (up E Ls n) (rwl (zA M rc) len) v x → zw G mX11_firstFrom d k0 n0 Q 13 [some (.ref ((ad 0))), some (.ref r), some (.int (nI v)), some (.int (zvi x)), some (.int (nI n)), none] [] M := by
  intro m
  induction m using Nat.strongRecOn with
  | _ m ih =>
    intro n x hm hn3 hx
    obtain ⟨gK, gR, gKb, gNb, gI, gl, gc⟩ := id hw
    have hbx : ∀ c, x = some c → c < 2 ^ 31 := fun c hc => by have := (up_eb hS hn3 (hx.1 c hc).1).1; omega
    refine zr_iload dX11_firstFrom_13 rfl ?_
    refine zr_iconst (v := nI 3) dX11_firstFrom_15 (by decide) ?_
    refine zr_icmp_geN 66 dX11_firstFrom_16 (by decide) (by omega) (by omega) (fun h16 => ?_) (fun h16 => ?_)
    · refine zr_iload_n dX11_firstFrom_66 rfl ?_
      refine zr_iret dX11_firstFrom_67 rfl ?_
      have e9 : n = 3 := by omega
      subst e9
      exact hq0 x hx
    · refine zr_aload_n dX11_firstFrom_19 rfl ?_
      refine zr_getR dX11_firstFrom_20 lkX11_63 (by decide) (by decide) rfl (hL.K 0 12) (hL.R 360 0 22) ?_
      refine zr_iload dX11_firstFrom_23 rfl ?_
      refine zr_aaldK dX11_firstFrom_25 (Or.inl (hL.K 22 18)) (hL.N 22 3) (by omega) (by omega) (hL.lv (by omega)) ?_
      refine zr_aload_n dX11_firstFrom_26 rfl ?_
      refine zr_iload_n dX11_firstFrom_27 rfl ?_
      refine zr_callV (md' := mX4_from) (As := [.ref r, .int (nI v)]) dX11_firstFrom_28 mlX11_334 okX4_from rfl inX4_from slX4_from (by decide) (hL.Kl (by omega)) rfl (by omega) (Nat.le_of_ble_eq_true rfl) hcb (c_Level_from (d := d - 1) (by omega) hcb hL (l := n) (by omega) (hS.2.2.2 n (by omega)).1 (hS.2.2.2 n (by omega)).2 hw hvb) (fun k M1 h => by obtain ⟨-, t, h, -⟩ := h; cases h) (fun v M1 hq => ?_)
      obtain ⟨e1, y, e0, hy0⟩ := hq
      cases e0
      rw [e1]
      have hy := hy0.k
      have hby : ∀ c, y = some c → c < 2 ^ 31 := fun c hc => by have := ((hS.2.2.2 n (by omega)).2.eb c (hy.1 c hc).1).1; omega
      refine zr_istore (lv' := [some (.ref ((ad 0))), some (.ref r), some (.int (nI v)), some (.int (zvi x)), some (.int (nI n)), some (.int (zvi y))]) dX11_firstFrom_31 (Nat.le_of_ble_eq_true rfl) (Nat.le_of_ble_eq_true rfl) rfl rfl ?_
      refine zr_iload dX11_firstFrom_33 rfl ?_
      refine zr_iconst (v := -1) dX11_firstFrom_35 (by decide) ?_
      refine zr_icmp_eqO 60 dX11_firstFrom_36 (by decide) hby (fun h36 => ?_) (fun yv h36 => ?_)
      · subst h36
        refine zr_iincN (n := 1) (lv' := [some (.ref ((ad 0))), some (.ref r), some (.int (nI v)), some (.int (zvi x)), some (.int (nI (n + 1))), some (.int ((-1)))]) dX11_firstFrom_60 (Nat.le_of_ble_eq_true rfl) (Nat.le_of_ble_eq_true rfl) rfl rfl rfl ?_
        refine zr_goto 13 dX11_firstFrom_63 (by decide) ?_
        refine zr_drop 5 rfl ?_
        exact ih _ (by omega) (n + 1) x rfl (by omega) (hx.left hy (fun q hq => by cases hq))
      · subst h36
        refine zr_iload_n dX11_firstFrom_39 rfl ?_
        refine zr_iconst (v := -1) dX11_firstFrom_40 (by decide) ?_
        refine zr_icmp_eqO 57 dX11_firstFrom_41 (by decide) hbx (fun h41 => ?_) (fun xv h41 => ?_)
        · subst h41
          refine zr_iload dX11_firstFrom_57 rfl ?_
          refine zr_istore_n (lv' := [some (.ref ((ad 0))), some (.ref r), some (.int (nI v)), some (.int (nI yv)), some (.int (nI n)), some (.int (nI yv))]) dX11_firstFrom_59 (Nat.le_of_ble_eq_true rfl) (Nat.le_of_ble_eq_true rfl) rfl rfl ?_
          refine zr_iincN (n := 1) (lv' := [some (.ref ((ad 0))), some (.ref r), some (.int (nI v)), some (.int (nI yv)), some (.int (nI (n + 1))), some (.int (nI yv))]) dX11_firstFrom_60 (Nat.le_of_ble_eq_true rfl) (Nat.le_of_ble_eq_true rfl) rfl rfl rfl ?_
          refine zr_goto 13 dX11_firstFrom_63 (by decide) ?_
          refine zr_drop 5 rfl ?_
          refine zr_asL (lv' := [some (.ref ((ad 0))), some (.ref r), some (.int (nI v)), some (.int (zvi (some yv))), some (.int (nI (n + 1))), none]) rfl ?_
          exact ih _ (by omega) (n + 1) (some yv) rfl (by omega) (hx.right hy (fun p hp => by cases hp))
        · subst h41
          refine zr_aload_n dX11_firstFrom_44 rfl ?_
          refine zr_getR dX11_firstFrom_45 lkX11_12 (by decide) (by decide) rfl (hL.K 0 12) (hL.R 352 0 1) ?_
          refine zr_iload dX11_firstFrom_48 rfl ?_
          refine zr_iload_n dX11_firstFrom_50 rfl ?_
          refine zr_callV (md' := mX1_order) (As := [.int (nI yv), .int (nI xv)]) dX11_firstFrom_51 mlX11_335 okX1_order rfl inX1_order slX1_order (by decide) (hL.K 1 2) rfl (by omega) (Nat.le_of_ble_eq_true rfl) hcb (c_Disk_order (d := d - 1) hcb (Lay.dk hL) (by have := ((hS.2.2.2 n (by omega)).2.eb yv (hy.1 yv rfl).1).1; omega) (by have := (up_eb hS hn3 (hx.1 xv rfl).1).1; omega)) (fun k M1 h => by obtain ⟨r, h, -⟩ := h; cases h) (fun v M1 hq => ?_)
          obtain ⟨rr, e0, e1, hr1, hr2⟩ := hq
          cases e0
          rw [e1]
          refine zr_if_ge 60 dX11_firstFrom_54 (by decide) (fun h54 => ?_) (fun h54 => ?_)
          · refine zr_iincN (n := 1) (lv' := [some (.ref ((ad 0))), some (.ref r), some (.int (nI v)), some (.int (nI xv)), some (.int (nI (n + 1))), some (.int (nI yv))]) dX11_firstFrom_60 (Nat.le_of_ble_eq_true rfl) (Nat.le_of_ble_eq_true rfl) rfl rfl rfl ?_
            refine zr_goto 13 dX11_firstFrom_63 (by decide) ?_
            refine zr_drop 5 rfl ?_
            refine zr_asL (lv' := [some (.ref ((ad 0))), some (.ref r), some (.int (nI v)), some (.int (zvi (some xv))), some (.int (nI (n + 1))), none]) rfl ?_
            exact ih _ (by omega) (n + 1) (some xv) rfl (by omega) (hx.left hy (fun q hq => ⟨xv, rfl, by cases hq; exact fun z => absurd (hr1.mpr z) (int32_lt_of h54)⟩))
          · refine zr_iload dX11_firstFrom_57 rfl ?_
            refine zr_istore_n (lv' := [some (.ref ((ad 0))), some (.ref r), some (.int (nI v)), some (.int (nI yv)), some (.int (nI n)), some (.int (nI yv))]) dX11_firstFrom_59 (Nat.le_of_ble_eq_true rfl) (Nat.le_of_ble_eq_true rfl) rfl rfl ?_
            refine zr_iincN (n := 1) (lv' := [some (.ref ((ad 0))), some (.ref r), some (.int (nI v)), some (.int (nI yv)), some (.int (nI (n + 1))), some (.int (nI yv))]) dX11_firstFrom_60 (Nat.le_of_ble_eq_true rfl) (Nat.le_of_ble_eq_true rfl) rfl rfl rfl ?_
            refine zr_goto 13 dX11_firstFrom_63 (by decide) ?_
            refine zr_drop 5 rfl ?_
            refine zr_asL (lv' := [some (.ref ((ad 0))), some (.ref r), some (.int (nI v)), some (.int (zvi (some yv))), some (.int (nI (n + 1))), none]) rfl ?_
            exact ih _ (by omega) (n + 1) (some yv) rfl (by omega) (hx.right hy (fun p hp => by cases hp; exact hr1.mp (int32_not_neg h54)))
set_option maxRecDepth 100000 in
set_option maxHeartbeats 4000000 in
theorem c_firstFrom {G : zG} {ad : Nat → Nat} {d v r rc len cap : Nat} {E : List Nat} {Ls : Nat → List zF} {M : zM} (hd : 4 ≤ d) (hcb : zC M ≤ 600128 ∧ zS M ≤ 7301098) (hL : Lay ad M) (hS : Sto ad M E Ls) (hw : zRw M r rc len cap) (hvb : v < 2 ^ 31)  : zMet G mX11_firstFrom d [.ref ((ad 0)), .ref r, .int (nI v)] M (fun o M' => M' = M ∧ ∃ x : Option Nat, o = .inl (some (.int (zvi x))) ∧ FrmK (zA M (ad 2)) (up E Ls 3) (rwl (zA M rc) len) v x) := by
  refine zMet_of (by decide +kernel) (Nat.le_of_ble_eq_true rfl) rfl hcb ?_
  show zw G mX11_firstFrom d _ _ _ 0 [some (.ref ((ad 0))), some (.ref r), some (.int (nI v)), none, none, none] [] M
  obtain ⟨gK, gR, gKb, gNb, gI, gl, gc⟩ := id hw
  refine zr_aload_n dX11_firstFrom_0 rfl ?_
  refine zr_getR dX11_firstFrom_1 lkX11_50 (by decide) (by decide) rfl (hL.K 0 12) (hL.R 358 0 15) ?_
  refine zr_aload_n dX11_firstFrom_4 rfl ?_
  refine zr_iload_n dX11_firstFrom_5 rfl ?_
  refine zr_callV (md' := mX5_from) (As := [.ref r, .int (nI v)]) dX11_firstFrom_6 mlX11_331 okX5_from rfl inX5_from slX5_from (by decide) (hL.K 15 6) rfl (by omega) (Nat.le_of_ble_eq_true rfl) hcb (c_Log_from (d := d - 1) (by omega) hcb hL hS.1 hS.2.1 hS.2.2.1 hw hvb) (fun k M1 h => by obtain ⟨-, t, h, -⟩ := h; cases h) (fun v M1 hq => ?_)
  obtain ⟨e1, x, e0, hx⟩ := hq
  cases e0
  rw [e1]
  refine zr_istore_n (lv' := [some (.ref ((ad 0))), some (.ref r), some (.int (nI v)), some (.int (zvi x)), none, none]) dX11_firstFrom_9 (Nat.le_of_ble_eq_true rfl) (Nat.le_of_ble_eq_true rfl) rfl rfl ?_
  refine zr_iconst (v := nI 0) dX11_firstFrom_10 (by decide) ?_
  refine zr_istore (lv' := [some (.ref ((ad 0))), some (.ref r), some (.int (nI v)), some (.int (zvi x)), some (.int (nI 0)), none]) dX11_firstFrom_11 (Nat.le_of_ble_eq_true rfl) (Nat.le_of_ble_eq_true rfl) rfl rfl ?_
  exact l_firstFrom hd hcb hL hS hw hvb (fun x h => ⟨rfl, x, rfl, h⟩) _ 0 x rfl (by omega) hx.k
set_option maxRecDepth 100000 in
set_option maxHeartbeats 4000000 in
theorem l_lastBefore {G : zG} {ad : Nat → Nat} {d k0 n0 r rc len cap : Nat} {E : List Nat} {Ls : Nat → List zF} {M : zM} {Q : zOut → zM → Prop} (hd : 4 ≤ d) (hcb : zC M ≤ 600128 ∧ zS M ≤ 7301098) (hL : Lay ad M) (hS : Sto ad M E Ls) (hw : zRw M r rc len cap) (hq0 : ∀ x : Option Nat, LstK (zA M (ad 2)) (up E Ls 3) (rwl (zA M rc) len) 2147483647 x → Q (.inl (some (.int (zvi x)))) M) : ∀ (m n : Nat) (x : Option Nat), 3 - n = m → n ≤ 3 → LstK (zA M (ad 2)) (up E Ls n) (rwl (zA M rc) len) 2147483647 x → zw G mX11_lastBefore d k0 n0 Q 11 [some (.ref ((ad 0))), some (.ref r), some (.int (zvi x)), some (.int (nI n)), none] [] M := by
  intro m
  induction m using Nat.strongRecOn with
  | _ m ih =>
    intro n x hm hn3 hx
    obtain ⟨gK, gR, gKb, gNb, gI, gl, gc⟩ := id hw
    have hbx : ∀ c, x = some c → c < 2 ^ 31 := fun c hc => by have := (up_eb hS hn3 (hx.1 c hc).1).1; omega
    refine zr_iload_n dX11_lastBefore_11 rfl ?_
    refine zr_iconst (v := nI 3) dX11_lastBefore_12 (by decide) ?_
    refine zr_icmp_geN 61 dX11_lastBefore_13 (by decide) (by omega) (by omega) (fun h13 => ?_) (fun h13 => ?_)
    · refine zr_iload_n dX11_lastBefore_61 rfl ?_
      refine zr_iret dX11_lastBefore_62 rfl ?_
      have e9 : n = 3 := by omega
      subst e9
      exact hq0 x hx
    · refine zr_aload_n dX11_lastBefore_16 rfl ?_
      refine zr_getR dX11_lastBefore_17 lkX11_63 (by decide) (by decide) rfl (hL.K 0 12) (hL.R 360 0 22) ?_
      refine zr_iload_n dX11_lastBefore_20 rfl ?_
      refine zr_aaldK dX11_lastBefore_21 (Or.inl (hL.K 22 18)) (hL.N 22 3) (by omega) (by omega) (hL.lv (by omega)) ?_
      refine zr_aload_n dX11_lastBefore_22 rfl ?_
      refine zr_callV (md' := mX4_lastBefore) (As := [.ref r]) dX11_lastBefore_23 mlX11_339 okX4_lastBefore rfl inX4_lastBefore slX4_lastBefore (by decide) (hL.Kl (by omega)) rfl (by omega) (Nat.le_of_ble_eq_true rfl) hcb (c_Level_lastBefore (d := d - 1) (by omega) hcb hL (l := n) (by omega) (hS.2.2.2 n (by omega)).1 (hS.2.2.2 n (by omega)).2 hw) (fun k M1 h => by obtain ⟨-, t, h, -⟩ := h; cases h) (fun v M1 hq => ?_)
      obtain ⟨e1, y, e0, hy0⟩ := hq
      cases e0
      rw [e1]
      have hy := hy0.k
      have hby : ∀ c, y = some c → c < 2 ^ 31 := fun c hc => by have := ((hS.2.2.2 n (by omega)).2.eb c (hy.1 c hc).1).1; omega
      refine zr_istore (lv' := [some (.ref ((ad 0))), some (.ref r), some (.int (zvi x)), some (.int (nI n)), some (.int (zvi y))]) dX11_lastBefore_26 (Nat.le_of_ble_eq_true rfl) (Nat.le_of_ble_eq_true rfl) rfl rfl ?_
      refine zr_iload dX11_lastBefore_28 rfl ?_
      refine zr_iconst (v := -1) dX11_lastBefore_30 (by decide) ?_
      refine zr_icmp_eqO 55 dX11_lastBefore_31 (by decide) hby (fun h31 => ?_) (fun yv h31 => ?_)
      · subst h31
        refine zr_iincN (n := 1) (lv' := [some (.ref ((ad 0))), some (.ref r), some (.int (zvi x)), some (.int (nI (n + 1))), some (.int ((-1)))]) dX11_lastBefore_55 (Nat.le_of_ble_eq_true rfl) (Nat.le_of_ble_eq_true rfl) rfl rfl rfl ?_
        refine zr_goto 11 dX11_lastBefore_58 (by decide) ?_
        refine zr_drop 4 rfl ?_
        exact ih _ (by omega) (n + 1) x rfl (by omega) (hx.left hy (fun q hq => by cases hq))
      · subst h31
        refine zr_iload_n dX11_lastBefore_34 rfl ?_
        refine zr_iconst (v := -1) dX11_lastBefore_35 (by decide) ?_
        refine zr_icmp_eqO 52 dX11_lastBefore_36 (by decide) hbx (fun h36 => ?_) (fun xv h36 => ?_)
        · subst h36
          refine zr_iload dX11_lastBefore_52 rfl ?_
          refine zr_istore_n (lv' := [some (.ref ((ad 0))), some (.ref r), some (.int (nI yv)), some (.int (nI n)), some (.int (nI yv))]) dX11_lastBefore_54 (Nat.le_of_ble_eq_true rfl) (Nat.le_of_ble_eq_true rfl) rfl rfl ?_
          refine zr_iincN (n := 1) (lv' := [some (.ref ((ad 0))), some (.ref r), some (.int (nI yv)), some (.int (nI (n + 1))), some (.int (nI yv))]) dX11_lastBefore_55 (Nat.le_of_ble_eq_true rfl) (Nat.le_of_ble_eq_true rfl) rfl rfl rfl ?_
          refine zr_goto 11 dX11_lastBefore_58 (by decide) ?_
          refine zr_drop 4 rfl ?_
          refine zr_asL (lv' := [some (.ref ((ad 0))), some (.ref r), some (.int (zvi (some yv))), some (.int (nI (n + 1))), none]) rfl ?_
          exact ih _ (by omega) (n + 1) (some yv) rfl (by omega) (hx.right hy (fun p hp => by cases hp))
        · subst h36
          refine zr_aload_n dX11_lastBefore_39 rfl ?_
          refine zr_getR dX11_lastBefore_40 lkX11_12 (by decide) (by decide) rfl (hL.K 0 12) (hL.R 352 0 1) ?_
          refine zr_iload dX11_lastBefore_43 rfl ?_
          refine zr_iload_n dX11_lastBefore_45 rfl ?_
          refine zr_callV (md' := mX1_order) (As := [.int (nI yv), .int (nI xv)]) dX11_lastBefore_46 mlX11_335 okX1_order rfl inX1_order slX1_order (by decide) (hL.K 1 2) rfl (by omega) (Nat.le_of_ble_eq_true rfl) hcb (c_Disk_order (d := d - 1) hcb (Lay.dk hL) (by have := ((hS.2.2.2 n (by omega)).2.eb yv (hy.1 yv rfl).1).1; omega) (by have := (up_eb hS hn3 (hx.1 xv rfl).1).1; omega)) (fun k M1 h => by obtain ⟨r, h, -⟩ := h; cases h) (fun v M1 hq => ?_)
          obtain ⟨rr, e0, e1, hr1, hr2⟩ := hq
          cases e0
          rw [e1]
          refine zr_if_le 55 dX11_lastBefore_49 (by decide) (fun h49 => ?_) (fun h49 => ?_)
          · refine zr_iincN (n := 1) (lv' := [some (.ref ((ad 0))), some (.ref r), some (.int (nI xv)), some (.int (nI (n + 1))), some (.int (nI yv))]) dX11_lastBefore_55 (Nat.le_of_ble_eq_true rfl) (Nat.le_of_ble_eq_true rfl) rfl rfl rfl ?_
            refine zr_goto 11 dX11_lastBefore_58 (by decide) ?_
            refine zr_drop 4 rfl ?_
            refine zr_asL (lv' := [some (.ref ((ad 0))), some (.ref r), some (.int (zvi (some xv))), some (.int (nI (n + 1))), none]) rfl ?_
            exact ih _ (by omega) (n + 1) (some xv) rfl (by omega) (hx.left hy (fun q hq => ⟨xv, rfl, by cases hq; exact fun z => by rcases Int32.lt_or_eq_of_le h49 with y | y; exact klt_irrefl _ (klt_trans _ _ _ z (hr1.mp y)); exact klt_ne z (hr2.mp y).symm⟩))
          · refine zr_iload dX11_lastBefore_52 rfl ?_
            refine zr_istore_n (lv' := [some (.ref ((ad 0))), some (.ref r), some (.int (nI yv)), some (.int (nI n)), some (.int (nI yv))]) dX11_lastBefore_54 (Nat.le_of_ble_eq_true rfl) (Nat.le_of_ble_eq_true rfl) rfl rfl ?_
            refine zr_iincN (n := 1) (lv' := [some (.ref ((ad 0))), some (.ref r), some (.int (nI yv)), some (.int (nI (n + 1))), some (.int (nI yv))]) dX11_lastBefore_55 (Nat.le_of_ble_eq_true rfl) (Nat.le_of_ble_eq_true rfl) rfl rfl rfl ?_
            refine zr_goto 11 dX11_lastBefore_58 (by decide) ?_
            refine zr_drop 4 rfl ?_
            refine zr_asL (lv' := [some (.ref ((ad 0))), some (.ref r), some (.int (zvi (some yv))), some (.int (nI (n + 1))), none]) rfl ?_
            exact ih _ (by omega) (n + 1) (some yv) rfl (by omega) (hx.right hy (fun p hp => by cases hp; exact (klt_tri (eky (zA M (ad 2)) yv) (eky (zA M (ad 2)) xv)).elim (fun z => absurd (hr1.mpr z) (fun z2 => h49 (Int32.le_of_lt z2))) (fun z => z.elim (fun z => absurd (hr2.mpr z) (fun z2 => h49 (by rw [z2]; exact Int32.le_refl _))) id)))
set_option maxRecDepth 100000 in
set_option maxHeartbeats 4000000 in
theorem c_lastBefore {G : zG} {ad : Nat → Nat} {d r rc len cap : Nat} {E : List Nat} {Ls : Nat → List zF} {M : zM} (hd : 4 ≤ d) (hcb : zC M ≤ 600128 ∧ zS M ≤ 7301098) (hL : Lay ad M) (hS : Sto ad M E Ls) (hw : zRw M r rc len cap)  : zMet G mX11_lastBefore d [.ref ((ad 0)), .ref r] M (fun o M' => M' = M ∧ ∃ x : Option Nat, o = .inl (some (.int (zvi x))) ∧ LstK (zA M (ad 2)) (up E Ls 3) (rwl (zA M rc) len) 2147483647 x) := by
  refine zMet_of (by decide +kernel) (Nat.le_of_ble_eq_true rfl) rfl hcb ?_
  show zw G mX11_lastBefore d _ _ _ 0 [some (.ref ((ad 0))), some (.ref r), none, none, none] [] M
  obtain ⟨gK, gR, gKb, gNb, gI, gl, gc⟩ := id hw
  refine zr_aload_n dX11_lastBefore_0 rfl ?_
  refine zr_getR dX11_lastBefore_1 lkX11_50 (by decide) (by decide) rfl (hL.K 0 12) (hL.R 358 0 15) ?_
  refine zr_aload_n dX11_lastBefore_4 rfl ?_
  refine zr_callV (md' := mX5_lastBefore) (As := [.ref r]) dX11_lastBefore_5 mlX11_338 okX5_lastBefore rfl inX5_lastBefore slX5_lastBefore (by decide) (hL.K 15 6) rfl (by omega) (Nat.le_of_ble_eq_true rfl) hcb (c_Log_lastBefore (d := d - 1) (by omega) hcb hL hS.1 hS.2.1 hS.2.2.1 hw) (fun k M1 h => by obtain ⟨-, t, h, -⟩ := h; cases h) (fun v M1 hq => ?_)
  obtain ⟨e1, x, e0, hx⟩ := hq
  cases e0
  rw [e1]
  refine zr_istore_n (lv' := [some (.ref ((ad 0))), some (.ref r), some (.int (zvi x)), none, none]) dX11_lastBefore_8 (Nat.le_of_ble_eq_true rfl) (Nat.le_of_ble_eq_true rfl) rfl rfl ?_
  refine zr_iconst (v := nI 0) dX11_lastBefore_9 (by decide) ?_
  refine zr_istore_n (lv' := [some (.ref ((ad 0))), some (.ref r), some (.int (zvi x)), some (.int (nI 0)), none]) dX11_lastBefore_10 (Nat.le_of_ble_eq_true rfl) (Nat.le_of_ble_eq_true rfl) rfl rfl ?_
  exact l_lastBefore hd hcb hL hS hw (fun x h => ⟨rfl, x, rfl, h⟩) _ 0 x rfl (by omega) hx.k
