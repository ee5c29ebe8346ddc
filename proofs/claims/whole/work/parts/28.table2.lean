/-! ===== LsmStore$Table: hash, allows, close, lastBefore, faults ===== -/
theorem rwl_snoc (f : Nat → Int32) (n : Nat) : rwl f (n + 1) = rwl f n ++ [zb (f n)] := by
  unfold rwl
  rw [List.range_succ, List.map_append]; rfl
/-- the hash of a key, its stride, its probes; whether a filter at F has them all -/
def hst (h : Int32) (b : Nat) : Int32 := (h ^^^ nI b) * nI 16777619
def hfo (k : List Nat) : Int32 := k.foldl hst (-2128831035)
def hsh (k : List Nat) : Int32 := hfo k ^^^ (Int32.toUInt32 (hfo k) >>> (Int32.toUInt32 (nI 15) &&& Int32.toUInt32 31)).toInt32
def srd (h : Int32) : Int32 := (Int32.toUInt32 h >>> (Int32.toUInt32 (nI 12) &&& Int32.toUInt32 31)).toInt32 ||| nI 1
def plc (x : Int32) : Nat := x.toBitVec.toNat % 2 ^ 12
def prb (h : Int32) : Nat → Int32
  | 0 => h
  | i + 1 => prb h i + srd h
def fbit (D : Nat → Int32) (F : Nat) (x : Int32) : Prop := ¬ (nI (zb (D (F + plc x / 8)))) &&& (nI 1 <<< (nI (plc x % 8) &&& 31)) = 0
def Fil (D : Nat → Int32) (F : Nat) (k : List Nat) : Prop := ∀ i, i < 4 → fbit D F (prb (hsh k) i)
theorem hfo_snoc (k : List Nat) (b : Nat) : hfo (k ++ [b]) = hst (hfo k) b := by
  unfold hfo
  rw [List.foldl_append]; rfl
theorem plc_lt (x : Int32) : plc x < 4096 := Nat.mod_lt _ (by decide)
set_option maxRecDepth 100000 in
set_option maxHeartbeats 4000000 in
theorem l_Table_hash {G : zG} {d k0 n0 fr s n nf : Nat} {M : zM} {Q : zOut → zM → Prop} (hKf : zK M fr = 14) (hNf : zN M fr = nf) (hnf : nf < 2 ^ 30) (hs : s + n ≤ nf) (hq : Q (.inl (some (.int (hsh (rwl (fun i => zA M fr (s + i)) n))))) M) : ∀ (m i : Nat) , n - i = m → i ≤ n → zw G mX8_hash d k0 n0 Q 10 [some (.ref fr), some (.int (nI s)), some (.int (nI n)), some (.int ((hfo (rwl (fun i => zA M fr (s + i)) i)))), some (.int (nI (s + i)))] [] M := by
  intro m
  induction m using Nat.strongRecOn with
  | _ m ih =>
    intro i hm hi
    refine zr_iload dX8_hash_10 rfl ?_
    refine zr_iload_n dX8_hash_12 rfl ?_
    refine zr_iload_n dX8_hash_13 rfl ?_
    refine zr_iaddN dX8_hash_14 ?_
    refine zr_icmp_geN 45 dX8_hash_15 (by decide) (by omega) (by omega) (fun h15 => ?_) (fun h15 => ?_)
    · refine zr_iload_n dX8_hash_45 rfl ?_
      refine zr_iload_n dX8_hash_46 rfl ?_
      refine zr_bipush (v := nI 15) dX8_hash_47 (by decide) ?_
      refine zr_iushr dX8_hash_49 ?_
      refine zr_ixor dX8_hash_50 ?_
      refine zr_iret dX8_hash_51 rfl ?_
      first | (exfalso; omega) | (rw [show i = n by omega]; exact hq)
    · refine zr_iload dX8_hash_18 rfl ?_
      refine zr_aload_n dX8_hash_20 rfl ?_
      refine zr_alenN dX8_hash_21 hKf (by decide) hNf ?_
      refine zr_icmp_geN 45 dX8_hash_22 (by decide) (by omega) (by omega) (fun h22 => ?_) (fun h22 => ?_)
      · refine zr_iload_n dX8_hash_45 rfl ?_
        refine zr_iload_n dX8_hash_46 rfl ?_
        refine zr_bipush (v := nI 15) dX8_hash_47 (by decide) ?_
        refine zr_iushr dX8_hash_49 ?_
        refine zr_ixor dX8_hash_50 ?_
        refine zr_iret dX8_hash_51 rfl ?_
        first | (exfalso; omega) | (rw [show i = n by omega]; exact hq)
      · refine zr_iload_n dX8_hash_25 rfl ?_
        refine zr_aload_n dX8_hash_26 rfl ?_
        refine zr_iload dX8_hash_27 rfl ?_
        refine zr_baldN dX8_hash_29 hKf hNf (by omega) (by omega) (fun f29 => ?_)
        refine zr_sipush (v := nI 255) dX8_hash_30 (by decide) ?_
        refine zr_iand255 dX8_hash_33 ?_
        refine zr_ixor dX8_hash_34 ?_
        refine zr_ldc dX8_hash_35 ctX8_74 ?_
        refine zr_as (y := nI 16777619) (by decide) ?_
        refine zr_imul dX8_hash_37 ?_
        refine zr_istore_n (lv' := [some (.ref fr), some (.int (nI s)), some (.int (nI n)), some (.int ((((hfo (rwl (fun i => zA M fr (s + i)) i)) ^^^ (nI (zb (zA M fr (s + i))))) * (nI 16777619)))), some (.int (nI (s + i)))]) dX8_hash_38 (Nat.le_of_ble_eq_true rfl) (Nat.le_of_ble_eq_true rfl) rfl rfl ?_
        refine zr_iincN (n := 1) (lv' := [some (.ref fr), some (.int (nI s)), some (.int (nI n)), some (.int ((((hfo (rwl (fun i => zA M fr (s + i)) i)) ^^^ (nI (zb (zA M fr (s + i))))) * (nI 16777619)))), some (.int (nI ((s + i) + 1)))]) dX8_hash_39 (Nat.le_of_ble_eq_true rfl) (Nat.le_of_ble_eq_true rfl) rfl rfl rfl ?_
        refine zr_goto 10 dX8_hash_42 (by decide) ?_
        rw [show ((hfo (rwl (fun i => zA M fr (s + i)) i) ^^^ nI (zb (zA M fr (s + i)))) * nI 16777619) = hfo (rwl (fun i => zA M fr (s + i)) (i + 1)) from by rw [rwl_snoc, hfo_snoc]; rfl]
        exact ih _ (by omega) (i + 1) rfl (by omega)
set_option maxRecDepth 100000 in
set_option maxHeartbeats 4000000 in
theorem c_Table_hash {G : zG} {d fr s n nf : Nat} {M : zM} (hd : 1 ≤ d) (hcb : zC M ≤ 600128 ∧ zS M ≤ 7301098) (hKf : zK M fr = 14) (hNf : zN M fr = nf) (hnf : nf < 2 ^ 30) (hs : s + n ≤ nf)  : zMet G mX8_hash d [.ref fr, .int (nI s), .int (nI n)] M (fun o M' => o = .inl (some (.int (hsh (rwl (fun i => zA M fr (s + i)) n)))) ∧ M' = M) := by
  refine zMet_of (by decide +kernel) (Nat.le_of_ble_eq_true rfl) rfl hcb ?_
  show zw G mX8_hash d _ _ _ 0 [some (.ref fr), some (.int (nI s)), some (.int (nI n)), none, none] [] M
  refine zr_ldc dX8_hash_0 ctX8_68 ?_
  refine zr_istore_n (lv' := [some (.ref fr), some (.int (nI s)), some (.int (nI n)), some (.int ((-2128831035))), none]) dX8_hash_2 (Nat.le_of_ble_eq_true rfl) (Nat.le_of_ble_eq_true rfl) rfl rfl ?_
  refine zr_iconst (v := nI 0) dX8_hash_3 (by decide) ?_
  refine zr_iload_n dX8_hash_4 rfl ?_
  refine zr_callS (md' := mJ9_max_7cf53) (As := [.int (nI 0), .int (nI s)]) dX8_hash_5 mlX8_69 okJ9_max_7cf53 rfl stJ9_max_7cf53 rfl (by omega) (Nat.le_of_ble_eq_true rfl) hcb (c_max (d := d - 1) hcb (by omega) (by omega)) (fun k M1 h => by cases h.1) (fun v M1 hq => ?_)
  obtain ⟨e0, e1⟩ := hq
  cases e0
  rw [e1]
  rw [show max 0 s = s by omega]
  refine zr_istore (lv' := [some (.ref fr), some (.int (nI s)), some (.int (nI n)), some (.int ((-2128831035))), some (.int (nI s))]) dX8_hash_8 (Nat.le_of_ble_eq_true rfl) (Nat.le_of_ble_eq_true rfl) rfl rfl ?_
  exact l_Table_hash hKf hNf hnf hs ⟨rfl, rfl⟩ _ 0 rfl (by omega)
set_option maxRecDepth 100000 in
set_option maxHeartbeats 4000000 in
theorem c_Table_strideOf {G : zG} {d : Nat} {h : Int32} {M : zM} (hcb : zC M ≤ 600128 ∧ zS M ≤ 7301098)  : zMet G mX8_strideOf d [.int h] M (fun o M' => o = .inl (some (.int (srd h))) ∧ M' = M) := by
  refine zMet_of (by decide +kernel) (Nat.le_of_ble_eq_true rfl) rfl hcb ?_
  show zw G mX8_strideOf d _ _ _ 0 [some (.int h)] [] M
  refine zr_iload_n dX8_strideOf_0 rfl ?_
  refine zr_bipush (v := nI 12) dX8_strideOf_1 (by decide) ?_
  refine zr_iushr dX8_strideOf_3 ?_
  refine zr_iconst (v := nI 1) dX8_strideOf_4 (by decide) ?_
  refine zr_ior dX8_strideOf_5 ?_
  refine zr_iret dX8_strideOf_6 rfl ?_
  first | (exfalso; omega) | exact ⟨rfl, rfl⟩
set_option maxRecDepth 100000 in
set_option maxHeartbeats 4000000 in
theorem l_Table_allows {G : zG} {ad : Nat → Nat} {d k0 n0 j fr s n f : Nat} {h : Int32} {bl : List Nat} {la : Option Nat} {M : zM} {Q : zOut → zM → Prop} (hd : 1 ≤ d) (hcb : zC M ≤ 600128 ∧ zS M ≤ 7301098) (hL : Lay ad M) (hj : j < 259) (hT : Tb ad M j bl la) (hf : 80 ≤ f ∧ f < 592) (hq0 : ∀ t : Nat, t ≤ 1 → (t = 1 ↔ ∀ i, i < 4 → fbit (zA M (ad 2)) (f * 512) (prb h i)) → Q (.inl (some (.int (nI t)))) M) : ∀ (m i : Nat), 4 - i = m → i ≤ 4 → (∀ x, x < i → fbit (zA M (ad 2)) (f * 512) (prb h x)) → zw G mX8_allows d k0 n0 Q 45 [some (.ref ((ad (tA j)))), some (.ref fr), some (.int (nI s)), some (.int (nI n)), some (.int (nI (f * 512))), some (.int ((prb h i))), some (.int ((srd h))), some (.int (nI i)), none] [] M := by
  intro m
  induction m using Nat.strongRecOn with
  | _ m ih =>
    intro i hm hi hyes
    obtain ⟨ht1, ht2, ht3, ht4⟩ := id hT
    refine zr_iload dX8_allows_45 rfl ?_
    refine zr_iconst (v := nI 4) dX8_allows_47 (by decide) ?_
    refine zr_icmp_geN 100 dX8_allows_48 (by decide) (by omega) (by omega) (fun h48 => ?_) (fun h48 => ?_)
    · refine zr_iconst (v := nI 1) dX8_allows_100 (by decide) ?_
      refine zr_zret dX8_allows_101 rfl (Or.inr rfl) ?_
      exact hq0 1 (by decide) ⟨fun _ x hx => hyes x (by omega), fun _ => rfl⟩
    · refine zr_iload dX8_allows_51 rfl ?_
      refine zr_sipush (v := nI 4095) dX8_allows_53 (by decide) ?_
      refine zr_iand dX8_allows_56 ?_
      refine zr_as (y := nI (plc (prb h i))) (pk_and _ 12 (by decide +kernel)) ?_
      have hpl := plc_lt (prb h i)
      refine zr_istore (lv' := [some (.ref ((ad (tA j)))), some (.ref fr), some (.int (nI s)), some (.int (nI n)), some (.int (nI (f * 512))), some (.int ((prb h i))), some (.int ((srd h))), some (.int (nI i)), some (.int (nI (plc (prb h i))))]) dX8_allows_57 (Nat.le_of_ble_eq_true rfl) (Nat.le_of_ble_eq_true rfl) rfl rfl ?_
      refine zr_aload_n dX8_allows_59 rfl ?_
      refine zr_getR dX8_allows_60 lkX8_15 (by decide) (by decide) rfl (hL.Kt hj) (hL.td hj) ?_
      refine zr_iload dX8_allows_63 rfl ?_
      refine zr_iload dX8_allows_65 rfl ?_
      refine zr_bipush (v := nI 8) dX8_allows_67 (by decide) ?_
      refine zr_idivN dX8_allows_69 (by omega) (by omega) (by omega) ?_
      refine zr_iaddN dX8_allows_70 ?_
      refine zr_callV (md' := mX1_kind) (As := [.int (nI ((f * 512) + ((plc (prb h i)) / 8)))]) dX8_allows_71 mlX8_46 okX1_kind rfl inX1_kind slX1_kind (by decide) (hL.K 1 2) rfl (by omega) (Nat.le_of_ble_eq_true rfl) hcb (c_Disk_kind (d := d - 1) hcb hL.dk (by omega)) (fun k M1 h => by cases h.1) (fun v M1 hq => ?_)
      obtain ⟨e0, e1⟩ := hq
      cases e0
      rw [e1]
      refine zr_iconst (v := nI 1) dX8_allows_74 (by decide) ?_
      refine zr_iload dX8_allows_75 rfl ?_
      refine zr_bipush (v := nI 8) dX8_allows_77 (by decide) ?_
      refine zr_iremN dX8_allows_79 (by omega) (by omega) (by omega) ?_
      refine zr_ishl dX8_allows_80 ?_
      refine zr_iand dX8_allows_81 ?_
      refine zr_if_ne 87 dX8_allows_82 (by decide) (fun h82 => ?_) (fun h82 => ?_)
      · refine zr_iload dX8_allows_87 rfl ?_
        refine zr_iload dX8_allows_89 rfl ?_
        refine zr_iadd dX8_allows_91 ?_
        refine zr_istore (lv' := [some (.ref ((ad (tA j)))), some (.ref fr), some (.int (nI s)), some (.int (nI n)), some (.int (nI (f * 512))), some (.int (((prb h i) + (srd h)))), some (.int ((srd h))), some (.int (nI i)), some (.int (nI (plc (prb h i))))]) dX8_allows_92 (Nat.le_of_ble_eq_true rfl) (Nat.le_of_ble_eq_true rfl) rfl rfl ?_
        refine zr_iincN (n := 1) (lv' := [some (.ref ((ad (tA j)))), some (.ref fr), some (.int (nI s)), some (.int (nI n)), some (.int (nI (f * 512))), some (.int (((prb h i) + (srd h)))), some (.int ((srd h))), some (.int (nI (i + 1))), some (.int (nI (plc (prb h i))))]) dX8_allows_94 (Nat.le_of_ble_eq_true rfl) (Nat.le_of_ble_eq_true rfl) rfl rfl rfl ?_
        refine zr_goto 45 dX8_allows_97 (by decide) ?_
        refine zr_drop 8 rfl ?_
        exact ih _ (by omega) (i + 1) rfl (by omega) (fun x hx => (Nat.lt_or_ge x i).elim (fun z => hyes x z) (fun z => by rw [show x = i by omega]; exact h82))
      · refine zr_iconst (v := nI 0) dX8_allows_85 (by decide) ?_
        refine zr_zret dX8_allows_86 rfl (Or.inl rfl) ?_
        exact hq0 0 (by decide) ⟨fun z => absurd z (by decide), fun z => absurd h82 (z i (by omega))⟩
set_option maxRecDepth 100000 in
set_option maxHeartbeats 4000000 in
theorem c_Table_allows {G : zG} {ad : Nat → Nat} {d j fr s n nf f : Nat} {bl : List Nat} {la : Option Nat} {M : zM} (hd : 2 ≤ d) (hcb : zC M ≤ 600128 ∧ zS M ≤ 7301098) (hL : Lay ad M) (hj : j < 259) (hT : Tb ad M j bl la) (hbr : Br bl) (hKf : zK M fr = 14) (hNf : zN M fr = nf) (hnf : nf < 2 ^ 30) (hs : s + n ≤ nf) (hne : 1 ≤ bl.length) (hf : bl[bl.length - 1]? = some f)  : zMet G mX8_allows d [.ref ((ad (tA j))), .ref fr, .int (nI s), .int (nI n)] M (fun o M' => M' = M ∧ ∃ t : Nat, t ≤ 1 ∧ o = .inl (some (.int (nI t))) ∧ (t = 1 ↔ Fil (zA M (ad 2)) (f * 512) (rwl (fun i => zA M fr (s + i)) n))) := by
  refine zMet_of (by decide +kernel) (Nat.le_of_ble_eq_true rfl) rfl hcb ?_
  show zw G mX8_allows d _ _ _ 0 [some (.ref ((ad (tA j)))), some (.ref fr), some (.int (nI s)), some (.int (nI n)), none, none, none, none, none] [] M
  obtain ⟨ht1, ht2, ht3, ht4⟩ := id hT
  refine zr_aload_n dX8_allows_0 rfl ?_
  refine zr_getI dX8_allows_1 lkX8_19 (by decide) (by decide) rfl (hL.Kt hj) ?_
  refine zr_as (y := (nI bl.length)) ht1 ?_
  refine zr_iconst (v := nI 1) dX8_allows_4 (by decide) ?_
  refine zr_icmp_geN 10 dX8_allows_5 (by decide) (by omega) (by omega) (fun h5 => ?_) (fun h5 => ?_)
  · have hbr1 := hbr.1 f (List.mem_of_getElem? hf)
    refine zr_aload_n dX8_allows_10 rfl ?_
    refine zr_getR dX8_allows_11 lkX8_9 (by decide) (by decide) rfl (hL.Kt hj) (hL.tb hj) ?_
    refine zr_aload_n dX8_allows_14 rfl ?_
    refine zr_getI dX8_allows_15 lkX8_19 (by decide) (by decide) rfl (hL.Kt hj) ?_
    refine zr_as (y := (nI bl.length)) ht1 ?_
    refine zr_iconst (v := nI 1) dX8_allows_18 (by decide) ?_
    refine zr_isubN dX8_allows_19 (by omega) ?_
    refine zr_ialdN dX8_allows_20 (hL.Kb hj) (hL.Nb hj) (by omega) (by omega) ?_
    refine zr_as (y := (nI f)) (ht3 _ f hf) ?_
    refine zr_sipush (v := nI 512) dX8_allows_21 (by decide) ?_
    refine zr_imulN dX8_allows_24 ?_
    refine zr_istore (lv' := [some (.ref ((ad (tA j)))), some (.ref fr), some (.int (nI s)), some (.int (nI n)), some (.int (nI (f * 512))), none, none, none, none]) dX8_allows_25 (Nat.le_of_ble_eq_true rfl) (Nat.le_of_ble_eq_true rfl) rfl rfl ?_
    refine zr_aload_n dX8_allows_27 rfl ?_
    refine zr_iload_n dX8_allows_28 rfl ?_
    refine zr_iload_n dX8_allows_29 rfl ?_
    refine zr_callS (md' := mX8_hash) (As := [.ref fr, .int (nI s), .int (nI n)]) dX8_allows_30 mlX8_39 okX8_hash rfl stX8_hash rfl (by omega) (Nat.le_of_ble_eq_true rfl) hcb (c_Table_hash (d := d - 1) (by omega) hcb hKf hNf hnf hs) (fun k M1 h => by cases h.1) (fun v M1 hq => ?_)
    obtain ⟨e0, e1⟩ := hq
    cases e0
    rw [e1]
    refine zr_istore (lv' := [some (.ref ((ad (tA j)))), some (.ref fr), some (.int (nI s)), some (.int (nI n)), some (.int (nI (f * 512))), some (.int ((hsh (rwl (fun i => zA M fr (s + i)) n)))), none, none, none]) dX8_allows_33 (Nat.le_of_ble_eq_true rfl) (Nat.le_of_ble_eq_true rfl) rfl rfl ?_
    refine zr_iload dX8_allows_35 rfl ?_
    refine zr_callS (md' := mX8_strideOf) (As := [.int ((hsh (rwl (fun i => zA M fr (s + i)) n)))]) dX8_allows_37 mlX8_43 okX8_strideOf rfl stX8_strideOf rfl (by omega) (Nat.le_of_ble_eq_true rfl) hcb (c_Table_strideOf (d := d - 1) hcb) (fun k M1 h => by cases h.1) (fun v M1 hq => ?_)
    obtain ⟨e0, e1⟩ := hq
    cases e0
    rw [e1]
    refine zr_istore (lv' := [some (.ref ((ad (tA j)))), some (.ref fr), some (.int (nI s)), some (.int (nI n)), some (.int (nI (f * 512))), some (.int ((hsh (rwl (fun i => zA M fr (s + i)) n)))), some (.int ((srd (hsh (rwl (fun i => zA M fr (s + i)) n))))), none, none]) dX8_allows_40 (Nat.le_of_ble_eq_true rfl) (Nat.le_of_ble_eq_true rfl) rfl rfl ?_
    refine zr_iconst (v := nI 0) dX8_allows_42 (by decide) ?_
    refine zr_istore (lv' := [some (.ref ((ad (tA j)))), some (.ref fr), some (.int (nI s)), some (.int (nI n)), some (.int (nI (f * 512))), some (.int ((hsh (rwl (fun i => zA M fr (s + i)) n)))), some (.int ((srd (hsh (rwl (fun i => zA M fr (s + i)) n))))), some (.int (nI 0)), none]) dX8_allows_43 (Nat.le_of_ble_eq_true rfl) (Nat.le_of_ble_eq_true rfl) rfl rfl ?_
    exact l_Table_allows (h := hsh (rwl (fun i => zA M fr (s + i)) n)) (by omega) hcb hL hj hT hbr1 (fun t h1 h2 => ⟨rfl, t, h1, rfl, h2⟩) _ 0 rfl (by omega) (fun x hx => by omega)
  · refine zr_iconst (v := nI 0) dX8_allows_8 (by decide) ?_
    refine zr_zret dX8_allows_9 rfl (Or.inl rfl) ?_
    exfalso; omega
set_option maxRecDepth 100000 in
set_option maxHeartbeats 4000000 in
theorem c_Table_allows0 {G : zG} {ad : Nat → Nat} {d j fr s n : Nat} {bl : List Nat} {la : Option Nat} {M : zM} (hcb : zC M ≤ 600128 ∧ zS M ≤ 7301098) (hL : Lay ad M) (hj : j < 259) (hT : Tb ad M j bl la) (h0 : bl.length = 0)  : zMet G mX8_allows d [.ref ((ad (tA j))), .ref fr, .int (nI s), .int (nI n)] M (fun o M' => o = .inl (some (.int (nI 0))) ∧ M' = M) := by
  refine zMet_of (by decide +kernel) (Nat.le_of_ble_eq_true rfl) rfl hcb ?_
  show zw G mX8_allows d _ _ _ 0 [some (.ref ((ad (tA j)))), some (.ref fr), some (.int (nI s)), some (.int (nI n)), none, none, none, none, none] [] M
  obtain ⟨ht1, ht2, ht3, ht4⟩ := id hT
  refine zr_aload_n dX8_allows_0 rfl ?_
  refine zr_getI dX8_allows_1 lkX8_19 (by decide) (by decide) rfl (hL.Kt hj) ?_
  refine zr_as (y := (nI bl.length)) ht1 ?_
  refine zr_iconst (v := nI 1) dX8_allows_4 (by decide) ?_
  refine zr_icmp_geN 10 dX8_allows_5 (by decide) (by omega) (by omega) (fun h5 => ?_) (fun h5 => ?_)
  · exfalso; omega
  · refine zr_iconst (v := nI 0) dX8_allows_8 (by decide) ?_
    refine zr_zret dX8_allows_9 rfl (Or.inl rfl) ?_
    exact ⟨rfl, rfl⟩
theorem Cb.blk {D : Nat → Int32} : ∀ {ps : List Nat} {p : Nat}, Cb D p ps → ∀ q ∈ p :: ps, q / 512 = p / 512
  | [], p, _, q, hq => by cases List.mem_singleton.mp hq; rfl
  | x :: ps, p, h, q, hq => by
    rcases List.mem_cons.mp hq with rfl | hq
    · rfl
    · have h1 := Cb.blk h.2 q hq
      have h2 := h.1
      unfold nib at h2
      split at h2
      · next z => cases h2; rw [h1, z.1]
      · cases h2
set_option maxRecDepth 100000 in
set_option maxHeartbeats 4000000 in
theorem l_Table_close {G : zG} {ad : Nat → Nat} {d k0 n0 j : Nat} {M : zM} {Q : zOut → zM → Prop} (hd : 1 ≤ d) (hcb : zC M ≤ 600128 ∧ zS M ≤ 7301098) (hL : Lay ad M) (hj : j < 259) : ∀ (ps : List Nat) (a i : Nat) (x0 : Int32), Cb (zA M (ad 2)) a ps → (∀ q ∈ a :: ps, q < 303096) → i + ps.length < 511 → Q (.inl none) (zput M 259 (ad (tA j)) (nI ((a :: ps).getLast (List.cons_ne_nil _ _)))) → zw G mX8_close d k0 n0 Q 18 [some (.ref ((ad (tA j)))), some (.int (nI a)), some (.int (nI i))] [] (zput M 259 (ad (tA j)) x0) := by
  intro ps
  induction ps with
  | nil =>
    intro a i x0 hch hin hl hq0
    have hnb : nib (zA M (ad 2)) a = none := hch
    have ha := hin a List.mem_cons_self
    rw [List.length_nil] at hl
    refine zr_iload_n dX8_close_18 rfl ?_
    refine zr_sipush (v := nI 512) dX8_close_19 (by decide) ?_
    refine zr_icmp_geN 50 dX8_close_22 (by decide) (by omega) (by omega) (fun h22 => ?_) (fun h22 => ?_)
    · refine zr_vret dX8_close_50 rfl ?_
      first | (exfalso; omega) | exact hq0
    · refine zr_iload_n dX8_close_25 rfl ?_
      refine zr_iconst (v := -1) dX8_close_26 (by decide) ?_
      refine zr_icmp_eqM 50 dX8_close_27 (by decide) (by omega) ?_
      refine zr_aload_n dX8_close_30 rfl ?_
      refine zr_iload_n dX8_close_31 rfl ?_
      refine zr_putI dX8_close_32 lkX8_23 (by decide) (by decide) rfl rfl (hL.Kt hj) ?_
      refine zr_aload_n dX8_close_35 rfl ?_
      refine zr_getR dX8_close_36 lkX8_15 (by decide) (by decide) rfl (hL.Kt hj) (hL.td hj) ?_
      refine zr_iload_n dX8_close_39 rfl ?_
      refine zr_callV (md' := mX1_nextInBlock) (As := [.int (nI a)]) dX8_close_40 mlX8_30 okX1_nextInBlock rfl inX1_nextInBlock slX1_nextInBlock (by decide) (hL.K 1 2) rfl (by omega) (Nat.le_of_ble_eq_true rfl) hcb (c_Disk_nextT (d := d - 1) hcb hL.dk (by omega)) (fun k M1 h => by cases h.1) (fun v M1 hq => ?_)
      obtain ⟨e0, e1⟩ := hq
      cases e0
      rw [e1, show zA (zput (zput M 259 (ad (tA j)) x0) (8 * 32 + 3) (ad (tA j)) (nI a)) (ad 2) = zA M (ad 2) from rfl, hnb]
      refine zr_istore_n (lv' := [some (.ref ((ad (tA j)))), some (.int ((-1))), some (.int (nI i))]) dX8_close_43 (Nat.le_of_ble_eq_true rfl) (Nat.le_of_ble_eq_true rfl) rfl rfl ?_
      refine zr_iincN (n := 1) (lv' := [some (.ref ((ad (tA j)))), some (.int ((-1))), some (.int (nI (i + 1)))]) dX8_close_44 (Nat.le_of_ble_eq_true rfl) (Nat.le_of_ble_eq_true rfl) rfl rfl rfl ?_
      refine zr_goto 18 dX8_close_47 (by decide) ?_
      rw [zput_put]
      refine zr_iload_n dX8_close_18 rfl ?_
      refine zr_sipush (v := nI 512) dX8_close_19 (by decide) ?_
      refine zr_icmp_geN 50 dX8_close_22 (by decide) (by omega) (by omega) (fun h22 => ?_) (fun h22 => ?_)
      · refine zr_vret dX8_close_50 rfl ?_
        first | (exfalso; omega) | exact hq0
      · refine zr_iload_n dX8_close_25 rfl ?_
        refine zr_iconst (v := -1) dX8_close_26 (by decide) ?_
        refine zr_icmp_eqMM 50 dX8_close_27 (by decide) ?_
        refine zr_vret dX8_close_50 rfl ?_
        first | (exfalso; omega) | exact hq0
  | cons q ps ih =>
    intro a i x0 hch hin hl hq0
    obtain ⟨hnb, hnx⟩ := id hch
    have ha := hin a List.mem_cons_self
    rw [List.length_cons] at hl
    rw [List.getLast_cons (List.cons_ne_nil _ _)] at hq0
    refine zr_iload_n dX8_close_18 rfl ?_
    refine zr_sipush (v := nI 512) dX8_close_19 (by decide) ?_
    refine zr_icmp_geN 50 dX8_close_22 (by decide) (by omega) (by omega) (fun h22 => ?_) (fun h22 => ?_)
    · refine zr_vret dX8_close_50 rfl ?_
      exfalso; omega
    · refine zr_iload_n dX8_close_25 rfl ?_
      refine zr_iconst (v := -1) dX8_close_26 (by decide) ?_
      refine zr_icmp_eqM 50 dX8_close_27 (by decide) (by omega) ?_
      refine zr_aload_n dX8_close_30 rfl ?_
      refine zr_iload_n dX8_close_31 rfl ?_
      refine zr_putI dX8_close_32 lkX8_23 (by decide) (by decide) rfl rfl (hL.Kt hj) ?_
      refine zr_aload_n dX8_close_35 rfl ?_
      refine zr_getR dX8_close_36 lkX8_15 (by decide) (by decide) rfl (hL.Kt hj) (hL.td hj) ?_
      refine zr_iload_n dX8_close_39 rfl ?_
      refine zr_callV (md' := mX1_nextInBlock) (As := [.int (nI a)]) dX8_close_40 mlX8_30 okX1_nextInBlock rfl inX1_nextInBlock slX1_nextInBlock (by decide) (hL.K 1 2) rfl (by omega) (Nat.le_of_ble_eq_true rfl) hcb (c_Disk_nextT (d := d - 1) hcb hL.dk (by omega)) (fun k M1 h => by cases h.1) (fun v M1 hq => ?_)
      obtain ⟨e0, e1⟩ := hq
      cases e0
      rw [e1, show zA (zput (zput M 259 (ad (tA j)) x0) (8 * 32 + 3) (ad (tA j)) (nI a)) (ad 2) = zA M (ad 2) from rfl, hnb]
      refine zr_istore_n (lv' := [some (.ref ((ad (tA j)))), some (.int (nI q)), some (.int (nI i))]) dX8_close_43 (Nat.le_of_ble_eq_true rfl) (Nat.le_of_ble_eq_true rfl) rfl rfl ?_
      refine zr_iincN (n := 1) (lv' := [some (.ref ((ad (tA j)))), some (.int (nI q)), some (.int (nI (i + 1)))]) dX8_close_44 (Nat.le_of_ble_eq_true rfl) (Nat.le_of_ble_eq_true rfl) rfl rfl rfl ?_
      refine zr_goto 18 dX8_close_47 (by decide) ?_
      rw [zput_put]
      exact ih q (i + 1) (nI a) hnx (fun z hz => hin z (List.mem_cons_of_mem _ hz)) (by omega) hq0
set_option maxRecDepth 100000 in
set_option maxHeartbeats 4000000 in
theorem c_Table_close {G : zG} {ad : Nat → Nat} {d j b : Nat} {bl ps : List Nat} {la : Option Nat} {M : zM} (hd : 2 ≤ d) (hcb : zC M ≤ 600128 ∧ zS M ≤ 7301098) (hL : Lay ad M) (hj : j < 259) (hT : Tb ad M j bl la) (hbr : Br bl) (hn2 : 2 ≤ bl.length) (hb : bl[bl.length - 2]? = some b) (hch : Cb (zA M (ad 2)) (b * 512) ps) (hin : ∀ q ∈ b * 512 :: ps, q < 303096) (hl : 0 + ps.length < 511)  : zMet G mX8_close d [.ref ((ad (tA j)))] M (fun o M' => o = .inl none ∧ M' = zput M 259 (ad (tA j)) (nI ((b * 512 :: ps).getLast (List.cons_ne_nil _ _)))) := by
  refine zMet_of (by decide +kernel) (Nat.le_of_ble_eq_true rfl) rfl hcb ?_
  show zw G mX8_close d _ _ _ 0 [some (.ref ((ad (tA j)))), none, none] [] M
  obtain ⟨ht1, ht2, ht3, ht4⟩ := id hT
  refine zr_aload_n dX8_close_0 rfl ?_
  refine zr_aload_n dX8_close_1 rfl ?_
  refine zr_getI dX8_close_2 lkX8_19 (by decide) (by decide) rfl (hL.Kt hj) ?_
  refine zr_as (y := (nI bl.length)) ht1 ?_
  refine zr_iconst (v := nI 2) dX8_close_5 (by decide) ?_
  refine zr_isubN dX8_close_6 (by omega) ?_
  refine zr_callV (md' := mX8_startOf) (As := [.int (nI (bl.length - 2))]) dX8_close_7 mlX8_26 okX8_startOf rfl inX8_startOf slX8_startOf (by decide) (hL.Kt hj) rfl (by omega) (Nat.le_of_ble_eq_true rfl) hcb (c_Table_startOf (d := d - 1) hcb hL hj hT hbr (by omega) (by omega)) (fun k M1 h => by cases h.1) (fun v M1 hq => ?_)
  obtain ⟨e0, e1⟩ := hq
  cases e0
  rw [e1, show sOf bl (bl.length - 2) = some (b * 512) from by unfold sOf; rw [if_pos (by omega), hb]; rfl]
  refine zr_istore_n (lv' := [some (.ref ((ad (tA j)))), some (.int (nI (b * 512))), none]) dX8_close_10 (Nat.le_of_ble_eq_true rfl) (Nat.le_of_ble_eq_true rfl) rfl rfl ?_
  refine zr_aload_n dX8_close_11 rfl ?_
  refine zr_iload_n dX8_close_12 rfl ?_
  refine zr_putI dX8_close_13 lkX8_23 (by decide) (by decide) rfl rfl (hL.Kt hj) ?_
  refine zr_iconst (v := nI 0) dX8_close_16 (by decide) ?_
  refine zr_istore_n (lv' := [some (.ref ((ad (tA j)))), some (.int (nI (b * 512))), some (.int (nI 0))]) dX8_close_17 (Nat.le_of_ble_eq_true rfl) (Nat.le_of_ble_eq_true rfl) rfl rfl ?_
  exact l_Table_close (by omega) hcb hL hj ps (b * 512) 0 _ hch hin hl ⟨rfl, rfl⟩
