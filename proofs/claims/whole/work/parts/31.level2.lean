/-! ===== LsmStore$Level: find, from, lastBefore, blocks, the picks ===== -/
theorem LC.eb {D : Nat → Int32} {fs : List zF} (h : LC D fs) : Eb D (lvE fs) := fun q hq => by
  obtain ⟨i, f, hf, hq⟩ := lvE_mem.mp hq
  exact (h.1 f (List.mem_of_getElem? hf)).2.2.2.2.2.1 q hq
theorem LC.ec {D : Nat → Int32} {fs : List zF} (h : LC D fs) : ∀ q ∈ lvE fs, ecm D q < 2 ^ 31 := fun q hq => (h.eb q hq).2
theorem Lv.put {ad : Nat → Nat} {M : zM} {l f a : Nat} {v : Int32} {fs : List zF} (h : Lv ad M l fs) (hf : f ≠ 131 ∧ f ≠ 258 ∧ f ≠ 259) : Lv ad (zput M f a v) l fs := by
  obtain ⟨h1, h2, h3, h4⟩ := h
  obtain ⟨e1, e2, e3⟩ := hf
  refine ⟨zput_ms (Ne.symm e1) h1, h2, fun i g hg => ?_, zput_ms (Ne.symm e2) h4.1, h4.2.1, h4.2.2.1, zput_ms (Ne.symm e3) h4.2.2.2⟩
  obtain ⟨a1, a2, a3⟩ := h3 i g hg
  exact ⟨a1, a2, zput_ms (Ne.symm e2) a3.1, a3.2.1, a3.2.2.1, zput_ms (Ne.symm e3) a3.2.2.2⟩
theorem zr_asL {G : zG} {md : zD} {d k0 n0 pc : Nat} {Q : zOut → zM → Prop} {lv lv' : List (Option Value)} {st : List Value} {M : zM} (h : lv = lv') (k : zw G md d k0 n0 Q pc lv' st M) : zw G md d k0 n0 Q pc lv st M := by rw [h]; exact k
theorem int32_not_neg {x : Int32} (h : ¬ (0 : Int32) ≤ x) : x < 0 := Int32.not_le.mp h
theorem int32_lt_of {x : Int32} (h : (0 : Int32) ≤ x) : ¬ x < 0 := Int32.not_lt.mpr h
theorem int32_pos {x : Int32} (h : (0 : Int32) < x) : ¬ x < 0 ∧ x ≠ 0 := ⟨fun z => Int32.lt_irrefl (Int32.lt_trans h z), fun e => by rw [e] at h; exact Int32.lt_irrefl h⟩

set_option maxRecDepth 100000 in
set_option maxHeartbeats 4000000 in
theorem c_Level_from {G : zG} {ad : Nat → Nat} {d l v r rc len cap : Nat} {fs : List zF} {M : zM} (hd : 3 ≤ d) (hcb : zC M ≤ 600128 ∧ zS M ≤ 7301098) (hL : Lay ad M) (hl : l < 3) (hV : Lv ad M l fs) (hC : LC (zA M (ad 2)) fs) (hw : zRw M r rc len cap) (hvb : v < 2 ^ 31)  : zMet G mX4_from d [.ref ((ad (32 + l))), .ref r, .int (nI v)] M (fun o M' => M' = M ∧ ∃ x : Option Nat, o = .inl (some (.int (zvi x))) ∧ Frm (zA M (ad 2)) (lvE fs) (rwl (zA M rc) len) v x) := by
  refine zMet_of (by decide +kernel) (Nat.le_of_ble_eq_true rfl) rfl hcb ?_
  show zw G mX4_from d _ _ _ 0 [some (.ref ((ad (32 + l)))), some (.ref r), some (.int (nI v)), none, none] [] M
  obtain ⟨hv1, hv2, hv3, hv4⟩ := id hV
  obtain ⟨gK, gR, gKb, gNb, gI, gl, gc⟩ := id hw
  refine zr_aload_n dX4_from_0 rfl ?_
  refine zr_aload_n dX4_from_1 rfl ?_
  refine zr_aload_n dX4_from_2 rfl ?_
  refine zr_iload_n dX4_from_3 rfl ?_
  refine zr_callV (md' := mX4_tableFrom) (As := [.ref r, .int (nI v)]) dX4_from_4 mlX4_94 okX4_tableFrom rfl inX4_tableFrom slX4_tableFrom (by decide) (hL.Kl hl) rfl (by omega) (Nat.le_of_ble_eq_true rfl) hcb (c_Level_tableFrom (d := d - 1) (by omega) hcb hL hl hV hC hw hvb) (fun k M1 h => by obtain ⟨-, t, h, -⟩ := h; cases h) (fun v M1 hq => ?_)
  obtain ⟨e1, n, e0, hn⟩ := hq
  cases e0
  rw [e1]
  have hn1 := hn.1
  rcases Nat.lt_or_ge n fs.length with hnl | hnl
  · obtain ⟨f, hf⟩ : ∃ f, fs[n]? = some f := ⟨_, List.getElem?_eq_getElem hnl⟩
    have hfm := List.mem_of_getElem? hf
    obtain ⟨hf1, -, hTb⟩ := hv3 _ f hf
    have hTC := hC.1 f hfm
    have hbr := hTC.2.2.2.1
    have hne : 1 ≤ f.2.1.length := by have := hTC.1; omega
    have hj : f.1 < 259 := by omega
    refine zr_callV (md' := mX4_table) (As := [.int (nI n)]) dX4_from_7 mlX4_41 okX4_table rfl inX4_table slX4_table (by decide) (hL.Kl hl) rfl (by omega) (Nat.le_of_ble_eq_true rfl) hcb (c_Level_table (d := d - 1) hcb hL hl hV hf) (fun k M1 h => by cases h.1) (fun v M1 hq => ?_)
    obtain ⟨e0, e1⟩ := hq
    cases e0
    rw [e1]
    refine zr_astore_n (lv' := [some (.ref ((ad (32 + l)))), some (.ref r), some (.int (nI v)), some (.ref ((ad (tA f.1)))), none]) dX4_from_10 (Nat.le_of_ble_eq_true rfl) (Nat.le_of_ble_eq_true rfl) rfl rfl ?_
    refine zr_aload_n dX4_from_11 rfl ?_
    refine zr_aload_n dX4_from_12 rfl ?_
    refine zr_iload_n dX4_from_13 rfl ?_
    refine zr_callV (md' := mX8_lastBefore) (As := [.ref r, .int (nI v)]) dX4_from_14 mlX4_111 okX8_lastBefore rfl inX8_lastBefore slX8_lastBefore (by decide) (hL.Kt (by omega)) rfl (by omega) (Nat.le_of_ble_eq_true rfl) hcb (c_Table_lastBefore (d := d - 1) (by omega) hcb hL hj hTb hTC hw hvb) (fun k M1 h => by obtain ⟨-, t, h, -⟩ := h; cases h) (fun v M1 hq => ?_)
    obtain ⟨e1, y, e0, hy⟩ := hq
    cases e0
    rw [e1]
    have hby : ∀ c, y = some c → c < 2 ^ 31 := fun c hc => by have := (hTC.2.2.2.2.2.1 c (hy.1 c hc).1).1; omega
    refine zr_istore (lv' := [some (.ref ((ad (32 + l)))), some (.ref r), some (.int (nI v)), some (.ref ((ad (tA f.1)))), some (.int (zvi y))]) dX4_from_17 (Nat.le_of_ble_eq_true rfl) (Nat.le_of_ble_eq_true rfl) rfl rfl ?_
    refine zr_iload dX4_from_19 rfl ?_
    refine zr_iconst (v := -1) dX4_from_21 (by decide) ?_
    refine zr_icmp_neO 33 dX4_from_22 (by decide) hby (fun yv h22 => ?_) (fun h22 => ?_)
    · subst h22
      obtain ⟨i9, hi9⟩ := List.getElem?_of_mem (hy.1 yv rfl).1
      obtain ⟨k9, hk9, hk8, hk7⟩ := TC.nx hTC hi9
      refine zr_aload_n dX4_from_33 rfl ?_
      refine zr_iload dX4_from_34 rfl ?_
      refine zr_callV (md' := mX8_following) (As := [.int (nI yv)]) dX4_from_36 mlX4_80 okX8_following rfl inX8_following slX8_following (by decide) (hL.Kt (by omega)) rfl (by omega) (Nat.le_of_ble_eq_true rfl) hcb (c_Table_following (d := d - 1) (by omega) hcb hL hj hTb hbr (Nat.lt_trans (hTC.2.2.2.2.2.1 yv (hy.1 yv rfl).1).1 (by decide)) hk9 hk8) (fun k M1 h => by cases h.1) (fun v M1 hq => ?_)
      obtain ⟨e0, e1⟩ := hq
      cases e0
      rw [e1]
      have hF := (Lst.frm hTC.2.2.2.2.2.2.2.1 hy).2 yv i9 rfl hi9
      rw [← hk7] at hF
      refine zr_iret dX4_from_39 rfl ?_
      exact ⟨rfl, _, rfl, hn.frm hC hf hF⟩
    · subst h22
      refine zr_aload_n dX4_from_25 rfl ?_
      refine zr_iconst (v := nI 0) dX4_from_26 (by decide) ?_
      refine zr_callV (md' := mX8_startOf) (As := [.int (nI 0)]) dX4_from_27 mlX4_46 okX8_startOf rfl inX8_startOf slX8_startOf (by decide) (hL.Kt (by omega)) rfl (by omega) (Nat.le_of_ble_eq_true rfl) hcb (c_Table_startOf (d := d - 1) hcb hL hj hTb hbr hne (by decide)) (fun k M1 h => by cases h.1) (fun v M1 hq => ?_)
      obtain ⟨e0, e1⟩ := hq
      cases e0
      rw [e1]
      have hF := (Lst.frm hTC.2.2.2.2.2.2.2.1 hy).1 rfl
      rw [← hTC.first] at hF
      refine zr_goto 39 dX4_from_30 (by decide) ?_
      refine zr_iret dX4_from_39 rfl ?_
      exact ⟨rfl, _, rfl, hn.frm hC hf hF⟩
  · refine zr_callV (md' := mX4_table) (As := [.int (nI n)]) dX4_from_7 mlX4_41 okX4_table rfl inX4_table slX4_table (by decide) (hL.Kl hl) rfl (by omega) (Nat.le_of_ble_eq_true rfl) hcb (c_Level_tableO (d := d - 1) hcb hL hl hV hnl (by omega)) (fun k M1 h => by cases h.1) (fun v M1 hq => ?_)
    obtain ⟨e0, e1⟩ := hq
    cases e0
    rw [e1]
    refine zr_astore_n (lv' := [some (.ref ((ad (32 + l)))), some (.ref r), some (.int (nI v)), some (.ref ((ad (tA (256 + l))))), none]) dX4_from_10 (Nat.le_of_ble_eq_true rfl) (Nat.le_of_ble_eq_true rfl) rfl rfl ?_
    refine zr_aload_n dX4_from_11 rfl ?_
    refine zr_aload_n dX4_from_12 rfl ?_
    refine zr_iload_n dX4_from_13 rfl ?_
    refine zr_callV (md' := mX8_lastBefore) (As := [.ref r, .int (nI v)]) dX4_from_14 mlX4_111 okX8_lastBefore rfl inX8_lastBefore slX8_lastBefore (by decide) (hL.Kt (by omega)) rfl (by omega) (Nat.le_of_ble_eq_true rfl) hcb (c_Table_lastBefore0 (d := d - 1) hcb hL (j := 256 + l) (by omega) hv4 hw) (fun k M1 h => by cases h.1) (fun v M1 hq => ?_)
    obtain ⟨e0, e1⟩ := hq
    cases e0
    rw [e1]
    refine zr_istore (lv' := [some (.ref ((ad (32 + l)))), some (.ref r), some (.int (nI v)), some (.ref ((ad (tA (256 + l))))), some (.int ((-1)))]) dX4_from_17 (Nat.le_of_ble_eq_true rfl) (Nat.le_of_ble_eq_true rfl) rfl rfl ?_
    refine zr_iload dX4_from_19 rfl ?_
    refine zr_iconst (v := -1) dX4_from_21 (by decide) ?_
    refine zr_icmp_neMM 33 dX4_from_22 (by decide) ?_
    refine zr_aload_n dX4_from_25 rfl ?_
    refine zr_iconst (v := nI 0) dX4_from_26 (by decide) ?_
    refine zr_callV (md' := mX8_startOf) (As := [.int (nI 0)]) dX4_from_27 mlX4_46 okX8_startOf rfl inX8_startOf slX8_startOf (by decide) (hL.Kt (by omega)) rfl (by omega) (Nat.le_of_ble_eq_true rfl) hcb (c_Table_startOf0 (d := d - 1) (j := 256 + l) hcb hL (by omega) hv4 rfl (by decide)) (fun k M1 h => by cases h.1) (fun v M1 hq => ?_)
    obtain ⟨e0, e1⟩ := hq
    cases e0
    rw [e1]
    refine zr_goto 39 dX4_from_30 (by decide) ?_
    refine zr_iret dX4_from_39 rfl ?_
    exact ⟨rfl, none, rfl, hn.frmN hC hnl⟩
set_option maxRecDepth 100000 in
set_option maxHeartbeats 4000000 in
theorem c_Level_find {G : zG} {ad : Nat → Nat} {d l v r rc len cap : Nat} {fs : List zF} {M : zM} (hd : 3 ≤ d) (hcb : zC M ≤ 600128 ∧ zS M ≤ 7301098) (hL : Lay ad M) (hl : l < 3) (hV : Lv ad M l fs) (hC : LC (zA M (ad 2)) fs) (hw : zRw M r rc len cap) (hvb : v < 2 ^ 31)  : zMet G mX4_find d [.ref ((ad (32 + l))), .ref r, .int (nI v)] M (fun o M' => M' = M ∧ ∃ x : Option Nat, o = .inl (some (.int (zvi x))) ∧ Hit (zA M (ad 2)) (lvE fs) (rwl (zA M rc) len) v x) := by
  refine zMet_of (by decide +kernel) (Nat.le_of_ble_eq_true rfl) rfl hcb ?_
  show zw G mX4_find d _ _ _ 0 [some (.ref ((ad (32 + l)))), some (.ref r), some (.int (nI v)), none, none, none] [] M
  obtain ⟨hv1, hv2, hv3, hv4⟩ := id hV
  obtain ⟨gK, gR, gKb, gNb, gI, gl, gc⟩ := id hw
  refine zr_aload_n dX4_find_0 rfl ?_
  refine zr_aload_n dX4_find_1 rfl ?_
  refine zr_aload_n dX4_find_2 rfl ?_
  refine zr_ldc dX4_find_3 ctX4_93 ?_
  refine zr_as (y := nI 2147483647) (by decide) ?_
  refine zr_callV (md' := mX4_tableFrom) (As := [.ref r, .int (nI 2147483647)]) dX4_find_5 mlX4_94 okX4_tableFrom rfl inX4_tableFrom slX4_tableFrom (by decide) (hL.Kl hl) rfl (by omega) (Nat.le_of_ble_eq_true rfl) hcb (c_Level_tableFrom (d := d - 1) (by omega) hcb hL hl hV hC hw (by decide)) (fun k M1 h => by obtain ⟨-, t, h, -⟩ := h; cases h) (fun v M1 hq => ?_)
  obtain ⟨e1, n, e0, hn⟩ := hq
  cases e0
  rw [e1]
  have hn1 := hn.1
  rcases Nat.lt_or_ge n fs.length with hnl | hnl
  · obtain ⟨f, hf⟩ : ∃ f, fs[n]? = some f := ⟨_, List.getElem?_eq_getElem hnl⟩
    have hfm := List.mem_of_getElem? hf
    obtain ⟨hf1, -, hTb⟩ := hv3 _ f hf
    have hTC := hC.1 f hfm
    have hbr := hTC.2.2.2.1
    have hne : 1 ≤ f.2.1.length := by have := hTC.1; omega
    have hj : f.1 < 259 := by omega
    refine zr_callV (md' := mX4_table) (As := [.int (nI n)]) dX4_find_8 mlX4_41 okX4_table rfl inX4_table slX4_table (by decide) (hL.Kl hl) rfl (by omega) (Nat.le_of_ble_eq_true rfl) hcb (c_Level_table (d := d - 1) hcb hL hl hV hf) (fun k M1 h => by cases h.1) (fun v M1 hq => ?_)
    obtain ⟨e0, e1⟩ := hq
    cases e0
    rw [e1]
    refine zr_astore_n (lv' := [some (.ref ((ad (32 + l)))), some (.ref r), some (.int (nI v)), some (.ref ((ad (tA f.1)))), none, none]) dX4_find_11 (Nat.le_of_ble_eq_true rfl) (Nat.le_of_ble_eq_true rfl) rfl rfl ?_
    obtain ⟨fb, hfb⟩ : ∃ fb, f.2.1[f.2.1.length - 1]? = some fb := ⟨_, List.getElem?_eq_getElem (by omega)⟩
    have hfb2 : f.2.1[f.2.2.length]? = some fb := by rw [← hfb]; congr 1; have := hTC.1; omega
    refine zr_aload_n dX4_find_12 rfl ?_
    refine zr_aload_n dX4_find_13 rfl ?_
    refine zr_getR dX4_find_14 lkX4_98 (by decide) (by decide) rfl gK gR ?_
    refine zr_iconst (v := nI 0) dX4_find_17 (by decide) ?_
    refine zr_aload_n dX4_find_18 rfl ?_
    refine zr_getI dX4_find_19 lkX4_104 (by decide) (by decide) rfl gK ?_
    refine zr_as (y := (nI len)) gI ?_
    refine zr_callV (md' := mX8_allows) (As := [.ref rc, .int (nI 0), .int (nI len)]) dX4_find_22 mlX4_107 okX8_allows rfl inX8_allows slX8_allows (by decide) (hL.Kt (by omega)) rfl (by omega) (Nat.le_of_ble_eq_true rfl) hcb (c_Table_allows (d := d - 1) (by omega) hcb hL hj hTb hbr gKb gNb (by omega) (by omega) hne hfb) (fun k M1 h => by obtain ⟨-, t, -, h, -⟩ := h; cases h) (fun v M1 hq => ?_)
    obtain ⟨e1, t, ht, e0, htk⟩ := hq
    cases e0
    rw [e1]
    simp only [Nat.zero_add] at htk
    refine zr_if_neN 30 dX4_find_25 (by decide) (by omega) (fun h25 => ?_) (fun h25 => ?_)
    · refine zr_aload_n dX4_find_30 rfl ?_
      refine zr_aload_n dX4_find_31 rfl ?_
      refine zr_iload_n dX4_find_32 rfl ?_
      refine zr_callV (md' := mX8_lastBefore) (As := [.ref r, .int (nI v)]) dX4_find_33 mlX4_111 okX8_lastBefore rfl inX8_lastBefore slX8_lastBefore (by decide) (hL.Kt (by omega)) rfl (by omega) (Nat.le_of_ble_eq_true rfl) hcb (c_Table_lastBefore (d := d - 1) (by omega) hcb hL hj hTb hTC hw hvb) (fun k M1 h => by obtain ⟨-, t, h, -⟩ := h; cases h) (fun v M1 hq => ?_)
      obtain ⟨e1, y, e0, hy⟩ := hq
      cases e0
      rw [e1]
      have hby : ∀ c, y = some c → c < 2 ^ 31 := fun c hc => by have := (hTC.2.2.2.2.2.1 c (hy.1 c hc).1).1; omega
      refine zr_istore (lv' := [some (.ref ((ad (32 + l)))), some (.ref r), some (.int (nI v)), some (.ref ((ad (tA f.1)))), some (.int (zvi y)), none]) dX4_find_36 (Nat.le_of_ble_eq_true rfl) (Nat.le_of_ble_eq_true rfl) rfl rfl ?_
      refine zr_iload dX4_find_38 rfl ?_
      refine zr_iconst (v := -1) dX4_find_40 (by decide) ?_
      refine zr_icmp_neO 52 dX4_find_41 (by decide) hby (fun yv h41 => ?_) (fun h41 => ?_)
      · subst h41
        obtain ⟨i9, hi9⟩ := List.getElem?_of_mem (hy.1 yv rfl).1
        obtain ⟨k9, hk9, hk8, hk7⟩ := TC.nx hTC hi9
        refine zr_aload_n dX4_find_52 rfl ?_
        refine zr_iload dX4_find_53 rfl ?_
        refine zr_callV (md' := mX8_following) (As := [.int (nI yv)]) dX4_find_55 mlX4_80 okX8_following rfl inX8_following slX8_following (by decide) (hL.Kt (by omega)) rfl (by omega) (Nat.le_of_ble_eq_true rfl) hcb (c_Table_following (d := d - 1) (by omega) hcb hL hj hTb hbr (Nat.lt_trans (hTC.2.2.2.2.2.1 yv (hy.1 yv rfl).1).1 (by decide)) hk9 hk8) (fun k M1 h => by cases h.1) (fun v M1 hq => ?_)
        obtain ⟨e0, e1⟩ := hq
        cases e0
        rw [e1]
        have hF := (Lst.frm hTC.2.2.2.2.2.2.2.1 hy).2 yv i9 rfl hi9
        rw [← hk7] at hF
        obtain ⟨x, hx⟩ : ∃ x, x = (nxt (zA M (ad 2)) f.2.1 k9 yv) := ⟨_, rfl⟩
        rw [← hx] at hF ⊢
        rcases x with _ | x
        · refine zr_as (y := -1) rfl ?_
          refine zr_istore (lv' := [some (.ref ((ad (32 + l)))), some (.ref r), some (.int (nI v)), some (.ref ((ad (tA f.1)))), some (.int (nI yv)), some (.int ((-1)))]) dX4_find_58 (Nat.le_of_ble_eq_true rfl) (Nat.le_of_ble_eq_true rfl) rfl rfl ?_
          refine zr_aload_n dX4_find_60 rfl ?_
          refine zr_getR dX4_find_61 lkX4_17 (by decide) (by decide) rfl (hL.Kl hl) (hL.ld hl) ?_
          refine zr_iload dX4_find_64 rfl ?_
          refine zr_aload_n dX4_find_66 rfl ?_
          refine zr_callV (md' := mX1_hasKey) (As := [.int ((-1)), .ref r]) dX4_find_67 mlX4_114 okX1_hasKey rfl inX1_hasKey slX1_hasKey (by decide) (hL.K 1 2) rfl (by omega) (Nat.le_of_ble_eq_true rfl) hcb (c_Disk_hasKeyM (d := d - 1) hcb hL.dk) (fun k M1 h => by cases h.1) (fun v M1 hq => ?_)
          obtain ⟨e0, e1⟩ := hq
          cases e0
          rw [e1]
          refine zr_if_eq 78 dX4_find_70 (by decide) (fun h70 => ?_) (fun h70 => absurd rfl h70)
          refine zr_iconst (v := -1) dX4_find_78 (by decide) ?_
          refine zr_iret dX4_find_79 rfl ?_
          exact ⟨rfl, none, rfl, hn.hit hC hC.ec hf (hF.hit.2 (fun p hp => by cases hp))⟩
        · refine zr_as (y := nI x) rfl ?_
          refine zr_istore (lv' := [some (.ref ((ad (32 + l)))), some (.ref r), some (.int (nI v)), some (.ref ((ad (tA f.1)))), some (.int (nI yv)), some (.int (nI x))]) dX4_find_58 (Nat.le_of_ble_eq_true rfl) (Nat.le_of_ble_eq_true rfl) rfl rfl ?_
          refine zr_aload_n dX4_find_60 rfl ?_
          refine zr_getR dX4_find_61 lkX4_17 (by decide) (by decide) rfl (hL.Kl hl) (hL.ld hl) ?_
          refine zr_iload dX4_find_64 rfl ?_
          refine zr_aload_n dX4_find_66 rfl ?_
          refine zr_callV (md' := mX1_hasKey) (As := [.int (nI x), .ref r]) dX4_find_67 mlX4_114 okX1_hasKey rfl inX1_hasKey slX1_hasKey (by decide) (hL.K 1 2) rfl (by omega) (Nat.le_of_ble_eq_true rfl) hcb (c_Disk_hasKeyT (d := d - 1) hcb hL.dk hw (Nat.lt_trans (hTC.2.2.2.2.2.1 x (hF.1 x rfl).1).1 (by decide))) (fun k M1 h => by obtain ⟨-, t, -, h, -⟩ := h; cases h) (fun v M1 hq => ?_)
          obtain ⟨e1, s, hs9, e0, hsk⟩ := hq
          cases e0
          rw [e1]
          refine zr_if_eqN 78 dX4_find_70 (by decide) (by omega) (fun h70 => ?_) (fun h70 => ?_)
          · refine zr_iconst (v := -1) dX4_find_78 (by decide) ?_
            refine zr_iret dX4_find_79 rfl ?_
            exact ⟨rfl, none, rfl, hn.hit hC hC.ec hf (hF.hit.2 (fun p hp z => by cases hp; exact absurd (hsk.mpr z) (by omega)))⟩
          · refine zr_iload dX4_find_73 rfl ?_
            refine zr_goto 79 dX4_find_75 (by decide) ?_
            refine zr_iret dX4_find_79 rfl ?_
            exact ⟨rfl, some x, rfl, hn.hit hC hC.ec hf (hF.hit.1 x rfl (hsk.mp (by omega)))⟩
      · subst h41
        refine zr_aload_n dX4_find_44 rfl ?_
        refine zr_iconst (v := nI 0) dX4_find_45 (by decide) ?_
        refine zr_callV (md' := mX8_startOf) (As := [.int (nI 0)]) dX4_find_46 mlX4_46 okX8_startOf rfl inX8_startOf slX8_startOf (by decide) (hL.Kt (by omega)) rfl (by omega) (Nat.le_of_ble_eq_true rfl) hcb (c_Table_startOf (d := d - 1) hcb hL hj hTb hbr hne (by decide)) (fun k M1 h => by cases h.1) (fun v M1 hq => ?_)
        obtain ⟨e0, e1⟩ := hq
        cases e0
        rw [e1]
        have hF := (Lst.frm hTC.2.2.2.2.2.2.2.1 hy).1 rfl
        rw [← hTC.first] at hF
        refine zr_goto 58 dX4_find_49 (by decide) ?_
        obtain ⟨x, hx⟩ : ∃ x, x = (sOf f.2.1 0) := ⟨_, rfl⟩
        rw [← hx] at hF ⊢
        rcases x with _ | x
        · refine zr_as (y := -1) rfl ?_
          refine zr_istore (lv' := [some (.ref ((ad (32 + l)))), some (.ref r), some (.int (nI v)), some (.ref ((ad (tA f.1)))), some (.int ((-1))), some (.int ((-1)))]) dX4_find_58 (Nat.le_of_ble_eq_true rfl) (Nat.le_of_ble_eq_true rfl) rfl rfl ?_
          refine zr_aload_n dX4_find_60 rfl ?_
          refine zr_getR dX4_find_61 lkX4_17 (by decide) (by decide) rfl (hL.Kl hl) (hL.ld hl) ?_
          refine zr_iload dX4_find_64 rfl ?_
          refine zr_aload_n dX4_find_66 rfl ?_
          refine zr_callV (md' := mX1_hasKey) (As := [.int ((-1)), .ref r]) dX4_find_67 mlX4_114 okX1_hasKey rfl inX1_hasKey slX1_hasKey (by decide) (hL.K 1 2) rfl (by omega) (Nat.le_of_ble_eq_true rfl) hcb (c_Disk_hasKeyM (d := d - 1) hcb hL.dk) (fun k M1 h => by cases h.1) (fun v M1 hq => ?_)
          obtain ⟨e0, e1⟩ := hq
          cases e0
          rw [e1]
          refine zr_if_eq 78 dX4_find_70 (by decide) (fun h70 => ?_) (fun h70 => absurd rfl h70)
          refine zr_iconst (v := -1) dX4_find_78 (by decide) ?_
          refine zr_iret dX4_find_79 rfl ?_
          exact ⟨rfl, none, rfl, hn.hit hC hC.ec hf (hF.hit.2 (fun p hp => by cases hp))⟩
        · refine zr_as (y := nI x) rfl ?_
          refine zr_istore (lv' := [some (.ref ((ad (32 + l)))), some (.ref r), some (.int (nI v)), some (.ref ((ad (tA f.1)))), some (.int ((-1))), some (.int (nI x))]) dX4_find_58 (Nat.le_of_ble_eq_true rfl) (Nat.le_of_ble_eq_true rfl) rfl rfl ?_
          refine zr_aload_n dX4_find_60 rfl ?_
          refine zr_getR dX4_find_61 lkX4_17 (by decide) (by decide) rfl (hL.Kl hl) (hL.ld hl) ?_
          refine zr_iload dX4_find_64 rfl ?_
          refine zr_aload_n dX4_find_66 rfl ?_
          refine zr_callV (md' := mX1_hasKey) (As := [.int (nI x), .ref r]) dX4_find_67 mlX4_114 okX1_hasKey rfl inX1_hasKey slX1_hasKey (by decide) (hL.K 1 2) rfl (by omega) (Nat.le_of_ble_eq_true rfl) hcb (c_Disk_hasKeyT (d := d - 1) hcb hL.dk hw (Nat.lt_trans (hTC.2.2.2.2.2.1 x (hF.1 x rfl).1).1 (by decide))) (fun k M1 h => by obtain ⟨-, t, -, h, -⟩ := h; cases h) (fun v M1 hq => ?_)
          obtain ⟨e1, s, hs9, e0, hsk⟩ := hq
          cases e0
          rw [e1]
          refine zr_if_eqN 78 dX4_find_70 (by decide) (by omega) (fun h70 => ?_) (fun h70 => ?_)
          · refine zr_iconst (v := -1) dX4_find_78 (by decide) ?_
            refine zr_iret dX4_find_79 rfl ?_
            exact ⟨rfl, none, rfl, hn.hit hC hC.ec hf (hF.hit.2 (fun p hp z => by cases hp; exact absurd (hsk.mpr z) (by omega)))⟩
          · refine zr_iload dX4_find_73 rfl ?_
            refine zr_goto 79 dX4_find_75 (by decide) ?_
            refine zr_iret dX4_find_79 rfl ?_
            exact ⟨rfl, some x, rfl, hn.hit hC hC.ec hf (hF.hit.1 x rfl (hsk.mp (by omega)))⟩
    · refine zr_iconst (v := -1) dX4_find_28 (by decide) ?_
      refine zr_iret dX4_find_29 rfl ?_
      exact ⟨rfl, none, rfl, hn.hitN hC hC.ec (fun g hg q hq hk => by rw [hf] at hg; cases hg; exact absurd (htk.mpr (by rw [← hk]; exact hTC.2.2.2.2.2.2.2.2 fb hfb2 q hq)) (by omega))⟩
  · refine zr_callV (md' := mX4_table) (As := [.int (nI n)]) dX4_find_8 mlX4_41 okX4_table rfl inX4_table slX4_table (by decide) (hL.Kl hl) rfl (by omega) (Nat.le_of_ble_eq_true rfl) hcb (c_Level_tableO (d := d - 1) hcb hL hl hV hnl (by omega)) (fun k M1 h => by cases h.1) (fun v M1 hq => ?_)
    obtain ⟨e0, e1⟩ := hq
    cases e0
    rw [e1]
    refine zr_astore_n (lv' := [some (.ref ((ad (32 + l)))), some (.ref r), some (.int (nI v)), some (.ref ((ad (tA (256 + l))))), none, none]) dX4_find_11 (Nat.le_of_ble_eq_true rfl) (Nat.le_of_ble_eq_true rfl) rfl rfl ?_
    refine zr_aload_n dX4_find_12 rfl ?_
    refine zr_aload_n dX4_find_13 rfl ?_
    refine zr_getR dX4_find_14 lkX4_98 (by decide) (by decide) rfl gK gR ?_
    refine zr_iconst (v := nI 0) dX4_find_17 (by decide) ?_
    refine zr_aload_n dX4_find_18 rfl ?_
    refine zr_getI dX4_find_19 lkX4_104 (by decide) (by decide) rfl gK ?_
    refine zr_as (y := (nI len)) gI ?_
    refine zr_callV (md' := mX8_allows) (As := [.ref rc, .int (nI 0), .int (nI len)]) dX4_find_22 mlX4_107 okX8_allows rfl inX8_allows slX8_allows (by decide) (hL.Kt (by omega)) rfl (by omega) (Nat.le_of_ble_eq_true rfl) hcb (c_Table_allows0 (d := d - 1) (j := 256 + l) hcb hL (by omega) hv4 rfl) (fun k M1 h => by cases h.1) (fun v M1 hq => ?_)
    obtain ⟨e0, e1⟩ := hq
    cases e0
    rw [e1]
    refine zr_if_ne 30 dX4_find_25 (by decide) (fun h25 => absurd rfl h25) (fun h25 => ?_)
    refine zr_iconst (v := -1) dX4_find_28 (by decide) ?_
    refine zr_iret dX4_find_29 rfl ?_
    exact ⟨rfl, none, rfl, hn.hitN hC hC.ec (fun g hg => by have := (List.getElem?_eq_some_iff.mp hg).1; omega)⟩
set_option maxRecDepth 100000 in
set_option maxHeartbeats 4000000 in
theorem t_Level_lb {G : zG} {ad : Nat → Nat} {d k0 n0 l r rc len n : Nat} {fs : List zF} {M : zM} (hd : 3 ≤ d) (hcb : zC M ≤ 600128 ∧ zS M ≤ 7301098) (hL : Lay ad M) (hl : l < 3) (hV : Lv ad M l fs) (hC : LC (zA M (ad 2)) fs) (hn : spt (zA M (ad 2)) fs (rwl (zA M rc) len) 2147483647 n) (hnb : ∀ g, fs[n]? = some g → ∀ q ∈ fE g, ¬ bef (zA M (ad 2)) q (rwl (zA M rc) len) 2147483647) : zw G mX4_lastBefore d k0 n0 (fun o M' => M' = M ∧ ∃ x : Option Nat, o = .inl (some (.int (zvi x))) ∧ Lst (zA M (ad 2)) (lvE fs) (rwl (zA M rc) len) 2147483647 x) 25 [some (.ref ((ad (32 + l)))), some (.ref r), some (.int (nI n)), some (.int ((-1)))] [] M := by
  obtain ⟨hv1, hv2, hv3, hv4⟩ := id hV
  have hn1 := hn.1
  rcases Nat.eq_zero_or_pos n with hz | hz
  · subst hz
    refine zr_aload_n dX4_lastBefore_25 rfl ?_
    refine zr_iload_n dX4_lastBefore_26 rfl ?_
    refine zr_iconst (v := nI 1) dX4_lastBefore_27 (by decide) ?_
    refine zr_isub dX4_lastBefore_28 ?_
    refine zr_as (y := -1) (by decide) ?_
    refine zr_callV (md' := mX4_table) (As := [.int ((-1))]) dX4_lastBefore_29 mlX4_41 okX4_table rfl inX4_table slX4_table (by decide) (hL.Kl hl) rfl (by omega) (Nat.le_of_ble_eq_true rfl) hcb (c_Level_tableM (d := d - 1) hcb hL hl hV) (fun k M1 h => by cases h.1) (fun v M1 hq => ?_)
    obtain ⟨e0, e1⟩ := hq
    cases e0
    rw [e1]
    refine zr_getI dX4_lastBefore_32 lkX4_50 (by decide) (by decide) rfl (hL.Kt (by omega)) ?_
    refine zr_as (y := (-1)) hv4.2.2.2 ?_
    refine zr_goto 39 dX4_lastBefore_35 (by decide) ?_
    refine zr_iret dX4_lastBefore_39 rfl ?_
    exact ⟨rfl, none, rfl, (hn.lstP hC hnb).1 rfl⟩
  · obtain ⟨f9, hf9⟩ : ∃ f, fs[n - 1]? = some f := ⟨_, List.getElem?_eq_getElem (by omega)⟩
    obtain ⟨hf91, -, hT9⟩ := hv3 _ f9 hf9
    obtain ⟨la, hla, -⟩ := (hC.1 f9 (List.mem_of_getElem? hf9)).lst
    refine zr_aload_n dX4_lastBefore_25 rfl ?_
    refine zr_iload_n dX4_lastBefore_26 rfl ?_
    refine zr_iconst (v := nI 1) dX4_lastBefore_27 (by decide) ?_
    refine zr_isubN dX4_lastBefore_28 (by omega) ?_
    refine zr_callV (md' := mX4_table) (As := [.int (nI (n - 1))]) dX4_lastBefore_29 mlX4_41 okX4_table rfl inX4_table slX4_table (by decide) (hL.Kl hl) rfl (by omega) (Nat.le_of_ble_eq_true rfl) hcb (c_Level_table (d := d - 1) hcb hL hl hV hf9) (fun k M1 h => by cases h.1) (fun v M1 hq => ?_)
    obtain ⟨e0, e1⟩ := hq
    cases e0
    rw [e1]
    refine zr_getI dX4_lastBefore_32 lkX4_50 (by decide) (by decide) rfl (hL.Kt (by omega)) ?_
    refine zr_as (y := (nI la)) (hT9.2.2.2.trans (congrArg zvi hla)) ?_
    refine zr_goto 39 dX4_lastBefore_35 (by decide) ?_
    refine zr_iret dX4_lastBefore_39 rfl ?_
    exact ⟨rfl, some la, rfl, (hn.lstP hC hnb).2 f9 la (by omega) hf9 hla⟩
set_option maxRecDepth 100000 in
set_option maxHeartbeats 4000000 in
theorem c_Level_lastBefore {G : zG} {ad : Nat → Nat} {d l r rc len cap : Nat} {fs : List zF} {M : zM} (hd : 3 ≤ d) (hcb : zC M ≤ 600128 ∧ zS M ≤ 7301098) (hL : Lay ad M) (hl : l < 3) (hV : Lv ad M l fs) (hC : LC (zA M (ad 2)) fs) (hw : zRw M r rc len cap)  : zMet G mX4_lastBefore d [.ref ((ad (32 + l))), .ref r] M (fun o M' => M' = M ∧ ∃ x : Option Nat, o = .inl (some (.int (zvi x))) ∧ Lst (zA M (ad 2)) (lvE fs) (rwl (zA M rc) len) 2147483647 x) := by
  refine zMet_of (by decide +kernel) (Nat.le_of_ble_eq_true rfl) rfl hcb ?_
  show zw G mX4_lastBefore d _ _ _ 0 [some (.ref ((ad (32 + l)))), some (.ref r), none, none] [] M
  obtain ⟨hv1, hv2, hv3, hv4⟩ := id hV
  obtain ⟨gK, gR, gKb, gNb, gI, gl, gc⟩ := id hw
  refine zr_aload_n dX4_lastBefore_0 rfl ?_
  refine zr_aload_n dX4_lastBefore_1 rfl ?_
  refine zr_ldc dX4_lastBefore_2 ctX4_93 ?_
  refine zr_as (y := nI 2147483647) (by decide) ?_
  refine zr_callV (md' := mX4_tableFrom) (As := [.ref r, .int (nI 2147483647)]) dX4_lastBefore_4 mlX4_94 okX4_tableFrom rfl inX4_tableFrom slX4_tableFrom (by decide) (hL.Kl hl) rfl (by omega) (Nat.le_of_ble_eq_true rfl) hcb (c_Level_tableFrom (d := d - 1) (by omega) hcb hL hl hV hC hw (by decide)) (fun k M1 h => by obtain ⟨-, t, h, -⟩ := h; cases h) (fun v M1 hq => ?_)
  obtain ⟨e1, n, e0, hn⟩ := hq
  cases e0
  rw [e1]
  have hn1 := hn.1
  refine zr_istore_n (lv' := [some (.ref ((ad (32 + l)))), some (.ref r), some (.int (nI n)), none]) dX4_lastBefore_7 (Nat.le_of_ble_eq_true rfl) (Nat.le_of_ble_eq_true rfl) rfl rfl ?_
  refine zr_aload_n dX4_lastBefore_8 rfl ?_
  refine zr_iload_n dX4_lastBefore_9 rfl ?_
  rcases Nat.lt_or_ge n fs.length with hnl | hnl
  · obtain ⟨f, hf⟩ : ∃ f, fs[n]? = some f := ⟨_, List.getElem?_eq_getElem hnl⟩
    have hfm := List.mem_of_getElem? hf
    obtain ⟨hf1, -, hTb⟩ := hv3 _ f hf
    have hTC := hC.1 f hfm
    have hbr := hTC.2.2.2.1
    have hne : 1 ≤ f.2.1.length := by have := hTC.1; omega
    have hj : f.1 < 259 := by omega
    refine zr_callV (md' := mX4_table) (As := [.int (nI n)]) dX4_lastBefore_10 mlX4_41 okX4_table rfl inX4_table slX4_table (by decide) (hL.Kl hl) rfl (by omega) (Nat.le_of_ble_eq_true rfl) hcb (c_Level_table (d := d - 1) hcb hL hl hV hf) (fun k M1 h => by cases h.1) (fun v M1 hq => ?_)
    obtain ⟨e0, e1⟩ := hq
    cases e0
    rw [e1]
    refine zr_aload_n dX4_lastBefore_13 rfl ?_
    refine zr_ldc dX4_lastBefore_14 ctX4_93 ?_
    refine zr_as (y := nI 2147483647) (by decide) ?_
    refine zr_callV (md' := mX8_lastBefore) (As := [.ref r, .int (nI 2147483647)]) dX4_lastBefore_16 mlX4_111 okX8_lastBefore rfl inX8_lastBefore slX8_lastBefore (by decide) (hL.Kt (by omega)) rfl (by omega) (Nat.le_of_ble_eq_true rfl) hcb (c_Table_lastBefore (d := d - 1) (by omega) hcb hL hj hTb hTC hw (by decide)) (fun k M1 h => by obtain ⟨-, t, h, -⟩ := h; cases h) (fun v M1 hq => ?_)
    obtain ⟨e1, y, e0, hy⟩ := hq
    cases e0
    rw [e1]
    have hby : ∀ c, y = some c → c < 2 ^ 31 := fun c hc => by have := (hTC.2.2.2.2.2.1 c (hy.1 c hc).1).1; omega
    refine zr_istore_n (lv' := [some (.ref ((ad (32 + l)))), some (.ref r), some (.int (nI n)), some (.int (zvi y))]) dX4_lastBefore_19 (Nat.le_of_ble_eq_true rfl) (Nat.le_of_ble_eq_true rfl) rfl rfl ?_
    refine zr_iload_n dX4_lastBefore_20 rfl ?_
    refine zr_iconst (v := -1) dX4_lastBefore_21 (by decide) ?_
    refine zr_icmp_neO 38 dX4_lastBefore_22 (by decide) hby (fun yv h22 => ?_) (fun h22 => ?_)
    · subst h22
      refine zr_iload_n dX4_lastBefore_38 rfl ?_
      refine zr_iret dX4_lastBefore_39 rfl ?_
      exact ⟨rfl, some yv, rfl, hn.lst hC hf hy⟩
    · subst h22
      exact t_Level_lb hd hcb hL hl hV hC hn (fun g hg q hq => by rw [hf] at hg; cases hg; exact hy.2 rfl q hq)
  · refine zr_callV (md' := mX4_table) (As := [.int (nI n)]) dX4_lastBefore_10 mlX4_41 okX4_table rfl inX4_table slX4_table (by decide) (hL.Kl hl) rfl (by omega) (Nat.le_of_ble_eq_true rfl) hcb (c_Level_tableO (d := d - 1) hcb hL hl hV hnl (by omega)) (fun k M1 h => by cases h.1) (fun v M1 hq => ?_)
    obtain ⟨e0, e1⟩ := hq
    cases e0
    rw [e1]
    refine zr_aload_n dX4_lastBefore_13 rfl ?_
    refine zr_ldc dX4_lastBefore_14 ctX4_93 ?_
    refine zr_as (y := nI 2147483647) (by decide) ?_
    refine zr_callV (md' := mX8_lastBefore) (As := [.ref r, .int (nI 2147483647)]) dX4_lastBefore_16 mlX4_111 okX8_lastBefore rfl inX8_lastBefore slX8_lastBefore (by decide) (hL.Kt (by omega)) rfl (by omega) (Nat.le_of_ble_eq_true rfl) hcb (c_Table_lastBefore0 (d := d - 1) hcb hL (j := 256 + l) (by omega) hv4 hw) (fun k M1 h => by cases h.1) (fun v M1 hq => ?_)
    obtain ⟨e0, e1⟩ := hq
    cases e0
    rw [e1]
    refine zr_istore_n (lv' := [some (.ref ((ad (32 + l)))), some (.ref r), some (.int (nI n)), some (.int ((-1)))]) dX4_lastBefore_19 (Nat.le_of_ble_eq_true rfl) (Nat.le_of_ble_eq_true rfl) rfl rfl ?_
    refine zr_iload_n dX4_lastBefore_20 rfl ?_
    refine zr_iconst (v := -1) dX4_lastBefore_21 (by decide) ?_
    refine zr_icmp_neMM 38 dX4_lastBefore_22 (by decide) ?_
    exact t_Level_lb hd hcb hL hl hV hC hn (fun g hg => by have := (List.getElem?_eq_some_iff.mp hg).1; omega)
def LB (fs : List zF) : Nat := (fs.map (fun f => f.2.1.length)).sum
theorem LB_take {fs : List zF} {i : Nat} {f : zF} (h : fs[i]? = some f) : LB (fs.take (i + 1)) = LB (fs.take i) + f.2.1.length := by
  unfold LB
  rw [List.take_succ, h, List.map_append, List.sum_append]
  simp
set_option maxRecDepth 100000 in
set_option maxHeartbeats 4000000 in
theorem l_Level_blocks {G : zG} {ad : Nat → Nat} {d k0 n0 l : Nat} {fs : List zF} {M : zM} {Q : zOut → zM → Prop} (hd : 1 ≤ d) (hcb : zC M ≤ 600128 ∧ zS M ≤ 7301098) (hL : Lay ad M) (hl : l < 3) (hV : Lv ad M l fs) (hq0 : Q (.inl (some (.int (nI (LB fs))))) M) : ∀ (m i : Nat) , fs.length - i = m → i ≤ fs.length → zw G mX4_blocks d k0 n0 Q 4 [some (.ref ((ad (32 + l)))), some (.int (nI (LB (fs.take i)))), some (.int (nI i))] [] M := by
  intro m
  induction m using Nat.strongRecOn with
  | _ m ih =>
    intro i hm hi
    obtain ⟨hv1, hv2, hv3, hv4⟩ := id hV
    refine zr_iload_n dX4_blocks_4 rfl ?_
    refine zr_aload_n dX4_blocks_5 rfl ?_
    refine zr_getI dX4_blocks_6 lkX4_31 (by decide) (by decide) rfl (hL.Kl hl) ?_
    refine zr_as (y := (nI fs.length)) hv1 ?_
    refine zr_icmp_geN 29 dX4_blocks_9 (by decide) (by omega) (by omega) (fun h9 => ?_) (fun h9 => ?_)
    · refine zr_iload_n dX4_blocks_29 rfl ?_
      refine zr_iret dX4_blocks_30 rfl ?_
      have e9 : i = fs.length := by omega
      subst e9
      rw [List.take_length]
      exact hq0
    · obtain ⟨f, hf⟩ : ∃ f, fs[i]? = some f := ⟨_, List.getElem?_eq_getElem (by omega)⟩
      obtain ⟨hf1, -, hTb⟩ := hv3 _ f hf
      refine zr_iload_n dX4_blocks_12 rfl ?_
      refine zr_aload_n dX4_blocks_13 rfl ?_
      refine zr_iload_n dX4_blocks_14 rfl ?_
      refine zr_callV (md' := mX4_table) (As := [.int (nI i)]) dX4_blocks_15 mlX4_41 okX4_table rfl inX4_table slX4_table (by decide) (hL.Kl hl) rfl (by omega) (Nat.le_of_ble_eq_true rfl) hcb (c_Level_table (d := d - 1) hcb hL hl hV hf) (fun k M1 h => by cases h.1) (fun v M1 hq => ?_)
      obtain ⟨e0, e1⟩ := hq
      cases e0
      rw [e1]
      refine zr_getI dX4_blocks_18 lkX4_45 (by decide) (by decide) rfl (hL.Kt (by omega)) ?_
      refine zr_as (y := (nI f.2.1.length)) hTb.1 ?_
      refine zr_iaddN dX4_blocks_21 ?_
      refine zr_istore_n (lv' := [some (.ref ((ad (32 + l)))), some (.int (nI ((LB (fs.take i)) + f.2.1.length))), some (.int (nI i))]) dX4_blocks_22 (Nat.le_of_ble_eq_true rfl) (Nat.le_of_ble_eq_true rfl) rfl rfl ?_
      refine zr_iincN (n := 1) (lv' := [some (.ref ((ad (32 + l)))), some (.int (nI ((LB (fs.take i)) + f.2.1.length))), some (.int (nI (i + 1)))]) dX4_blocks_23 (Nat.le_of_ble_eq_true rfl) (Nat.le_of_ble_eq_true rfl) rfl rfl rfl ?_
      refine zr_goto 4 dX4_blocks_26 (by decide) ?_
      rw [← LB_take hf]
      exact ih _ (by omega) (i + 1) rfl (by omega)
set_option maxRecDepth 100000 in
set_option maxHeartbeats 4000000 in
theorem c_Level_blocks {G : zG} {ad : Nat → Nat} {d l : Nat} {fs : List zF} {M : zM} (hd : 1 ≤ d) (hcb : zC M ≤ 600128 ∧ zS M ≤ 7301098) (hL : Lay ad M) (hl : l < 3) (hV : Lv ad M l fs)  : zMet G mX4_blocks d [.ref ((ad (32 + l)))] M (fun o M' => o = .inl (some (.int (nI (LB fs)))) ∧ M' = M) := by
  refine zMet_of (by decide +kernel) (Nat.le_of_ble_eq_true rfl) rfl hcb ?_
  show zw G mX4_blocks d _ _ _ 0 [some (.ref ((ad (32 + l)))), none, none] [] M
  obtain ⟨hv1, hv2, hv3, hv4⟩ := id hV
  refine zr_iconst (v := nI 0) dX4_blocks_0 (by decide) ?_
  refine zr_istore_n (lv' := [some (.ref ((ad (32 + l)))), some (.int (nI 0)), none]) dX4_blocks_1 (Nat.le_of_ble_eq_true rfl) (Nat.le_of_ble_eq_true rfl) rfl rfl ?_
  refine zr_iconst (v := nI 0) dX4_blocks_2 (by decide) ?_
  refine zr_istore_n (lv' := [some (.ref ((ad (32 + l)))), some (.int (nI 0)), some (.int (nI 0))]) dX4_blocks_3 (Nat.le_of_ble_eq_true rfl) (Nat.le_of_ble_eq_true rfl) rfl rfl ?_
  exact l_Level_blocks hd hcb hL hl hV ⟨rfl, rfl⟩ _ 0 rfl (by omega)
set_option maxRecDepth 100000 in
set_option maxHeartbeats 4000000 in
theorem c_Level_firstOf {G : zG} {ad : Nat → Nat} {d l i : Nat} {fs : List zF} {f : zF} {M : zM} (hd : 1 ≤ d) (hcb : zC M ≤ 600128 ∧ zS M ≤ 7301098) (hL : Lay ad M) (hl : l < 3) (hV : Lv ad M l fs) (hC : LC (zA M (ad 2)) fs) (hf : fs[i]? = some f)  : zMet G mX4_firstOf d [.ref ((ad (32 + l))), .int (nI i)] M (fun o M' => o = .inl (some (.int (zvi (sOf f.2.1 0)))) ∧ M' = M) := by
  refine zMet_of (by decide +kernel) (Nat.le_of_ble_eq_true rfl) rfl hcb ?_
  show zw G mX4_firstOf d _ _ _ 0 [some (.ref ((ad (32 + l)))), some (.int (nI i))] [] M
  obtain ⟨hv1, hv2, hv3, hv4⟩ := id hV
  have hfm := List.mem_of_getElem? hf
  obtain ⟨hf1, -, hTb⟩ := hv3 _ f hf
  have hTC := hC.1 f hfm
  have hbr := hTC.2.2.2.1
  have hne : 1 ≤ f.2.1.length := by have := hTC.1; omega
  have hj : f.1 < 259 := by omega
  have hil := (List.getElem?_eq_some_iff.mp hf).1
  refine zr_aload_n dX4_firstOf_0 rfl ?_
  refine zr_iload_n dX4_firstOf_1 rfl ?_
  refine zr_callV (md' := mX4_table) (As := [.int (nI i)]) dX4_firstOf_2 mlX4_41 okX4_table rfl inX4_table slX4_table (by decide) (hL.Kl hl) rfl (by omega) (Nat.le_of_ble_eq_true rfl) hcb (c_Level_table (d := d - 1) hcb hL hl hV hf) (fun k M1 h => by cases h.1) (fun v M1 hq => ?_)
  obtain ⟨e0, e1⟩ := hq
  cases e0
  rw [e1]
  refine zr_iconst (v := nI 0) dX4_firstOf_5 (by decide) ?_
  refine zr_callV (md' := mX8_startOf) (As := [.int (nI 0)]) dX4_firstOf_6 mlX4_46 okX8_startOf rfl inX8_startOf slX8_startOf (by decide) (hL.Kt (by omega)) rfl (by omega) (Nat.le_of_ble_eq_true rfl) hcb (c_Table_startOf (d := d - 1) hcb hL hj hTb hbr hne (by decide)) (fun k M1 h => by cases h.1) (fun v M1 hq => ?_)
  obtain ⟨e0, e1⟩ := hq
  cases e0
  rw [e1]
  refine zr_iret dX4_firstOf_9 rfl ?_
  exact ⟨rfl, rfl⟩
set_option maxRecDepth 100000 in
set_option maxHeartbeats 4000000 in
theorem c_Level_lastOf {G : zG} {ad : Nat → Nat} {d l i : Nat} {fs : List zF} {f : zF} {M : zM} (hd : 1 ≤ d) (hcb : zC M ≤ 600128 ∧ zS M ≤ 7301098) (hL : Lay ad M) (hl : l < 3) (hV : Lv ad M l fs) (hC : LC (zA M (ad 2)) fs) (hf : fs[i]? = some f)  : zMet G mX4_lastOf d [.ref ((ad (32 + l))), .int (nI i)] M (fun o M' => o = .inl (some (.int (zvi (fE f).getLast?))) ∧ M' = M) := by
  refine zMet_of (by decide +kernel) (Nat.le_of_ble_eq_true rfl) rfl hcb ?_
  show zw G mX4_lastOf d _ _ _ 0 [some (.ref ((ad (32 + l)))), some (.int (nI i))] [] M
  obtain ⟨hv1, hv2, hv3, hv4⟩ := id hV
  have hfm := List.mem_of_getElem? hf
  obtain ⟨hf1, -, hTb⟩ := hv3 _ f hf
  have hTC := hC.1 f hfm
  have hbr := hTC.2.2.2.1
  have hne : 1 ≤ f.2.1.length := by have := hTC.1; omega
  have hj : f.1 < 259 := by omega
  have hil := (List.getElem?_eq_some_iff.mp hf).1
  refine zr_aload_n dX4_lastOf_0 rfl ?_
  refine zr_iload_n dX4_lastOf_1 rfl ?_
  refine zr_callV (md' := mX4_table) (As := [.int (nI i)]) dX4_lastOf_2 mlX4_41 okX4_table rfl inX4_table slX4_table (by decide) (hL.Kl hl) rfl (by omega) (Nat.le_of_ble_eq_true rfl) hcb (c_Level_table (d := d - 1) hcb hL hl hV hf) (fun k M1 h => by cases h.1) (fun v M1 hq => ?_)
  obtain ⟨e0, e1⟩ := hq
  cases e0
  rw [e1]
  refine zr_getI dX4_lastOf_5 lkX4_50 (by decide) (by decide) rfl (hL.Kt (by omega)) ?_
  refine zr_as (y := (zvi (fE f).getLast?)) hTb.2.2.2 ?_
  refine zr_iret dX4_lastOf_8 rfl ?_
  exact ⟨rfl, rfl⟩
def pkM (ad : Nat → Nat) (M : zM) (l lo hi : Nat) : zM := zput (zput M 132 (ad (32 + l)) (nI lo)) 133 (ad (32 + l)) (nI hi)
/-- what is picked of a level -/
def Pk (ad : Nat → Nat) (M : zM) (l lo hi : Nat) : Prop := zI M 132 (ad (32 + l)) = nI lo ∧ zI M 133 (ad (32 + l)) = nI hi
theorem pkM_pk (ad : Nat → Nat) (M : zM) (l lo hi : Nat) : Pk ad (pkM ad M l lo hi) l lo hi := ⟨zput_ms (by decide) (zput_hit _ _ _ _), zput_hit _ _ _ _⟩
theorem pkM_lv {ad : Nat → Nat} {M : zM} {l l' lo hi : Nat} {fs : List zF} (h : Lv ad M l' fs) : Lv ad (pkM ad M l lo hi) l' fs := (h.put (by decide)).put (by decide)
set_option maxRecDepth 100000 in
set_option maxHeartbeats 4000000 in
theorem c_Level_pickNone {G : zG} {ad : Nat → Nat} {d l : Nat} {M : zM} (hcb : zC M ≤ 600128 ∧ zS M ≤ 7301098) (hL : Lay ad M) (hl : l < 3)  : zMet G mX4_pickNone d [.ref ((ad (32 + l)))] M (fun o M' => o = .inl none ∧ M' = pkM ad M l 0 0) := by
  refine zMet_of (by decide +kernel) (Nat.le_of_ble_eq_true rfl) rfl hcb ?_
  show zw G mX4_pickNone d _ _ _ 0 [some (.ref ((ad (32 + l))))] [] M
  refine zr_aload_n dX4_pickNone_0 rfl ?_
  refine zr_iconst (v := nI 0) dX4_pickNone_1 (by decide) ?_
  refine zr_putI dX4_pickNone_2 lkX4_35 (by decide) (by decide) rfl rfl (hL.Kl hl) ?_
  refine zr_aload_n dX4_pickNone_5 rfl ?_
  refine zr_iconst (v := nI 0) dX4_pickNone_6 (by decide) ?_
  refine zr_putI dX4_pickNone_7 lkX4_38 (by decide) (by decide) rfl rfl (hL.Kl hl) ?_
  refine zr_vret dX4_pickNone_10 rfl ?_
  exact ⟨rfl, rfl⟩
set_option maxRecDepth 100000 in
set_option maxHeartbeats 4000000 in
theorem c_Level_pickAll {G : zG} {ad : Nat → Nat} {d l : Nat} {fs : List zF} {M : zM} (hcb : zC M ≤ 600128 ∧ zS M ≤ 7301098) (hL : Lay ad M) (hl : l < 3) (hV : Lv ad M l fs)  : zMet G mX4_pickAll d [.ref ((ad (32 + l)))] M (fun o M' => o = .inl none ∧ M' = pkM ad M l 0 fs.length) := by
  refine zMet_of (by decide +kernel) (Nat.le_of_ble_eq_true rfl) rfl hcb ?_
  show zw G mX4_pickAll d _ _ _ 0 [some (.ref ((ad (32 + l))))] [] M
  obtain ⟨hv1, hv2, hv3, hv4⟩ := id hV
  refine zr_aload_n dX4_pickAll_0 rfl ?_
  refine zr_iconst (v := nI 0) dX4_pickAll_1 (by decide) ?_
  refine zr_putI dX4_pickAll_2 lkX4_35 (by decide) (by decide) rfl rfl (hL.Kl hl) ?_
  refine zr_aload_n dX4_pickAll_5 rfl ?_
  refine zr_aload_n dX4_pickAll_6 rfl ?_
  refine zr_getI dX4_pickAll_7 lkX4_31 (by decide) (by decide) rfl (hL.Kl hl) ?_
  refine zr_as (y := (nI fs.length)) (zput_ms (by decide) hv1) ?_
  refine zr_putI dX4_pickAll_10 lkX4_38 (by decide) (by decide) rfl rfl (hL.Kl hl) ?_
  refine zr_vret dX4_pickAll_13 rfl ?_
  exact ⟨rfl, rfl⟩
set_option maxRecDepth 100000 in
set_option maxHeartbeats 4000000 in
theorem c_Level_pickOne {G : zG} {ad : Nat → Nat} {d l i : Nat} {fs : List zF} {M : zM} (hd : 1 ≤ d) (hcb : zC M ≤ 600128 ∧ zS M ≤ 7301098) (hL : Lay ad M) (hl : l < 3) (hV : Lv ad M l fs) (hi : i < fs.length)  : zMet G mX4_pickOne d [.ref ((ad (32 + l))), .int (nI i)] M (fun o M' => o = .inl none ∧ M' = pkM ad M l i (i + 1)) := by
  refine zMet_of (by decide +kernel) (Nat.le_of_ble_eq_true rfl) rfl hcb ?_
  show zw G mX4_pickOne d _ _ _ 0 [some (.ref ((ad (32 + l)))), some (.int (nI i))] [] M
  obtain ⟨hv1, hv2, hv3, hv4⟩ := id hV
  refine zr_aload_n dX4_pickOne_0 rfl ?_
  refine zr_iconst (v := nI 0) dX4_pickOne_1 (by decide) ?_
  refine zr_iload_n dX4_pickOne_2 rfl ?_
  refine zr_aload_n dX4_pickOne_3 rfl ?_
  refine zr_getI dX4_pickOne_4 lkX4_31 (by decide) (by decide) rfl (hL.Kl hl) ?_
  refine zr_as (y := (nI fs.length)) hv1 ?_
  refine zr_callS (md' := mJ9_min_7cf53) (As := [.int (nI i), .int (nI fs.length)]) dX4_pickOne_7 mlX4_53 okJ9_min_7cf53 rfl stJ9_min_7cf53 rfl (by omega) (Nat.le_of_ble_eq_true rfl) hcb (c_min (d := d - 1) hcb (by omega) (by omega)) (fun k M1 h => by cases h.1) (fun v M1 hq => ?_)
  obtain ⟨e0, e1⟩ := hq
  cases e0
  rw [e1]
  refine zr_callS (md' := mJ9_max_7cf53) (As := [.int (nI 0), .int (nI (min i fs.length))]) dX4_pickOne_10 mlX4_59 okJ9_max_7cf53 rfl stJ9_max_7cf53 rfl (by omega) (Nat.le_of_ble_eq_true rfl) hcb (c_max (d := d - 1) hcb (by omega) (by omega)) (fun k M1 h => by cases h.1) (fun v M1 hq => ?_)
  obtain ⟨e0, e1⟩ := hq
  cases e0
  rw [e1]
  refine zr_putI dX4_pickOne_13 lkX4_35 (by decide) (by decide) rfl rfl (hL.Kl hl) ?_
  refine zr_aload_n dX4_pickOne_16 rfl ?_
  refine zr_aload_n dX4_pickOne_17 rfl ?_
  refine zr_getI dX4_pickOne_18 lkX4_35 (by decide) (by decide) rfl (hL.Kl hl) ?_
  refine zr_as (y := (nI (max 0 (min i fs.length)))) (zput_hit _ _ _ _) ?_
  refine zr_iconst (v := nI 1) dX4_pickOne_21 (by decide) ?_
  refine zr_iaddN dX4_pickOne_22 ?_
  refine zr_aload_n dX4_pickOne_23 rfl ?_
  refine zr_getI dX4_pickOne_24 lkX4_31 (by decide) (by decide) rfl (hL.Kl hl) ?_
  refine zr_as (y := (nI fs.length)) (zput_ms (by decide) hv1) ?_
  refine zr_callS (md' := mJ9_min_7cf53) (As := [.int (nI ((max 0 (min i fs.length)) + 1)), .int (nI fs.length)]) dX4_pickOne_27 mlX4_53 okJ9_min_7cf53 rfl stJ9_min_7cf53 rfl (by omega) (Nat.le_of_ble_eq_true rfl) hcb (c_min (d := d - 1) hcb (by omega) (by omega)) (fun k M1 h => by cases h.1) (fun v M1 hq => ?_)
  obtain ⟨e0, e1⟩ := hq
  cases e0
  rw [e1]
  refine zr_putI dX4_pickOne_30 lkX4_38 (by decide) (by decide) rfl rfl (hL.Kl hl) ?_
  refine zr_vret dX4_pickOne_33 rfl ?_
  have e1 : max 0 (min i fs.length) = i := by omega
  have e2 : min (max 0 (min i fs.length) + 1) fs.length = i + 1 := by omega
  exact ⟨rfl, by rw [e2, e1]; rfl⟩
