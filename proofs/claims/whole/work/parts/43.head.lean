/-! ===== LsmStore$Head: addNumber, addTable ===== -/
/-- a number as bytes, the highest first -/
def nb (n : Nat) : Nat → List Nat
  | 0 => []
  | k + 1 => (n / 256 ^ k % 256) :: nb n k
theorem nb_len (n : Nat) : ∀ k, (nb n k).length = k
  | 0 => rfl
  | k + 1 => by show (nb n k).length + 1 = k + 1; rw [nb_len n k]
theorem nb_snoc : ∀ (k n : Nat), nb n (k + 1) = nb (n / 256) k ++ [n % 256]
  | 0, n => by show [n / 256 ^ 0 % 256] = _; rw [Nat.pow_zero, Nat.div_one]; rfl
  | k + 1, n => by
    show (n / 256 ^ (k + 1) % 256) :: nb n (k + 1) = ((n / 256 / 256 ^ k % 256) :: nb (n / 256) k) ++ [n % 256]
    rw [nb_snoc k n, Nat.div_div_eq_div_mul, Nat.pow_succ, Nat.mul_comm (256 ^ k) 256]; rfl
/-- the row begins with these bytes -/
def Rc (r : Nat → Int32) (B : List Nat) : Prop := ∀ i b, B[i]? = some b → zb (r i) = b
theorem Rc.nil (r : Nat → Int32) : Rc r [] := fun i b h => by simp at h
theorem Rc.left {r : Nat → Int32} {A B : List Nat} (h : Rc r (A ++ B)) : Rc r A := fun i b hb => h i b (by rw [List.getElem?_append_left (List.getElem?_eq_some_iff.mp hb).1]; exact hb)
theorem Rc.right {r : Nat → Int32} {A B : List Nat} (h : Rc r (A ++ B)) : Rc (fun i => r (A.length + i)) B := fun i b hb => h _ b (by rw [List.getElem?_append_right (Nat.le_add_right _ _), Nat.add_sub_cancel_left]; exact hb)
theorem Rc.app {r : Nat → Int32} {A B : List Nat} (h1 : Rc r A) (h2 : Rc (fun i => r (A.length + i)) B) : Rc r (A ++ B) := fun i b hb => by
  rcases Nat.lt_or_ge i A.length with e | e
  · rw [List.getElem?_append_left e] at hb; exact h1 i b hb
  · rw [List.getElem?_append_right e] at hb
    have : zb (r (A.length + (i - A.length))) = b := h2 _ b hb
    rw [show A.length + (i - A.length) = i by omega] at this; exact this
theorem Rc.snoc {r : Nat → Int32} {B : List Nat} {x : Int32} {b : Nat} (h : Rc r B) (hx : zb x = b) : Rc (upd r B.length x) (B ++ [b]) := fun i c hc => by
  unfold upd
  rcases Nat.lt_or_ge i B.length with e | e
  · rw [List.getElem?_append_left e] at hc
    rw [if_neg (by omega)]; exact h i c hc
  · rw [List.getElem?_append_right e] at hc
    have h0 : i - B.length = 0 := by
      have := (List.getElem?_eq_some_iff.mp hc).1
      simp at this
      omega
    rw [h0] at hc
    cases hc
    rw [if_pos (by omega)]; exact hx
theorem Rc.congr {r s : Nat → Int32} {B : List Nat} (h : Rc r B) (he : ∀ i, i < B.length → s i = r i) : Rc s B := fun i b hb => by rw [he i (List.getElem?_eq_some_iff.mp hb).1]; exact h i b hb
theorem nuN_nb {D : Nat → Int32} {p : Nat} : ∀ {k n : Nat}, Rc (fun i => D (p + i)) (nb n k) → n < 256 ^ k → nuN D p k = n
  | 0, n, _, h => by rw [Nat.pow_zero] at h; show 0 = n; omega
  | k + 1, n, h, hn => by
    rw [nb_snoc] at h
    have h1 := nuN_nb (k := k) (n := n / 256) h.left (by rw [Nat.pow_succ] at hn; exact Nat.div_lt_of_lt_mul (by rw [Nat.mul_comm]; exact hn))
    have h2 : zb (D (p + ((nb (n / 256) k).length + 0))) = n % 256 := h.right 0 (n % 256) rfl
    rw [nb_len, Nat.add_zero] at h2
    show nuN D p k * 256 + zb (D (p + k)) = n
    rw [h1, h2]
    omega
theorem byte_at {n t : Nat} (hn : n < 2 ^ 31) (ht : t < 4) : zb (vp_nar .byte (Int32.toInt8 (nI n >>> (nI (8 * t) &&& 31))).toInt32) = n / 256 ^ t % 256 := by
  have := cby_zb (c := n) (j := 3 - t) hn (by omega)
  unfold cby at this
  rw [show 24 - 8 * (3 - t) = 8 * t by omega] at this
  rw [this, show (256 : Nat) = 2 ^ 8 from rfl, ← Nat.pow_mul]
/-- the head's record -/
def hrM (ad : Nat → Nat) (M : zM) (r : Nat → Int32) (n : Nat) : zM := zput (zsetA M (ad 31) r) 98 (ad 30) (nI n)
theorem hrM_hr (ad : Nat → Nat) (M : zM) (r r' : Nat → Int32) (n n' : Nat) : zput (zsetA (hrM ad M r n) (ad 31) r') 98 (ad 30) (nI n') = hrM ad M r' n' := by
  unfold hrM
  rw [zsetA_put, zsetA_setA, zput_put]
theorem hrM_hrM (ad : Nat → Nat) (M : zM) (r r' : Nat → Int32) (n n' : Nat) : hrM ad (hrM ad M r n) r' n' = hrM ad M r' n' := hrM_hr ad M r r' n n'
theorem hrM_r (ad : Nat → Nat) (M : zM) (r : Nat → Int32) (n : Nat) : zA (hrM ad M r n) (ad 31) = r := zsetA_hit _ _ _
theorem hrM_n (ad : Nat → Nat) (M : zM) (r : Nat → Int32) (n : Nat) : zI (hrM ad M r n) 98 (ad 30) = nI n := zput_hit _ _ _ _
theorem hrM_self {ad : Nat → Nat} {M : zM} {n : Nat} (h : zI M 98 (ad 30) = nI n) : hrM ad M (zA M (ad 31)) n = M := by
  unfold hrM
  rw [zsetA_self rfl, zput_self h]
theorem hrM_fl {ad : Nat → Nat} {M : zM} (hL : Lay ad M) (r : Nat → Int32) (n : Nat) : Fl ad 0 [98] [31] [] M (hrM ad M r n) := ((Fl.refl ad _ _ _ M).setA hL (i := 31)).put hL (f := 98) (i := 30)
set_option maxRecDepth 100000 in
set_option maxHeartbeats 4000000 in
theorem l_Head_addNumber {G : zG} {ad : Nat → Nat} {d k0 n0 n k : Nat} {M : zM} {Q : zOut → zM → Prop} (hL : Lay ad M) (hn31 : n < 2 ^ 31) : ∀ (t : Nat) (x : Option Nat) (B : List Nat) (r : Nat → Int32), x = (if t = 0 then none else some (t - 1)) → t ≤ 4 → B.length + t ≤ 2048 → Rc r B → (∀ (r1 : Nat → Int32) (B1 : List Nat), Rc r1 B1 → B1 = B ++ nb n t → Q (.inl none) (hrM ad M r1 B1.length)) → zw G mX3_addNumber d k0 n0 Q 4 [some (.ref ((ad 30))), some (.int (nI n)), some (.int (nI k)), some (.int (zvi x))] [] (hrM ad M r B.length) := by
  intro t
  induction t using Nat.strongRecOn with
  | _ t ih =>
    intro x B r hx ht hl hr hq0
    rcases t with _ | t
    · rw [if_pos rfl] at hx
      subst hx
      refine zr_asL (lv' := [some (.ref ((ad 30))), some (.int (nI n)), some (.int (nI k)), some (.int ((-1)))]) rfl ?_
      refine zr_iload_n dX3_addNumber_4 rfl ?_
      refine zr_if_ltM 50 dX3_addNumber_5 (by decide) ?_
      refine zr_vret dX3_addNumber_50 rfl ?_
      exact hq0 r B hr (List.append_nil B).symm
    · rw [if_neg (by omega), Nat.add_sub_cancel] at hx
      subst hx
      refine zr_asL (lv' := [some (.ref ((ad 30))), some (.int (nI n)), some (.int (nI k)), some (.int (nI t))]) rfl ?_
      refine zr_iload_n dX3_addNumber_4 rfl ?_
      refine zr_if_ltN 50 dX3_addNumber_5 (by decide) (by omega) ?_
      refine zr_aload_n dX3_addNumber_8 rfl ?_
      refine zr_getI dX3_addNumber_9 lkX3_39 (by decide) (by decide) rfl (hL.K 30 4) ?_
      refine zr_as (y := (nI B.length)) (hrM_n _ _ _ _) ?_
      refine zr_sipush (v := nI 2048) dX3_addNumber_12 (by decide) ?_
      refine zr_icmp_geN 50 dX3_addNumber_15 (by decide) (by omega) (by omega) (fun h15 => ?_) (fun h15 => ?_)
      · exfalso; omega
      · refine zr_aload_n dX3_addNumber_18 rfl ?_
        refine zr_getR dX3_addNumber_19 lkX3_9 (by decide) (by decide) rfl (hL.K 30 4) (hL.R 97 30 31) ?_
        refine zr_aload_n dX3_addNumber_22 rfl ?_
        refine zr_getI dX3_addNumber_23 lkX3_39 (by decide) (by decide) rfl (hL.K 30 4) ?_
        refine zr_as (y := (nI B.length)) (hrM_n _ _ _ _) ?_
        refine zr_iload_n dX3_addNumber_26 rfl ?_
        refine zr_bipush (v := nI 8) dX3_addNumber_27 (by decide) ?_
        refine zr_iload_n dX3_addNumber_29 rfl ?_
        refine zr_imulN dX3_addNumber_30 ?_
        refine zr_ishr dX3_addNumber_31 ?_
        refine zr_i2b dX3_addNumber_32 ?_
        refine zr_bastN dX3_addNumber_33 (hL.K 31 14) (hL.N 31 2048) (by omega) (by omega) ?_
        refine zr_aload_n dX3_addNumber_34 rfl ?_
        refine zr_dup dX3_addNumber_35 rfl ?_
        refine zr_getI dX3_addNumber_36 lkX3_39 (by decide) (by decide) rfl (hL.K 30 4) ?_
        refine zr_as (y := (nI B.length)) (hrM_n _ _ _ _) ?_
        refine zr_iconst (v := nI 1) dX3_addNumber_39 (by decide) ?_
        refine zr_iaddN dX3_addNumber_40 ?_
        refine zr_putI dX3_addNumber_41 lkX3_39 (by decide) (by decide) rfl rfl (hL.K 30 4) ?_
        rcases Nat.eq_zero_or_pos t with hz | hz
        · subst hz
          refine zr_iinc (w := (nI 0 + (-1))) (lv' := [some (.ref ((ad 30))), some (.int (nI n)), some (.int (nI k)), some (.int ((nI 0 + (-1))))]) dX3_addNumber_44 (Nat.le_of_ble_eq_true rfl) (Nat.le_of_ble_eq_true rfl) rfl rfl (by rw [show Int32.ofInt (-1) = (-1 : Int32) from by decide]) rfl ?_
          refine zr_goto 4 dX3_addNumber_47 (by decide) ?_
          refine zr_asL (lv' := [some (.ref ((ad 30))), some (.int (nI n)), some (.int (nI k)), some (.int (zvi none))]) rfl ?_
          rw [hrM_r, hrM_hr]
          refine zr_asM (M' := hrM ad M (upd r B.length (vp_nar .byte (Int32.toInt8 (nI n >>> (nI (8 * 0) &&& 31))).toInt32)) (B ++ [n / 256 ^ 0 % 256]).length) (by rw [List.length_append]; rfl) ?_
          exact ih 0 (by omega) none _ _ (by rw [if_pos rfl]) (by omega) (by rw [List.length_append]; simp; omega) (hr.snoc (byte_at hn31 (by omega))) (fun r1 B1 h1 h2 => hq0 r1 B1 h1 (by rw [h2, List.append_assoc]; rfl))
        · refine zr_idecN (lv' := [some (.ref ((ad 30))), some (.int (nI n)), some (.int (nI k)), some (.int (nI (t - 1)))]) dX3_addNumber_44 (Nat.le_of_ble_eq_true rfl) (Nat.le_of_ble_eq_true rfl) rfl rfl (by omega) rfl ?_
          refine zr_goto 4 dX3_addNumber_47 (by decide) ?_
          refine zr_asL (lv' := [some (.ref ((ad 30))), some (.int (nI n)), some (.int (nI k)), some (.int (zvi (some (t - 1))))]) rfl ?_
          rw [hrM_r, hrM_hr]
          refine zr_asM (M' := hrM ad M (upd r B.length (vp_nar .byte (Int32.toInt8 (nI n >>> (nI (8 * t) &&& 31))).toInt32)) (B ++ [n / 256 ^ t % 256]).length) (by rw [List.length_append]; rfl) ?_
          exact ih t (by omega) (some (t - 1)) _ _ (by rw [if_neg (by omega)]) (by omega) (by rw [List.length_append]; simp; omega) (hr.snoc (byte_at hn31 (by omega))) (fun r1 B1 h1 h2 => hq0 r1 B1 h1 (by rw [h2, List.append_assoc]; rfl))
set_option maxRecDepth 100000 in
set_option maxHeartbeats 4000000 in
theorem c_Head_addNumber {G : zG} {ad : Nat → Nat} {d n k : Nat} {B : List Nat} {M : zM} (hcb : zC M ≤ 600128 ∧ zS M ≤ 7301098) (hL : Lay ad M) (hn : zI M 98 (ad 30) = nI B.length) (hr : Rc (zA M (ad 31)) B) (hn31 : n < 2 ^ 31) (hk1 : 1 ≤ k) (hk4 : k ≤ 4) (hl : B.length + k ≤ 2048)  : zMet G mX3_addNumber d [.ref ((ad 30)), .int (nI n), .int (nI k)] M (fun o M' => o = .inl none ∧ ∃ r1 : Nat → Int32, M' = hrM ad M r1 (B ++ nb n k).length ∧ Rc r1 (B ++ nb n k)) := by
  refine zMet_of (by decide +kernel) (Nat.le_of_ble_eq_true rfl) rfl hcb ?_
  show zw G mX3_addNumber d _ _ _ 0 [some (.ref ((ad 30))), some (.int (nI n)), some (.int (nI k)), none] [] M
  refine zr_iload_n dX3_addNumber_0 rfl ?_
  refine zr_iconst (v := nI 1) dX3_addNumber_1 (by decide) ?_
  refine zr_isubN dX3_addNumber_2 (by omega) ?_
  refine zr_istore_n (lv' := [some (.ref ((ad 30))), some (.int (nI n)), some (.int (nI k)), some (.int (nI (k - 1)))]) dX3_addNumber_3 (Nat.le_of_ble_eq_true rfl) (Nat.le_of_ble_eq_true rfl) rfl rfl ?_
  refine zr_asL (lv' := [some (.ref ((ad 30))), some (.int (nI n)), some (.int (nI k)), some (.int (zvi (some (k - 1))))]) rfl ?_
  refine zr_asM (M' := hrM ad M (zA M (ad 31)) B.length) (hrM_self hn).symm ?_
  exact l_Head_addNumber hL hn31 k _ B _ (by rw [if_neg (by omega)]) hk4 hl hr (fun r1 B1 h1 h2 => ⟨rfl, r1, by rw [h2], by rw [← h2]; exact h1⟩)
def eTb (bl : List Nat) : List Nat := nb bl.length 1 ++ (bl.map (fun b => nb b 2)).flatten
theorem eTb_len (bl : List Nat) : (eTb bl).length = 1 + 2 * bl.length := by
  unfold eTb
  rw [List.length_append, nb_len]
  congr 1
  induction bl with
  | nil => rfl
  | cons b bl ih => rw [List.map_cons, List.flatten_cons, List.length_append, nb_len, ih, List.length_cons]; omega
theorem flat_take {bl : List Nat} {i b : Nat} (h : bl[i]? = some b) : ((bl.take (i + 1)).map (fun b => nb b 2)).flatten = ((bl.take i).map (fun b => nb b 2)).flatten ++ nb b 2 := by
  rw [List.take_succ, h, List.map_append, List.flatten_append]
  simp
theorem flat_take_len {bl : List Nat} {i : Nat} (h : i ≤ bl.length) : ((bl.take i).map (fun b => nb b 2)).flatten.length = 2 * i := by
  have h1 := eTb_len (bl.take i)
  unfold eTb at h1
  rw [List.length_append, nb_len, List.length_take, Nat.min_eq_left h] at h1
  omega
set_option maxRecDepth 100000 in
set_option maxHeartbeats 4000000 in
theorem l_Head_addTable {G : zG} {ad : Nat → Nat} {d k0 n0 j : Nat} {bl B : List Nat} {la : Option Nat} {M : zM} {Q : zOut → zM → Prop} (hd : 1 ≤ d) (hcb : zC M ≤ 600128 ∧ zS M ≤ 7301098) (hL : Lay ad M) (hj : j < 259) (hT : Tb ad M j bl la) (hbr : ∀ b ∈ bl, b < 65536) (hl : B.length + 1 + 2 * bl.length ≤ 2048) (hq0 : ∀ r : Nat → Int32, Rc r (B ++ eTb bl) → Q (.inl none) (hrM ad M r (B ++ eTb bl).length)) : ∀ (m i : Nat) (r : Nat → Int32), bl.length - i = m → i ≤ bl.length → Rc r (B ++ (nb bl.length 1 ++ ((bl.take i).map (fun b => nb b 2)).flatten)) → zw G mX3_addTable d k0 n0 Q 11 [some (.ref ((ad 30))), some (.ref ((ad (tA j)))), some (.int (nI i))] [] (hrM ad M r (B ++ (nb bl.length 1 ++ ((bl.take i).map (fun b => nb b 2)).flatten)).length) := by
  intro m
  induction m using Nat.strongRecOn with
  | _ m ih =>
    intro i r hm hi hr
    have hbl := hT.2.1
    refine zr_iload_n dX3_addTable_11 rfl ?_
    refine zr_aload_n dX3_addTable_12 rfl ?_
    refine zr_getI dX3_addTable_13 lkX3_72 (by decide) (by decide) rfl (hL.Kt hj) ?_
    refine zr_as (y := (nI bl.length)) (zput_ms (by decide) hT.1) ?_
    refine zr_icmp_geN 36 dX3_addTable_16 (by decide) (by omega) (by omega) (fun h16 => ?_) (fun h16 => ?_)
    · refine zr_vret dX3_addTable_36 rfl ?_
      have e9 : bl.take i = bl := List.take_of_length_le (by omega)
      rw [e9] at hr ⊢
      exact hq0 r hr
    · obtain ⟨b, hb⟩ : ∃ b, bl[i]? = some b := ⟨_, List.getElem?_eq_getElem (by omega)⟩
      have hb8 := hbr b (List.mem_of_getElem? hb)
      refine zr_aload_n dX3_addTable_19 rfl ?_
      refine zr_aload_n dX3_addTable_20 rfl ?_
      refine zr_getR dX3_addTable_21 lkX3_75 (by decide) (by decide) rfl (hL.Kt hj) (hL.tb hj) ?_
      refine zr_iload_n dX3_addTable_24 rfl ?_
      refine zr_ialdN dX3_addTable_25 (hL.Kb hj) (hL.Nb hj) (by omega) (by omega) ?_
      refine zr_as (y := (nI b)) ((congrFun (zsetA_ms (M := M) (hL.ne (by unfold tB; omega) (by unfold tB; omega)) rfl) i).trans (hT.2.2.1 i b hb)) ?_
      refine zr_iconst (v := nI 2) dX3_addTable_26 (by decide) ?_
      refine zr_callV (md' := mX3_addNumber) (As := [.int (nI b), .int (nI 2)]) dX3_addTable_27 mlX3_55 okX3_addNumber rfl inX3_addNumber slX3_addNumber (by decide) (hL.K 30 4) rfl (by omega) (Nat.le_of_ble_eq_true rfl) hcb (c_Head_addNumber (d := d - 1) (M := (hrM ad M r (B ++ (nb bl.length 1 ++ ((bl.take i).map (fun b => nb b 2)).flatten)).length)) (B := (B ++ (nb bl.length 1 ++ ((bl.take i).map (fun b => nb b 2)).flatten))) hcb hL (hrM_n _ _ _ _) (by rw [hrM_r]; exact hr) (by omega) (by decide) (by decide) (by rw [List.length_append, List.length_append, nb_len, flat_take_len (by omega)]; omega)) (fun k M1 h => by cases h.1) (fun v M1 hq => ?_)
      obtain ⟨e0, r1, e1, hr1⟩ := hq
      cases e0
      rw [e1, hrM_hrM]
      refine zr_iincN (n := 1) (lv' := [some (.ref ((ad 30))), some (.ref ((ad (tA j)))), some (.int (nI (i + 1)))]) dX3_addTable_30 (Nat.le_of_ble_eq_true rfl) (Nat.le_of_ble_eq_true rfl) rfl rfl rfl ?_
      refine zr_goto 11 dX3_addTable_33 (by decide) ?_
      have e9 : (B ++ (nb bl.length 1 ++ ((bl.take i).map (fun b => nb b 2)).flatten)) ++ nb b 2 = B ++ (nb bl.length 1 ++ ((bl.take (i + 1)).map (fun b => nb b 2)).flatten) := by rw [flat_take hb, List.append_assoc, List.append_assoc]
      rw [e9] at hr1 ⊢
      exact ih _ (by omega) (i + 1) r1 rfl (by omega) hr1
set_option maxRecDepth 100000 in
set_option maxHeartbeats 4000000 in
theorem c_Head_addTable {G : zG} {ad : Nat → Nat} {d j : Nat} {bl B : List Nat} {la : Option Nat} {M : zM} (hd : 1 ≤ d) (hcb : zC M ≤ 600128 ∧ zS M ≤ 7301098) (hL : Lay ad M) (hj : j < 259) (hT : Tb ad M j bl la) (hbr : ∀ b ∈ bl, b < 65536) (hl : B.length + 1 + 2 * bl.length ≤ 2048) (hn : zI M 98 (ad 30) = nI B.length) (hr : Rc (zA M (ad 31)) B)  : zMet G mX3_addTable d [.ref ((ad 30)), .ref ((ad (tA j)))] M (fun o M' => o = .inl none ∧ ∃ r : Nat → Int32, M' = hrM ad M r (B ++ eTb bl).length ∧ Rc r (B ++ eTb bl)) := by
  refine zMet_of (by decide +kernel) (Nat.le_of_ble_eq_true rfl) rfl hcb ?_
  show zw G mX3_addTable d _ _ _ 0 [some (.ref ((ad 30))), some (.ref ((ad (tA j)))), none] [] M
  refine zr_aload_n dX3_addTable_0 rfl ?_
  refine zr_aload_n dX3_addTable_1 rfl ?_
  refine zr_getI dX3_addTable_2 lkX3_72 (by decide) (by decide) rfl (hL.Kt hj) ?_
  refine zr_as (y := (nI bl.length)) hT.1 ?_
  refine zr_iconst (v := nI 1) dX3_addTable_5 (by decide) ?_
  refine zr_callV (md' := mX3_addNumber) (As := [.int (nI bl.length), .int (nI 1)]) dX3_addTable_6 mlX3_55 okX3_addNumber rfl inX3_addNumber slX3_addNumber (by decide) (hL.K 30 4) rfl (by omega) (Nat.le_of_ble_eq_true rfl) hcb (c_Head_addNumber (d := d - 1) (B := B) hcb hL hn hr (by have := hT.2.1; omega) (by decide) (by decide) (by omega)) (fun k M1 h => by cases h.1) (fun v M1 hq => ?_)
  obtain ⟨e0, r1, e1, hr1⟩ := hq
  cases e0
  rw [e1]
  refine zr_iconst (v := nI 0) dX3_addTable_9 (by decide) ?_
  refine zr_istore_n (lv' := [some (.ref ((ad 30))), some (.ref ((ad (tA j)))), some (.int (nI 0))]) dX3_addTable_10 (Nat.le_of_ble_eq_true rfl) (Nat.le_of_ble_eq_true rfl) rfl rfl ?_
  refine zr_asM (M' := hrM ad M r1 (B ++ (nb bl.length 1 ++ ((bl.take 0).map (fun b => nb b 2)).flatten)).length) (by rw [List.take_zero]; simp) ?_
  exact l_Head_addTable hd hcb hL hj hT hbr hl (fun r h => ⟨rfl, r, rfl, h⟩) _ 0 r1 rfl (by omega) (by rw [List.take_zero]; simpa using hr1)
