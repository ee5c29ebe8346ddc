/-! ===== LsmStore$Level: cut, insert, clear, add ===== -/
theorem m1_lt {n : Nat} (h : n < 2 ^ 31) : (-1 : Int32) < nI n := by
  refine Int32.lt_iff_toInt_lt.mpr ?_
  rw [show (-1 : Int32).toInt = -1 from by decide, show (nI n).toInt = (n : Int) from nI_toInt h]
  omega
/-- the rows of what goes -/
def reM (ad : Nat → Nat) (M : zM) (g : Nat → Option Nat) (n : Nat) : zM := zput (zsetB M (ad 21) g) 68 (ad 17) (nI n)
def Rd (ad : Nat → Nat) (g : Nat → Option Nat) (l : List Nat) : Prop := ∀ i j, l[i]? = some j → j < 256 ∧ g i = some (ad (tA j))
theorem reM_rt {ad : Nat → Nat} {M : zM} {g : Nat → Option Nat} {l : List Nat} (h : Rd ad g l) (hl : l.length ≤ 256) : Rt ad (reM ad M g l.length) l := ⟨zput_hit _ _ _ _, hl, fun i j hi => ⟨(h i j hi).1, (congrFun (zsetB_hit _ _ _) i).trans (h i j hi).2⟩⟩
theorem zsetB_setB (M : zM) (a : Nat) (g h : Nat → Option Nat) : zsetB (zsetB M a g) a h = zsetB M a h := by
  unfold zsetB
  rw [show zB (M.1, M.2.1, M.2.2.1, va_up (zB M) a g, M.2.2.2.2) = va_up (zB M) a g from rfl]
  have e : va_up (va_up (zB M) a g) a h = va_up (zB M) a h := by
    funext x
    by_cases hx : x = a
    · rw [hx, va_up_self, va_up_self]
    · rw [va_up_ne _ _ hx, va_up_ne _ _ hx, va_up_ne _ _ hx]
  rw [e]
theorem reM_re (ad : Nat → Nat) (M : zM) (g h : Nat → Option Nat) (n k : Nat) : zput (zsetB (reM ad M g n) (ad 21) h) 68 (ad 17) (nI k) = reM ad M h k := by
  unfold reM
  rw [show zsetB (zput (zsetB M (ad 21) g) 68 (ad 17) (nI n)) (ad 21) h = zput (zsetB (zsetB M (ad 21) g) (ad 21) h) 68 (ad 17) (nI n) from rfl, zsetB_setB, zput_put]
theorem zsetB_self {M : zM} {a : Nat} {g : Nat → Option Nat} (h : zB M a = g) : zsetB M a g = M := by
  unfold zsetB
  have e : va_up (zB M) a g = zB M := by
    funext x
    by_cases hx : x = a
    · rw [hx, va_up_self, h]
    · rw [va_up_ne _ _ hx]
  rw [e]; rfl
theorem reM_self {ad : Nat → Nat} {M : zM} {rt : List Nat} (h : Rt ad M rt) : reM ad M (zB M (ad 21)) rt.length = M := by
  unfold reM
  rw [zsetB_self rfl, zput_self h.1]
theorem Rd.snoc {ad : Nat → Nat} {g : Nat → Option Nat} {l : List Nat} {j : Nat} (h : Rd ad g l) (hj : j < 256) : Rd ad (va_up g l.length (some (ad (tA j)))) (l ++ [j]) := by
  intro i x hx
  rcases Nat.lt_or_ge i l.length with e | e
  · rw [List.getElem?_append_left e] at hx
    rw [va_up_ne _ _ (Nat.ne_of_lt e)]
    exact h i x hx
  · rw [List.getElem?_append_right e] at hx
    have h0 : i - l.length = 0 := by
      have := (List.getElem?_eq_some_iff.mp hx).1
      simp at this
      omega
    rw [h0] at hx
    cases hx
    rw [show i = l.length by omega, va_up_self]
    exact ⟨hj, rfl⟩
theorem zsetB_ms {M : zM} {a b : Nat} {g h : Nat → Option Nat} (hb : b ≠ a) (e : zB M b = h) : zB (zsetB M a g) b = h := by rw [zsetB_B, va_up_ne _ _ hb]; exact e
theorem Lv.re {ad : Nat → Nat} {M : zM} {l n : Nat} {fs : List zF} {g : Nat → Option Nat} (hL : Lay ad M) (h : Lv ad M l fs) (hl : l < 3) : Lv ad (reM ad M g n) l fs :=
  ⟨zput_ms (by decide) h.1, h.2.1, fun i f hf => ⟨(h.2.2.1 i f hf).1, (congrFun (zsetB_ms (M := M) (hL.ne (by omega)) rfl) i).trans (h.2.2.1 i f hf).2.1, zput_ms (by decide) (h.2.2.1 i f hf).2.2.1, (h.2.2.1 i f hf).2.2.2.1, (h.2.2.1 i f hf).2.2.2.2.1, zput_ms (by decide) (h.2.2.1 i f hf).2.2.2.2.2⟩, zput_ms (by decide) h.2.2.2.1, h.2.2.2.2.1, h.2.2.2.2.2.1, zput_ms (by decide) h.2.2.2.2.2.2⟩
/-- the row of a level's tables, their number -/
def lvM (ad : Nat → Nat) (M : zM) (l : Nat) (g : Nat → Option Nat) (n : Nat) : zM := zput (zsetB M (ad (35 + l)) g) 131 (ad (32 + l)) (nI n)
theorem Lv.mk {ad : Nat → Nat} {M : zM} {l : Nat} {fs : List zF} {g : Nat → Option Nat} (h1 : fs.length ≤ 256) (h2 : ∀ (i : Nat) (f : zF), fs[i]? = some f → f.1 < 256 ∧ g i = some (ad (tA f.1)) ∧ Tb ad M f.1 f.2.1 (fE f).getLast?) (h3 : Tb ad M (256 + l) [] none) : Lv ad (lvM ad M l g fs.length) l fs :=
  ⟨zput_hit _ _ _ _, h1, fun i f hf => ⟨(h2 i f hf).1, (congrFun (zsetB_hit _ _ _) i).trans (h2 i f hf).2.1, zput_ms (by decide) (h2 i f hf).2.2.1, (h2 i f hf).2.2.2.1, (h2 i f hf).2.2.2.2.1, zput_ms (by decide) (h2 i f hf).2.2.2.2.2⟩, zput_ms (by decide) h3.1, h3.2.1, h3.2.2.1, zput_ms (by decide) h3.2.2.2⟩
theorem Lv.oth {ad : Nat → Nat} {M : zM} {l l' n : Nat} {fs : List zF} {g : Nat → Option Nat} (hL : Lay ad M) (h : Lv ad M l' fs) (hl : l < 3) (hl' : l' < 3) (hn : l' ≠ l) : Lv ad (lvM ad M l g n) l' fs :=
  ⟨zput_ma (hL.ne (by omega)) h.1, h.2.1, fun i f hf => ⟨(h.2.2.1 i f hf).1, (congrFun (zsetB_ms (M := M) (hL.ne (by omega)) rfl) i).trans (h.2.2.1 i f hf).2.1, zput_ms (by decide) (h.2.2.1 i f hf).2.2.1, (h.2.2.1 i f hf).2.2.2.1, (h.2.2.1 i f hf).2.2.2.2.1, zput_ms (by decide) (h.2.2.1 i f hf).2.2.2.2.2⟩, zput_ms (by decide) h.2.2.2.1, h.2.2.2.2.1, h.2.2.2.2.2.1, zput_ms (by decide) h.2.2.2.2.2.2⟩
def ids (fs : List zF) (lo i : Nat) : List Nat := ((fs.take i).drop lo).map (·.1)
theorem ids_self (fs : List zF) (lo : Nat) : ids fs lo lo = [] := by
  unfold ids
  rw [List.drop_eq_nil_of_le (by rw [List.length_take]; omega)]
  rfl
theorem ids_succ {fs : List zF} {lo i : Nat} {f : zF} (h : fs[i]? = some f) (hi : lo ≤ i) : ids fs lo (i + 1) = ids fs lo i ++ [f.1] := by
  unfold ids
  have hl := (List.getElem?_eq_some_iff.mp h).1
  rw [List.take_succ, h, List.drop_append_of_le_length (by rw [List.length_take]; omega), List.map_append]
  rfl
theorem ids_len {fs : List zF} {lo i : Nat} (hi : i ≤ fs.length) : (ids fs lo i).length = i - lo := by
  unfold ids
  rw [List.length_map, List.length_drop, List.length_take, Nat.min_eq_left hi]
set_option maxRecDepth 100000 in
set_option maxHeartbeats 4000000 in
theorem l_Level_cut1 {G : zG} {ad : Nat → Nat} {d k0 n0 l lo hi : Nat} {rt : List Nat} {fs : List zF} {M : zM} {Q : zOut → zM → Prop} (hd : 1 ≤ d) (hcb : zC M ≤ 600128 ∧ zS M ≤ 7301098) (hL : Lay ad M) (hl : l < 3) (hV : Lv ad M l fs) (hR : Rt ad M rt) (hpk : Pk ad M l lo hi) (hlo : lo ≤ hi) (hhi : hi ≤ fs.length) (hsz : rt.length + (hi - lo) ≤ 256) (hk : ∀ g, Rd ad g (rt ++ ids fs lo hi) → zw G mX4_cut d k0 n0 Q 28 [some (.ref ((ad (32 + l)))), some (.ref ((ad 17))), some (.int (nI hi)), none] [] (reM ad M g (rt ++ ids fs lo hi).length)) : ∀ (m i : Nat) (g : Nat → Option Nat), hi - i = m → lo ≤ i → i ≤ hi → Rd ad g (rt ++ ids fs lo i) → zw G mX4_cut d k0 n0 Q 5 [some (.ref ((ad (32 + l)))), some (.ref ((ad 17))), some (.int (nI i)), none] [] (reM ad M g (rt ++ ids fs lo i).length) := by
  intro m
  induction m using Nat.strongRecOn with
  | _ m ih =>
    intro i g hm h1 h2 hRd
    obtain ⟨hv1, hv2, hv3, hv4⟩ := id hV
    refine zr_iload_n dX4_cut_5 rfl ?_
    refine zr_aload_n dX4_cut_6 rfl ?_
    refine zr_getI dX4_cut_7 lkX4_38 (by decide) (by decide) rfl (hL.Kl hl) ?_
    refine zr_as (y := (nI hi)) (zput_ms (by decide) hpk.2) ?_
    refine zr_icmp_geN 28 dX4_cut_10 (by decide) (by omega) (by omega) (fun h10 => ?_) (fun h10 => ?_)
    · have e9 : i = hi := by omega
      subst e9
      exact hk g hRd
    · obtain ⟨f, hf⟩ : ∃ f, fs[i]? = some f := ⟨_, List.getElem?_eq_getElem (by omega)⟩
      obtain ⟨hf1, hfB, hTb⟩ := hv3 _ f hf
      refine zr_aload_n dX4_cut_13 rfl ?_
      refine zr_aload_n dX4_cut_14 rfl ?_
      refine zr_iload_n dX4_cut_15 rfl ?_
      refine zr_callV (md' := mX4_table) (As := [.int (nI i)]) dX4_cut_16 mlX4_41 okX4_table rfl inX4_table slX4_table (by decide) (hL.Kl hl) rfl (by omega) (Nat.le_of_ble_eq_true rfl) hcb (c_Level_table (d := d - 1) (M := (reM ad M g (rt ++ ids fs lo i).length)) hcb (Lay.setB hL (i := 21) g (by decide) (by decide) (by decide)) hl (hV.re hL hl) hf) (fun k M1 h => by cases h.1) (fun v M1 hq => ?_)
      obtain ⟨e0, e1⟩ := hq
      cases e0
      rw [e1]
      refine zr_callV (md' := mX2_retire) (As := [.ref ((ad (tA f.1)))]) dX4_cut_19 mlX4_83 okX2_retire rfl inX2_retire slX2_retire (by decide) (hL.K 17 3) rfl (by omega) (Nat.le_of_ble_eq_true rfl) hcb (c_Files_retire (d := d - 1) (M := (reM ad M g (rt ++ ids fs lo i).length)) hcb (Lay.setB hL (i := 21) g (by decide) (by decide) (by decide)) (reM_rt hRd (by rw [List.length_append, ids_len (by omega)]; omega)) (by rw [List.length_append, ids_len (by omega)]; omega) hf1) (fun k M1 h => by cases h.1) (fun v M1 hq => ?_)
      obtain ⟨e0, e1⟩ := hq
      cases e0
      rw [e1, show rtM ad (reM ad M g (rt ++ ids fs lo i).length) (rt ++ ids fs lo i).length f.1 = reM ad M (va_up g (rt ++ ids fs lo i).length (some (ad (tA f.1)))) ((rt ++ ids fs lo i).length + 1) from by unfold rtM; rw [show zB (reM ad M g (rt ++ ids fs lo i).length) (ad 21) = g from zsetB_hit _ _ _]; exact reM_re _ _ _ _ _ _]
      refine zr_iincN (n := 1) (lv' := [some (.ref ((ad (32 + l)))), some (.ref ((ad 17))), some (.int (nI (i + 1))), none]) dX4_cut_22 (Nat.le_of_ble_eq_true rfl) (Nat.le_of_ble_eq_true rfl) rfl rfl rfl ?_
      refine zr_goto 5 dX4_cut_25 (by decide) ?_
      have e9 : rt ++ ids fs lo (i + 1) = rt ++ ids fs lo i ++ [f.1] := by rw [ids_succ hf (by omega), List.append_assoc]
      refine zr_asM (M' := reM ad M (va_up g (rt ++ ids fs lo i).length (some (ad (tA f.1)))) (rt ++ ids fs lo (i + 1)).length) (by rw [show (rt ++ ids fs lo (i + 1)).length = (rt ++ ids fs lo i).length + 1 from by rw [e9]; exact List.length_append (as := rt ++ ids fs lo i)]) ?_
      exact ih _ (by omega) (i + 1) _ rfl (by omega) (by omega) (by rw [e9]; exact hRd.snoc hf1)
set_option maxRecDepth 100000 in
set_option maxHeartbeats 4000000 in
theorem l_Level_cut2 {G : zG} {ad : Nat → Nat} {d k0 n0 l lo hi : Nat} {fs : List zF} {M : zM} {Q : zOut → zM → Prop} (hcb : zC M ≤ 600128 ∧ zS M ≤ 7301098) (hL : Lay ad M) (hl : l < 3) (hV : Lv ad M l fs) (hpk : Pk ad M l lo hi) (hlo : lo ≤ hi) (hhi : hi ≤ fs.length) (hq0 : ∀ g : Nat → Option Nat, (∀ x, x < lo → g x = zB M (ad (35 + l)) x) → (∀ x, lo ≤ x → x < fs.length - (hi - lo) → g x = zB M (ad (35 + l)) (x + (hi - lo))) → Q (.inl none) (zput (zput (zsetB M (ad (35 + l)) g) 131 (ad (32 + l)) (nI (fs.length - (hi - lo)))) 133 (ad (32 + l)) (nI lo))) : ∀ (m i : Nat) (g : Nat → Option Nat), fs.length - i = m → hi ≤ i → i ≤ fs.length → (∀ x, x < lo → g x = zB M (ad (35 + l)) x) → (∀ x, lo ≤ x → x < i - (hi - lo) → g x = zB M (ad (35 + l)) (x + (hi - lo))) → (∀ x, i ≤ x → g x = zB M (ad (35 + l)) x) → zw G mX4_cut d k0 n0 Q 43 [some (.ref ((ad (32 + l)))), some (.ref ((ad 17))), some (.int (nI (hi - lo))), some (.int (nI i))] [] (zsetB M (ad (35 + l)) g) := by
  intro m
  induction m using Nat.strongRecOn with
  | _ m ih =>
    intro i g hm h1 h2 hg1 hg2 hg3
    obtain ⟨hv1, hv2, hv3, hv4⟩ := id hV
    refine zr_iload_n dX4_cut_43 rfl ?_
    refine zr_aload_n dX4_cut_44 rfl ?_
    refine zr_getI dX4_cut_45 lkX4_31 (by decide) (by decide) rfl (hL.Kl hl) ?_
    refine zr_as (y := (nI fs.length)) hv1 ?_
    refine zr_icmp_geN 71 dX4_cut_48 (by decide) (by omega) (by omega) (fun h48 => ?_) (fun h48 => ?_)
    · refine zr_aload_n dX4_cut_71 rfl ?_
      refine zr_dup dX4_cut_72 rfl ?_
      refine zr_getI dX4_cut_73 lkX4_31 (by decide) (by decide) rfl (hL.Kl hl) ?_
      refine zr_as (y := (nI fs.length)) hv1 ?_
      refine zr_iload_n dX4_cut_76 rfl ?_
      refine zr_isubN dX4_cut_77 (by omega) ?_
      refine zr_putI dX4_cut_78 lkX4_31 (by decide) (by decide) rfl rfl (hL.Kl hl) ?_
      refine zr_aload_n dX4_cut_81 rfl ?_
      refine zr_aload_n dX4_cut_82 rfl ?_
      refine zr_getI dX4_cut_83 lkX4_35 (by decide) (by decide) rfl (hL.Kl hl) ?_
      refine zr_as (y := (nI lo)) (zput_ms (by decide) hpk.1) ?_
      refine zr_putI dX4_cut_86 lkX4_38 (by decide) (by decide) rfl rfl (hL.Kl hl) ?_
      refine zr_vret dX4_cut_89 rfl ?_
      have e9 : i = fs.length := by omega
      subst e9
      exact hq0 g hg1 (fun x h1 h2 => hg2 x h1 (by omega))
    · obtain ⟨f, hf⟩ : ∃ f, fs[i]? = some f := ⟨_, List.getElem?_eq_getElem (by omega)⟩
      obtain ⟨hf1, hfB, hTb⟩ := hv3 _ f hf
      refine zr_aload_n dX4_cut_51 rfl ?_
      refine zr_getR dX4_cut_52 lkX4_11 (by decide) (by decide) rfl (hL.Kl hl) (hL.lt hl) ?_
      refine zr_iload_n dX4_cut_55 rfl ?_
      refine zr_iload_n dX4_cut_56 rfl ?_
      refine zr_isubN dX4_cut_57 (by omega) ?_
      refine zr_aload_n dX4_cut_58 rfl ?_
      refine zr_getR dX4_cut_59 lkX4_11 (by decide) (by decide) rfl (hL.Kl hl) (hL.lt hl) ?_
      refine zr_iload_n dX4_cut_62 rfl ?_
      refine zr_aaldK dX4_cut_63 (Or.inr (hL.Kla hl)) (hL.Nla hl) (by omega) (by omega) ((congrFun (zsetB_hit _ _ _) i).trans ((hg3 i (by omega)).trans hfB)) ?_
      refine zr_aastN dX4_cut_64 (Or.inr ⟨hL.Kla hl, hL.Kt (by omega)⟩) (hL.Nla hl) (by omega) (by omega) ?_
      refine zr_iincN (n := 1) (lv' := [some (.ref ((ad (32 + l)))), some (.ref ((ad 17))), some (.int (nI (hi - lo))), some (.int (nI (i + 1)))]) dX4_cut_65 (Nat.le_of_ble_eq_true rfl) (Nat.le_of_ble_eq_true rfl) rfl rfl rfl ?_
      refine zr_goto 43 dX4_cut_68 (by decide) ?_
      rw [zsetB_setB, zsetB_hit]
      exact ih _ (by omega) (i + 1) _ rfl (by omega) (by omega) (fun x hx => by rw [va_up_ne _ _ (by omega)]; exact hg1 x hx) (fun x h1 h2 => (Nat.lt_or_ge x (i - (hi - lo))).elim (fun z => by rw [va_up_ne _ _ (by omega)]; exact hg2 x h1 z) (fun z => by rw [show x = i - (hi - lo) by omega, va_up_self, show i - (hi - lo) + (hi - lo) = i by omega]; exact hfB.symm)) (fun x hx => by rw [va_up_ne _ _ (by omega)]; exact hg3 x (by omega))
theorem cut_get {fs : List zF} {lo hi x : Nat} {f : zF} (h1 : lo ≤ hi) (h2 : hi ≤ fs.length) (h : (fs.take lo ++ fs.drop hi)[x]? = some f) : (x < lo ∧ fs[x]? = some f) ∨ (lo ≤ x ∧ fs[x + (hi - lo)]? = some f) := by
  have hl : (fs.take lo).length = lo := by rw [List.length_take]; omega
  rcases Nat.lt_or_ge x lo with e | e
  · rw [List.getElem?_append_left (by omega), List.getElem?_take_of_lt e] at h
    exact Or.inl ⟨e, h⟩
  · rw [List.getElem?_append_right (by omega), List.getElem?_drop, hl, show hi + (x - lo) = x + (hi - lo) by omega] at h
    exact Or.inr ⟨e, h⟩
theorem cut_len {fs : List zF} {lo hi : Nat} (h1 : lo ≤ hi) (h2 : hi ≤ fs.length) : (fs.take lo ++ fs.drop hi).length = fs.length - (hi - lo) := by
  rw [List.length_append, List.length_take, List.length_drop]; omega
set_option maxRecDepth 100000 in
set_option maxHeartbeats 4000000 in
theorem c_Level_cut0 {G : zG} {ad : Nat → Nat} {d l lo hi : Nat} {rt : List Nat} {fs : List zF} {M : zM} (hd : 1 ≤ d) (hcb : zC M ≤ 600128 ∧ zS M ≤ 7301098) (hL : Lay ad M) (hl : l < 3) (hV : Lv ad M l fs) (hR : Rt ad M rt) (hpk : Pk ad M l lo hi) (hlo : lo ≤ hi) (hhi : hi ≤ fs.length) (hsz : rt.length + (hi - lo) ≤ 256)  : zMet G mX4_cut d [.ref ((ad (32 + l))), .ref ((ad 17))] M (fun o M' => o = .inl none ∧ ∃ g g1 : Nat → Option Nat, M' = zput (lvM ad (reM ad M g (rt ++ ids fs lo hi).length) l g1 (fs.length - (hi - lo))) 133 (ad (32 + l)) (nI lo) ∧ Rd ad g (rt ++ ids fs lo hi) ∧ (∀ x, x < lo → g1 x = zB M (ad (35 + l)) x) ∧ ∀ x, lo ≤ x → x < fs.length - (hi - lo) → g1 x = zB M (ad (35 + l)) (x + (hi - lo))) := by
  refine zMet_of (by decide +kernel) (Nat.le_of_ble_eq_true rfl) rfl hcb ?_
  show zw G mX4_cut d _ _ _ 0 [some (.ref ((ad (32 + l)))), some (.ref ((ad 17))), none, none] [] M
  obtain ⟨hv1, hv2, hv3, hv4⟩ := id hV
  refine zr_aload_n dX4_cut_0 rfl ?_
  refine zr_getI dX4_cut_1 lkX4_35 (by decide) (by decide) rfl (hL.Kl hl) ?_
  refine zr_as (y := (nI lo)) hpk.1 ?_
  refine zr_istore_n (lv' := [some (.ref ((ad (32 + l)))), some (.ref ((ad 17))), some (.int (nI lo)), none]) dX4_cut_4 (Nat.le_of_ble_eq_true rfl) (Nat.le_of_ble_eq_true rfl) rfl rfl ?_
  refine zr_asM (M' := reM ad M (zB M (ad 21)) (rt ++ ids fs lo lo).length) (by rw [ids_self, List.append_nil, reM_self hR]) ?_
  refine l_Level_cut1 hd hcb hL hl hV hR hpk hlo hhi hsz (fun g hg => ?_) _ lo _ rfl (by omega) (by omega) (by rw [ids_self, List.append_nil]; exact hR.2.2)
  have hL9 := Lay.setB hL (i := 21) g (by decide) (by decide) (by decide)
  refine zr_aload_n dX4_cut_28 rfl ?_
  refine zr_getI dX4_cut_29 lkX4_38 (by decide) (by decide) rfl (hL.Kl hl) ?_
  refine zr_as (y := (nI hi)) (zput_ms (by decide) hpk.2) ?_
  refine zr_aload_n dX4_cut_32 rfl ?_
  refine zr_getI dX4_cut_33 lkX4_35 (by decide) (by decide) rfl (hL.Kl hl) ?_
  refine zr_as (y := (nI lo)) (zput_ms (by decide) hpk.1) ?_
  refine zr_isubN dX4_cut_36 (by omega) ?_
  refine zr_istore_n (lv' := [some (.ref ((ad (32 + l)))), some (.ref ((ad 17))), some (.int (nI (hi - lo))), none]) dX4_cut_37 (Nat.le_of_ble_eq_true rfl) (Nat.le_of_ble_eq_true rfl) rfl rfl ?_
  refine zr_aload_n dX4_cut_38 rfl ?_
  refine zr_getI dX4_cut_39 lkX4_38 (by decide) (by decide) rfl (hL.Kl hl) ?_
  refine zr_as (y := (nI hi)) (zput_ms (by decide) hpk.2) ?_
  refine zr_istore_n (lv' := [some (.ref ((ad (32 + l)))), some (.ref ((ad 17))), some (.int (nI (hi - lo))), some (.int (nI hi))]) dX4_cut_42 (Nat.le_of_ble_eq_true rfl) (Nat.le_of_ble_eq_true rfl) rfl rfl ?_
  refine zr_asM (M' := zsetB (reM ad M g (rt ++ ids fs lo hi).length) (ad (35 + l)) (zB (reM ad M g (rt ++ ids fs lo hi).length) (ad (35 + l)))) (zsetB_self rfl).symm ?_
  exact l_Level_cut2 (M := (reM ad M g (rt ++ ids fs lo hi).length)) hcb hL9 hl (hV.re hL hl) ⟨zput_ms (by decide) hpk.1, zput_ms (by decide) hpk.2⟩ hlo hhi (fun g1 a1 a2 => ⟨rfl, g, g1, rfl, hg, fun x hx => (a1 x hx).trans (congrFun (zsetB_ms (M := M) (hL.ne (by omega)) rfl) x), fun x h1 h2 => (a2 x h1 h2).trans (congrFun (zsetB_ms (M := M) (hL.ne (by omega)) rfl) _)⟩) _ hi _ rfl (by omega) (by omega) (fun x hx => rfl) (fun x h1 h2 => by omega) (fun x hx => rfl)
theorem c_Level_cut {G : zG} {ad : Nat → Nat} {d l lo hi : Nat} {rt : List Nat} {fs : List zF} {M : zM} (hd : 1 ≤ d) (hcb : zC M ≤ 600128 ∧ zS M ≤ 7301098) (hL : Lay ad M) (hl : l < 3) (hV : Lv ad M l fs) (hR : Rt ad M rt) (hpk : Pk ad M l lo hi) (hlo : lo ≤ hi) (hhi : hi ≤ fs.length) (hsz : rt.length + (hi - lo) ≤ 256) : zMet G mX4_cut d [.ref ((ad (32 + l))), .ref ((ad 17))] M (fun o M' => o = .inl none ∧ Lv ad M' l (fs.take lo ++ fs.drop hi) ∧ Rt ad M' (rt ++ ids fs lo hi) ∧ Pk ad M' l lo lo ∧ (∀ l' fs', l' < 3 → l' ≠ l → Lv ad M l' fs' → Lv ad M' l' fs') ∧ Fr ad 0 (fun f i => f = 68 ∨ ((f = 131 ∨ f = 133) ∧ i = 32 + l)) (fun _ => False) (fun i => i = 21 ∨ i = 35 + l) M M') :=
  (c_Level_cut0 hd hcb hL hl hV hR hpk hlo hhi hsz).mono (fun o M' h => by
    obtain ⟨e0, g, g1, e1, h1, h2, h3⟩ := h
    subst e1
    have hL1 : Lay ad (reM ad M g (rt ++ ids fs lo hi).length) := Lay.setB hL (i := 21) g (by decide) (by decide) (by decide)
    have hV1 := hV.re (g := g) (n := (rt ++ ids fs lo hi).length) hL hl
    refine ⟨e0, ?_, ?_, ⟨zput_ms (f := 133) (by decide) (zput_ms (f := 131) (by decide) (zput_ms (M := zsetB M (ad 21) g) (f := 68) (a := ad 17) (v := nI (rt ++ ids fs lo hi).length) (by decide) hpk.1)), zput_hit _ _ _ _⟩, fun l' fs' hl' hn hV' => ((hV'.re hL hl').oth hL1 hl hl' hn).put (by decide), ?_⟩
    · rw [← cut_len hlo hhi]
      refine (Lv.mk (by rw [cut_len hlo hhi]; have := hV.2.1; omega) (fun i f hf => ?_) hV1.2.2.2).put (by decide)
      rcases cut_get hlo hhi hf with ⟨a, b⟩ | ⟨a, b⟩
      · exact ⟨(hV.2.2.1 i f b).1, (h2 i a).trans (hV.2.2.1 i f b).2.1, (hV1.2.2.1 i f b).2.2⟩
      · exact ⟨(hV.2.2.1 _ f b).1, (h3 i a (by have := (List.getElem?_eq_some_iff.mp b).1; omega)).trans (hV.2.2.1 _ f b).2.1, (hV1.2.2.1 _ f b).2.2⟩
    · refine ⟨zput_ms (by decide) (zput_ms (by decide) (zput_hit _ _ _ _)), by rw [List.length_append, ids_len hhi]; omega, fun i j hj => ⟨(h1 i j hj).1, ?_⟩⟩
      exact (congrFun (zsetB_ms (M := reM ad M g (rt ++ ids fs lo hi).length) (hL.ne (show 21 ≠ 35 + l by omega)) (zsetB_hit _ _ _)) i).trans (h1 i j hj).2
    · exact (((((Fr.refl ad M _ _ _).setB hL (i := 21) g (Or.inl rfl)).put hL (f := 68) (i := 17) _ (Or.inl rfl)).setB hL (i := 35 + l) g1 (Or.inr rfl) (by omega)).put hL (f := 131) (i := 32 + l) _ (Or.inr ⟨Or.inl rfl, rfl⟩) (by omega)).put hL (f := 133) (i := 32 + l) _ (Or.inr ⟨Or.inr rfl, rfl⟩) (by omega))
set_option maxRecDepth 100000 in
set_option maxHeartbeats 4000000 in
theorem l_Level_ins1 {G : zG} {ad : Nat → Nat} {d k0 n0 l lo : Nat} {fs ns : List zF} {M : zM} {Q : zOut → zM → Prop} (hcb : zC M ≤ 600128 ∧ zS M ≤ 7301098) (hL : Lay ad M) (hl : l < 3) (hV : Lv ad M l fs) (hns : ∀ (i : Nat) (f : zF), ns[i]? = some f → f.1 < 256 ∧ zB M (ad 29) i = some (ad (tA f.1)) ∧ Tb ad M f.1 f.2.1 (fE f).getLast?) (hlo : zI M 132 (ad (32 + l)) = nI lo) (hlf : lo ≤ fs.length) (hsz : fs.length + ns.length ≤ 256) (hk : ∀ g : Nat → Option Nat, (∀ x, x < lo → g x = zB M (ad (35 + l)) x) → (∀ x, lo ≤ x → x < fs.length → g (x + ns.length) = zB M (ad (35 + l)) x) → zw G mX4_insert d k0 n0 Q 58 [some (.ref ((ad (32 + l)))), some (.ref ((ad 29))), some (.int (nI ns.length)), none] [] (zsetB M (ad (35 + l)) g)) : ∀ (t : Nat) (g : Nat → Option Nat) (x : Option Nat), x = (if t = 0 then none else some (t - 1)) → lo ≤ t → t ≤ fs.length → (∀ x, x < t → g x = zB M (ad (35 + l)) x) → (∀ x, t ≤ x → x < fs.length → g (x + ns.length) = zB M (ad (35 + l)) x) → zw G mX4_insert d k0 n0 Q 30 [some (.ref ((ad (32 + l)))), some (.ref ((ad 29))), some (.int (nI ns.length)), some (.int (zvi x))] [] (zsetB M (ad (35 + l)) g) := by
  intro t
  induction t using Nat.strongRecOn with
  | _ t ih =>
    intro g x hx h1 h2 hg1 hg2
    obtain ⟨hv1, hv2, hv3, hv4⟩ := id hV
    rcases t with _ | t
    · rw [if_pos rfl] at hx
      subst hx
      refine zr_asL (lv' := [some (.ref ((ad (32 + l)))), some (.ref ((ad 29))), some (.int (nI ns.length)), some (.int ((-1)))]) rfl ?_
      refine zr_iload_n dX4_insert_30 rfl ?_
      refine zr_aload_n dX4_insert_31 rfl ?_
      refine zr_getI dX4_insert_32 lkX4_35 (by decide) (by decide) rfl (hL.Kl hl) ?_
      refine zr_as (y := (nI lo)) hlo ?_
      refine zr_icmp_lt 58 dX4_insert_35 (by decide) (fun h35 => ?_) (fun h35 => ?_)
      · refine zr_drop 3 rfl ?_
        exact hk g (fun x hx => hg1 x (by omega)) (fun x h1 h2 => hg2 x (by omega) h2)
      · exact absurd (m1_lt (by omega)) h35
    · rw [if_neg (by omega), Nat.add_sub_cancel] at hx
      subst hx
      refine zr_asL (lv' := [some (.ref ((ad (32 + l)))), some (.ref ((ad 29))), some (.int (nI ns.length)), some (.int (nI t))]) rfl ?_
      refine zr_iload_n dX4_insert_30 rfl ?_
      refine zr_aload_n dX4_insert_31 rfl ?_
      refine zr_getI dX4_insert_32 lkX4_35 (by decide) (by decide) rfl (hL.Kl hl) ?_
      refine zr_as (y := (nI lo)) hlo ?_
      refine zr_icmp_ltN 58 dX4_insert_35 (by decide) (by omega) (by omega) (fun h35 => ?_) (fun h35 => ?_)
      · refine zr_drop 3 rfl ?_
        exact hk g (fun x hx => hg1 x (by omega)) (fun x h1 h2 => hg2 x (by omega) h2)
      · obtain ⟨f, hf⟩ : ∃ f, fs[t]? = some f := ⟨_, List.getElem?_eq_getElem (by omega)⟩
        obtain ⟨hf1, hfB, hTb⟩ := hv3 _ f hf
        refine zr_aload_n dX4_insert_38 rfl ?_
        refine zr_getR dX4_insert_39 lkX4_11 (by decide) (by decide) rfl (hL.Kl hl) (hL.lt hl) ?_
        refine zr_iload_n dX4_insert_42 rfl ?_
        refine zr_iload_n dX4_insert_43 rfl ?_
        refine zr_iaddN dX4_insert_44 ?_
        refine zr_aload_n dX4_insert_45 rfl ?_
        refine zr_getR dX4_insert_46 lkX4_11 (by decide) (by decide) rfl (hL.Kl hl) (hL.lt hl) ?_
        refine zr_iload_n dX4_insert_49 rfl ?_
        refine zr_aaldK dX4_insert_50 (Or.inr (hL.Kla hl)) (hL.Nla hl) (by omega) (by omega) ((congrFun (zsetB_hit _ _ _) t).trans ((hg1 t (by omega)).trans hfB)) ?_
        refine zr_aastN dX4_insert_51 (Or.inr ⟨hL.Kla hl, hL.Kt (by omega)⟩) (hL.Nla hl) (by omega) (by omega) ?_
        rcases Nat.eq_zero_or_pos t with hz | hz
        · subst hz
          refine zr_iinc (w := (nI 0 + (-1))) (lv' := [some (.ref ((ad (32 + l)))), some (.ref ((ad 29))), some (.int (nI ns.length)), some (.int ((nI 0 + (-1))))]) dX4_insert_52 (Nat.le_of_ble_eq_true rfl) (Nat.le_of_ble_eq_true rfl) rfl rfl (by rw [show Int32.ofInt (-1) = (-1 : Int32) from by decide]) rfl ?_
          refine zr_goto 30 dX4_insert_55 (by decide) ?_
          refine zr_asL (lv' := [some (.ref ((ad (32 + l)))), some (.ref ((ad 29))), some (.int (nI ns.length)), some (.int (zvi none))]) rfl ?_
          rw [zsetB_setB, zsetB_hit]
          exact ih 0 (by omega) (va_up g (0 + ns.length) (some (ad (tA f.1)))) none (by rw [if_pos rfl]) (by omega) (by omega) (fun x hx => by rw [va_up_ne _ _ (by omega)]; exact hg1 x (by omega)) (fun x h1 h2 => (Nat.lt_or_ge 0 x).elim (fun z => by rw [va_up_ne _ _ (by omega)]; exact hg2 x (by omega) h2) (fun z => by rw [show x = 0 by omega, va_up_self]; exact hfB.symm))
        · refine zr_idecN (lv' := [some (.ref ((ad (32 + l)))), some (.ref ((ad 29))), some (.int (nI ns.length)), some (.int (nI (t - 1)))]) dX4_insert_52 (Nat.le_of_ble_eq_true rfl) (Nat.le_of_ble_eq_true rfl) rfl rfl (by omega) rfl ?_
          refine zr_goto 30 dX4_insert_55 (by decide) ?_
          refine zr_asL (lv' := [some (.ref ((ad (32 + l)))), some (.ref ((ad 29))), some (.int (nI ns.length)), some (.int (zvi (some (t - 1))))]) rfl ?_
          rw [zsetB_setB, zsetB_hit]
          exact ih t (by omega) (va_up g (t + ns.length) (some (ad (tA f.1)))) (some (t - 1)) (by rw [if_neg (by omega)]) (by omega) (by omega) (fun x hx => by rw [va_up_ne _ _ (by omega)]; exact hg1 x (by omega)) (fun x h1 h2 => (Nat.lt_or_ge t x).elim (fun z => by rw [va_up_ne _ _ (by omega)]; exact hg2 x (by omega) h2) (fun z => by rw [show x = t by omega, va_up_self]; exact hfB.symm))
set_option maxRecDepth 100000 in
set_option maxHeartbeats 4000000 in
theorem l_Level_ins2 {G : zG} {ad : Nat → Nat} {d k0 n0 l lo : Nat} {fs ns : List zF} {M : zM} {Q : zOut → zM → Prop} (hcb : zC M ≤ 600128 ∧ zS M ≤ 7301098) (hL : Lay ad M) (hl : l < 3) (hV : Lv ad M l fs) (hns : ∀ (i : Nat) (f : zF), ns[i]? = some f → f.1 < 256 ∧ zB M (ad 29) i = some (ad (tA f.1)) ∧ Tb ad M f.1 f.2.1 (fE f).getLast?) (hlo : zI M 132 (ad (32 + l)) = nI lo) (hlf : lo ≤ fs.length) (hsz : fs.length + ns.length ≤ 256) (hq0 : ∀ g : Nat → Option Nat, (∀ x, x < lo → g x = zB M (ad (35 + l)) x) → (∀ x, lo ≤ x → x < fs.length → g (x + ns.length) = zB M (ad (35 + l)) x) → (∀ x, x < ns.length → g (lo + x) = zB M (ad 29) x) → Q (.inl none) (lvM ad M l g (fs.length + ns.length))) : ∀ (m i : Nat) (g : Nat → Option Nat), ns.length - i = m → i ≤ ns.length → (∀ x, x < lo → g x = zB M (ad (35 + l)) x) → (∀ x, lo ≤ x → x < fs.length → g (x + ns.length) = zB M (ad (35 + l)) x) → (∀ x, x < i → g (lo + x) = zB M (ad 29) x) → zw G mX4_insert d k0 n0 Q 60 [some (.ref ((ad (32 + l)))), some (.ref ((ad 29))), some (.int (nI ns.length)), some (.int (nI i))] [] (zsetB M (ad (35 + l)) g) := by
  intro m
  induction m using Nat.strongRecOn with
  | _ m ih =>
    intro i g hm h1 hg1 hg2 hg3
    obtain ⟨hv1, hv2, hv3, hv4⟩ := id hV
    refine zr_iload_n dX4_insert_60 rfl ?_
    refine zr_iload_n dX4_insert_61 rfl ?_
    refine zr_icmp_geN 85 dX4_insert_62 (by decide) (by omega) (by omega) (fun h62 => ?_) (fun h62 => ?_)
    · refine zr_aload_n dX4_insert_85 rfl ?_
      refine zr_dup dX4_insert_86 rfl ?_
      refine zr_getI dX4_insert_87 lkX4_31 (by decide) (by decide) rfl (hL.Kl hl) ?_
      refine zr_as (y := (nI fs.length)) hv1 ?_
      refine zr_iload_n dX4_insert_90 rfl ?_
      refine zr_iaddN dX4_insert_91 ?_
      refine zr_putI dX4_insert_92 lkX4_31 (by decide) (by decide) rfl rfl (hL.Kl hl) ?_
      refine zr_vret dX4_insert_95 rfl ?_
      have e9 : i = ns.length := by omega
      subst e9
      exact hq0 g hg1 hg2 hg3
    · obtain ⟨f, hf⟩ : ∃ f, ns[i]? = some f := ⟨_, List.getElem?_eq_getElem (by omega)⟩
      obtain ⟨hf1, hfB, hTb⟩ := hns _ f hf
      refine zr_aload_n dX4_insert_65 rfl ?_
      refine zr_getR dX4_insert_66 lkX4_11 (by decide) (by decide) rfl (hL.Kl hl) (hL.lt hl) ?_
      refine zr_aload_n dX4_insert_69 rfl ?_
      refine zr_getI dX4_insert_70 lkX4_35 (by decide) (by decide) rfl (hL.Kl hl) ?_
      refine zr_as (y := (nI lo)) hlo ?_
      refine zr_iload_n dX4_insert_73 rfl ?_
      refine zr_iaddN dX4_insert_74 ?_
      refine zr_aload_n dX4_insert_75 rfl ?_
      refine zr_iload_n dX4_insert_76 rfl ?_
      refine zr_aaldK dX4_insert_77 (Or.inr (hL.K 29 19)) (hL.N 29 256) (by omega) (by omega) ((congrFun (zsetB_ms (M := M) (hL.ne (by omega)) rfl) i).trans hfB) ?_
      refine zr_aastN dX4_insert_78 (Or.inr ⟨hL.Kla hl, hL.Kt (by omega)⟩) (hL.Nla hl) (by omega) (by omega) ?_
      refine zr_iincN (n := 1) (lv' := [some (.ref ((ad (32 + l)))), some (.ref ((ad 29))), some (.int (nI ns.length)), some (.int (nI (i + 1)))]) dX4_insert_79 (Nat.le_of_ble_eq_true rfl) (Nat.le_of_ble_eq_true rfl) rfl rfl rfl ?_
      refine zr_goto 60 dX4_insert_82 (by decide) ?_
      rw [zsetB_setB, zsetB_hit]
      exact ih _ (by omega) (i + 1) _ rfl (by omega) (fun x hx => by rw [va_up_ne _ _ (by omega)]; exact hg1 x hx) (fun x h1 h2 => by rw [va_up_ne _ _ (by omega)]; exact hg2 x h1 h2) (fun x hx => (Nat.lt_or_ge x i).elim (fun z => by rw [va_up_ne _ _ (by omega)]; exact hg3 x z) (fun z => by rw [show x = i by omega, va_up_self]; exact hfB.symm))
set_option maxRecDepth 100000 in
set_option maxHeartbeats 4000000 in
theorem c_Level_insert0 {G : zG} {ad : Nat → Nat} {d l lo : Nat} {fs ns : List zF} {M : zM} (hcb : zC M ≤ 600128 ∧ zS M ≤ 7301098) (hL : Lay ad M) (hl : l < 3) (hV : Lv ad M l fs) (hns : ∀ (i : Nat) (f : zF), ns[i]? = some f → f.1 < 256 ∧ zB M (ad 29) i = some (ad (tA f.1)) ∧ Tb ad M f.1 f.2.1 (fE f).getLast?) (hlo : zI M 132 (ad (32 + l)) = nI lo) (hlf : lo ≤ fs.length) (hsz : fs.length + ns.length ≤ 256)  : zMet G mX4_insert d [.ref ((ad (32 + l))), .ref ((ad 29)), .int (nI ns.length)] M (fun o M' => o = .inl none ∧ ∃ g : Nat → Option Nat, M' = lvM ad M l g (fs.length + ns.length) ∧ (∀ x, x < lo → g x = zB M (ad (35 + l)) x) ∧ (∀ x, lo ≤ x → x < fs.length → g (x + ns.length) = zB M (ad (35 + l)) x) ∧ (∀ x, x < ns.length → g (lo + x) = zB M (ad 29) x)) := by
  refine zMet_of (by decide +kernel) (Nat.le_of_ble_eq_true rfl) rfl hcb ?_
  show zw G mX4_insert d _ _ _ 0 [some (.ref ((ad (32 + l)))), some (.ref ((ad 29))), some (.int (nI ns.length)), none] [] M
  obtain ⟨hv1, hv2, hv3, hv4⟩ := id hV
  have hnl : ns.length ≤ 256 := by omega
  refine zr_iload_n dX4_insert_0 rfl ?_
  refine zr_if_ltN 22 dX4_insert_1 (by decide) (by omega) ?_
  refine zr_iload_n dX4_insert_4 rfl ?_
  refine zr_aload_n dX4_insert_5 rfl ?_
  refine zr_alenN dX4_insert_6 (hL.K 29 19) (by decide) (hL.N 29 256) ?_
  refine zr_icmp_gtN 22 dX4_insert_7 (by decide) (by omega) (by omega) (fun h7 => ?_) (fun h7 => ?_)
  · exfalso; omega
  · refine zr_aload_n dX4_insert_10 rfl ?_
    refine zr_getI dX4_insert_11 lkX4_31 (by decide) (by decide) rfl (hL.Kl hl) ?_
    refine zr_as (y := (nI fs.length)) hv1 ?_
    refine zr_iload_n dX4_insert_14 rfl ?_
    refine zr_iaddN dX4_insert_15 ?_
    refine zr_sipush (v := nI 256) dX4_insert_16 (by decide) ?_
    refine zr_icmp_leN 23 dX4_insert_19 (by decide) (by omega) (by omega) (fun h19 => ?_) (fun h19 => ?_)
    · rcases Nat.eq_zero_or_pos fs.length with hz | hz
      · refine zr_aload_n dX4_insert_23 rfl ?_
        refine zr_getI dX4_insert_24 lkX4_31 (by decide) (by decide) rfl (hL.Kl hl) ?_
        refine zr_as (y := (nI fs.length)) hv1 ?_
        refine zr_iconst (v := nI 1) dX4_insert_27 (by decide) ?_
        refine zr_isub dX4_insert_28 ?_
        refine zr_as (y := -1) (by rw [hz]; decide) ?_
        refine zr_istore_n (lv' := [some (.ref ((ad (32 + l)))), some (.ref ((ad 29))), some (.int (nI ns.length)), some (.int ((-1)))]) dX4_insert_29 (Nat.le_of_ble_eq_true rfl) (Nat.le_of_ble_eq_true rfl) rfl rfl ?_
        refine zr_asL (lv' := [some (.ref ((ad (32 + l)))), some (.ref ((ad 29))), some (.int (nI ns.length)), some (.int (zvi none))]) rfl ?_
        refine zr_asM (M' := zsetB M (ad (35 + l)) (zB M (ad (35 + l)))) (zsetB_self rfl).symm ?_
        refine l_Level_ins1 hcb hL hl hV hns hlo hlf hsz (fun g hg1 hg2 => ?_) fs.length _ none (by rw [if_pos (by omega)]) (by omega) (by omega) (fun x hx => rfl) (fun x h1 h2 => by omega)
        refine zr_iconst (v := nI 0) dX4_insert_58 (by decide) ?_
        refine zr_istore_n (lv' := [some (.ref ((ad (32 + l)))), some (.ref ((ad 29))), some (.int (nI ns.length)), some (.int (nI 0))]) dX4_insert_59 (Nat.le_of_ble_eq_true rfl) (Nat.le_of_ble_eq_true rfl) rfl rfl ?_
        exact l_Level_ins2 hcb hL hl hV hns hlo hlf hsz (fun g a1 a2 a3 => ⟨rfl, g, rfl, a1, a2, a3⟩) _ 0 g rfl (by omega) hg1 hg2 (fun x hx => by omega)
      · refine zr_aload_n dX4_insert_23 rfl ?_
        refine zr_getI dX4_insert_24 lkX4_31 (by decide) (by decide) rfl (hL.Kl hl) ?_
        refine zr_as (y := (nI fs.length)) hv1 ?_
        refine zr_iconst (v := nI 1) dX4_insert_27 (by decide) ?_
        refine zr_isubN dX4_insert_28 (by omega) ?_
        refine zr_istore_n (lv' := [some (.ref ((ad (32 + l)))), some (.ref ((ad 29))), some (.int (nI ns.length)), some (.int (nI (fs.length - 1)))]) dX4_insert_29 (Nat.le_of_ble_eq_true rfl) (Nat.le_of_ble_eq_true rfl) rfl rfl ?_
        refine zr_asL (lv' := [some (.ref ((ad (32 + l)))), some (.ref ((ad 29))), some (.int (nI ns.length)), some (.int (zvi (some (fs.length - 1))))]) rfl ?_
        refine zr_asM (M' := zsetB M (ad (35 + l)) (zB M (ad (35 + l)))) (zsetB_self rfl).symm ?_
        refine l_Level_ins1 hcb hL hl hV hns hlo hlf hsz (fun g hg1 hg2 => ?_) fs.length _ (some (fs.length - 1)) (by rw [if_neg (by omega)]) (by omega) (by omega) (fun x hx => rfl) (fun x h1 h2 => by omega)
        refine zr_iconst (v := nI 0) dX4_insert_58 (by decide) ?_
        refine zr_istore_n (lv' := [some (.ref ((ad (32 + l)))), some (.ref ((ad 29))), some (.int (nI ns.length)), some (.int (nI 0))]) dX4_insert_59 (Nat.le_of_ble_eq_true rfl) (Nat.le_of_ble_eq_true rfl) rfl rfl ?_
        exact l_Level_ins2 hcb hL hl hV hns hlo hlf hsz (fun g a1 a2 a3 => ⟨rfl, g, rfl, a1, a2, a3⟩) _ 0 g rfl (by omega) hg1 hg2 (fun x hx => by omega)
    · exfalso; omega
theorem ins_get {fs ns : List zF} {lo x : Nat} {f : zF} (h2 : lo ≤ fs.length) (h : (fs.take lo ++ (ns ++ fs.drop lo))[x]? = some f) : (x < lo ∧ fs[x]? = some f) ∨ (lo ≤ x ∧ ns[x - lo]? = some f) ∨ (lo + ns.length ≤ x ∧ fs[x - ns.length]? = some f) := by
  have hl : (fs.take lo).length = lo := by rw [List.length_take]; omega
  rcases Nat.lt_or_ge x lo with e | e
  · rw [List.getElem?_append_left (by omega), List.getElem?_take_of_lt e] at h
    exact Or.inl ⟨e, h⟩
  · rw [List.getElem?_append_right (by omega), hl] at h
    rcases Nat.lt_or_ge (x - lo) ns.length with e1 | e1
    · rw [List.getElem?_append_left e1] at h
      exact Or.inr (Or.inl ⟨e, h⟩)
    · rw [List.getElem?_append_right e1, List.getElem?_drop, show lo + (x - lo - ns.length) = x - ns.length by omega] at h
      exact Or.inr (Or.inr ⟨by omega, h⟩)
theorem ins_len {fs ns : List zF} {lo : Nat} (h2 : lo ≤ fs.length) : (fs.take lo ++ (ns ++ fs.drop lo)).length = fs.length + ns.length := by
  rw [List.length_append, List.length_append, List.length_take, List.length_drop]; omega
theorem c_Level_insert {G : zG} {ad : Nat → Nat} {d l lo : Nat} {fs ns : List zF} {M : zM} (hcb : zC M ≤ 600128 ∧ zS M ≤ 7301098) (hL : Lay ad M) (hl : l < 3) (hV : Lv ad M l fs) (hns : ∀ (i : Nat) (f : zF), ns[i]? = some f → f.1 < 256 ∧ zB M (ad 29) i = some (ad (tA f.1)) ∧ Tb ad M f.1 f.2.1 (fE f).getLast?) (hlo : zI M 132 (ad (32 + l)) = nI lo) (hlf : lo ≤ fs.length) (hsz : fs.length + ns.length ≤ 256) : zMet G mX4_insert d [.ref ((ad (32 + l))), .ref ((ad 29)), .int (nI ns.length)] M (fun o M' => o = .inl none ∧ Lv ad M' l (fs.take lo ++ (ns ++ fs.drop lo)) ∧ (∀ l' fs', l' < 3 → l' ≠ l → Lv ad M l' fs' → Lv ad M' l' fs') ∧ Fr ad 0 (fun f i => f = 131 ∧ i = 32 + l) (fun _ => False) (fun i => i = 35 + l) M M') :=
  (c_Level_insert0 hcb hL hl hV hns hlo hlf hsz).mono (fun o M' h => by
    obtain ⟨e0, g, e1, h1, h2, h3⟩ := h
    subst e1
    refine ⟨e0, ?_, fun l' fs' hl' hn hV' => hV'.oth hL hl hl' hn, ?_⟩
    · rw [← ins_len hlf]
      refine Lv.mk (by rw [ins_len hlf]; exact hsz) (fun i f hf => ?_) hV.2.2.2
      rcases ins_get hlf hf with ⟨a, b⟩ | ⟨a, b⟩ | ⟨a, b⟩
      · exact ⟨(hV.2.2.1 i f b).1, (h1 i a).trans (hV.2.2.1 i f b).2.1, (hV.2.2.1 i f b).2.2⟩
      · refine ⟨(hns _ f b).1, ?_, (hns _ f b).2.2⟩
        have := h3 (i - lo) (List.getElem?_eq_some_iff.mp b).1
        rw [show lo + (i - lo) = i by omega] at this
        exact this.trans (hns _ f b).2.1
      · refine ⟨(hV.2.2.1 _ f b).1, ?_, (hV.2.2.1 _ f b).2.2⟩
        have := h2 (i - ns.length) (by omega) (List.getElem?_eq_some_iff.mp b).1
        rw [show i - ns.length + ns.length = i by omega] at this
        exact this.trans (hV.2.2.1 _ f b).2.1
    · exact Fr.put (F := fun f i => f = 131 ∧ i = 32 + l) (Fr.setB (B := fun i => i = 35 + l) (Fr.refl ad M _ _ _) hL (i := 35 + l) g rfl (by omega)) hL (f := 131) (i := 32 + l) _ ⟨rfl, rfl⟩ (by omega))
set_option maxRecDepth 100000 in
set_option maxHeartbeats 4000000 in
theorem c_Level_clear {G : zG} {ad : Nat → Nat} {d l : Nat} {M : zM} (hcb : zC M ≤ 600128 ∧ zS M ≤ 7301098) (hL : Lay ad M) (hl : l < 3)  : zMet G mX4_clear d [.ref ((ad (32 + l)))] M (fun o M' => o = .inl none ∧ M' = pkM ad (zput M 131 (ad (32 + l)) (nI 0)) l 0 0) := by
  refine zMet_of (by decide +kernel) (Nat.le_of_ble_eq_true rfl) rfl hcb ?_
  show zw G mX4_clear d _ _ _ 0 [some (.ref ((ad (32 + l))))] [] M
  refine zr_aload_n dX4_clear_0 rfl ?_
  refine zr_iconst (v := nI 0) dX4_clear_1 (by decide) ?_
  refine zr_putI dX4_clear_2 lkX4_31 (by decide) (by decide) rfl rfl (hL.Kl hl) ?_
  refine zr_aload_n dX4_clear_5 rfl ?_
  refine zr_iconst (v := nI 0) dX4_clear_6 (by decide) ?_
  refine zr_putI dX4_clear_7 lkX4_35 (by decide) (by decide) rfl rfl (hL.Kl hl) ?_
  refine zr_aload_n dX4_clear_10 rfl ?_
  refine zr_iconst (v := nI 0) dX4_clear_11 (by decide) ?_
  refine zr_putI dX4_clear_12 lkX4_38 (by decide) (by decide) rfl rfl (hL.Kl hl) ?_
  refine zr_vret dX4_clear_15 rfl ?_
  exact ⟨rfl, rfl⟩
set_option maxRecDepth 100000 in
set_option maxHeartbeats 4000000 in
theorem c_Level_add {G : zG} {ad : Nat → Nat} {d l j n : Nat} {M : zM} (hcb : zC M ≤ 600128 ∧ zS M ≤ 7301098) (hL : Lay ad M) (hl : l < 3) (hj : j < 256) (hv1 : zI M 131 (ad (32 + l)) = nI n) (hn : n < 256)  : zMet G mX4_add d [.ref ((ad (32 + l))), .ref ((ad (tA j)))] M (fun o M' => o = .inl none ∧ M' = lvM ad M l (va_up (zB M (ad (35 + l))) n (some (ad (tA j)))) (n + 1)) := by
  refine zMet_of (by decide +kernel) (Nat.le_of_ble_eq_true rfl) rfl hcb ?_
  show zw G mX4_add d _ _ _ 0 [some (.ref ((ad (32 + l)))), some (.ref ((ad (tA j))))] [] M
  refine zr_aload_n dX4_add_0 rfl ?_
  refine zr_getI dX4_add_1 lkX4_31 (by decide) (by decide) rfl (hL.Kl hl) ?_
  refine zr_as (y := (nI n)) hv1 ?_
  refine zr_sipush (v := nI 256) dX4_add_4 (by decide) ?_
  refine zr_icmp_geN 30 dX4_add_7 (by decide) (by omega) (by omega) (fun h7 => ?_) (fun h7 => ?_)
  · refine zr_vret dX4_add_30 rfl ?_
    first | (exfalso; omega) | exact ⟨rfl, rfl⟩
  · refine zr_aload_n dX4_add_10 rfl ?_
    refine zr_getR dX4_add_11 lkX4_11 (by decide) (by decide) rfl (hL.Kl hl) (hL.lt hl) ?_
    refine zr_aload_n dX4_add_14 rfl ?_
    refine zr_getI dX4_add_15 lkX4_31 (by decide) (by decide) rfl (hL.Kl hl) ?_
    refine zr_as (y := (nI n)) hv1 ?_
    refine zr_aload_n dX4_add_18 rfl ?_
    refine zr_aastN dX4_add_19 (Or.inr ⟨hL.Kla hl, hL.Kt (by omega)⟩) (hL.Nla hl) (by omega) (by omega) ?_
    refine zr_aload_n dX4_add_20 rfl ?_
    refine zr_dup dX4_add_21 rfl ?_
    refine zr_getI dX4_add_22 lkX4_31 (by decide) (by decide) rfl (hL.Kl hl) ?_
    refine zr_as (y := (nI n)) hv1 ?_
    refine zr_iconst (v := nI 1) dX4_add_25 (by decide) ?_
    refine zr_iaddN dX4_add_26 ?_
    refine zr_putI dX4_add_27 lkX4_31 (by decide) (by decide) rfl rfl (hL.Kl hl) ?_
    refine zr_vret dX4_add_30 rfl ?_
    first | (exfalso; omega) | exact ⟨rfl, rfl⟩
