/-! ===== LsmStoreModel (1) ===== -/
/-- the bytes of a map; of a batch -/
def eb (a : List Nat × List Nat) : List Nat := a.1.length :: (a.1 ++ (a.2.length :: a.2))
def Mb (m : Mp) : List Nat := (m.map eb).flatten
def sb (s : Sp) : List Nat := (if s.1 = 1 then 1 else 0) :: (s.2.1.length :: (s.2.1 ++ (s.2.2.length :: s.2.2)))
def Sb (ss : List Sp) : List Nat := (ss.map sb).flatten
def Sok (ss : List Sp) : Prop := ∀ s ∈ ss, (s.1 = 1 ∨ (s.1 = 2 ∧ s.2.2 = [])) ∧ s.2.1.length ≤ 32 ∧ s.2.2.length ≤ 200
theorem eb_len (a : List Nat × List Nat) : (eb a).length = 2 + a.1.length + a.2.length := by
  unfold eb
  rw [List.length_cons, List.length_append, List.length_cons]
  omega
theorem Mb_cons (a : List Nat × List Nat) (m : Mp) : Mb (a :: m) = eb a ++ Mb m := by unfold Mb; rw [List.map_cons, List.flatten_cons]
theorem Mb_app (m k : Mp) : Mb (m ++ k) = Mb m ++ Mb k := by unfold Mb; rw [List.map_append, List.flatten_append]
theorem sb_len (s : Sp) : (sb s).length = 3 + s.2.1.length + s.2.2.length := by
  unfold sb
  rw [List.length_cons, List.length_cons, List.length_append, List.length_cons]
  omega
theorem Sb_app (m k : List Sp) : Sb (m ++ k) = Sb m ++ Sb k := by unfold Sb; rw [List.map_append, List.flatten_append]
theorem Sb_cons (a : Sp) (m : List Sp) : Sb (a :: m) = sb a ++ Sb m := by unfold Sb; rw [List.map_cons, List.flatten_cons]
theorem Mb_le : ∀ {m : Mp}, (∀ a ∈ m, a.1.length ≤ 32 ∧ a.2.length ≤ 200) → (Mb m).length ≤ 234 * m.length
  | [], _ => Nat.le_refl _
  | a :: m, h => by
    have h1 := Mb_le (fun x hx => h x (List.mem_cons_of_mem _ hx))
    have h2 := h a List.mem_cons_self
    rw [Mb_cons, List.length_append, eb_len, List.length_cons]
    omega
theorem Mw.mb {n : Nat} {m : Mp} (h : Mw n m) (hn : n ≤ 64) : (Mb m).length ≤ 14976 := by
  have h1 := Mb_le (fun a ha => ⟨(h.2.2 a ha).2.1, (h.2.2 a ha).2.2.1⟩)
  have h2 := h.2.1
  omega
theorem Sb_le : ∀ {ss : List Sp}, Sok ss → (Sb ss).length ≤ 235 * ss.length
  | [], _ => Nat.le_refl _
  | a :: m, h => by
    have h1 := Sb_le (fun x hx => h x (List.mem_cons_of_mem _ hx))
    have h2 := h a List.mem_cons_self
    rw [Sb_cons, List.length_append, sb_len, List.length_cons]
    omega
def TaK (ad : Nat → Nat) (M : zM) (L : List Nat) : Prop := zI M 386 (ad 38) = nI L.length ∧ Rc (zA M (ad 39)) L ∧ L.length ≤ 32
def TaV (ad : Nat → Nat) (M : zM) (L : List Nat) : Prop := zI M 387 (ad 38) = nI L.length ∧ Rc (zA M (ad 40)) L ∧ L.length ≤ 200
def TaM (ad : Nat → Nat) (M : zM) (m : Mp) : Prop := zI M 391 (ad 38) = nI (Mb m).length ∧ Rc (zA M (ad 41)) (Mb m) ∧ Mw 64 m
def TaS (ad : Nat → Nat) (M : zM) (sv : Nat → Option Mp) : Prop := zI M 394 (ad 38) = nI (svb sv 8) ∧ ∀ (i : Nat) (ms : Mp), i < 8 → sv i = some ms → Mw 64 ms ∧ zA M (ad 44) i = nI (Mb ms).length ∧ Rc (fun j => zA M (ad 43) (i * 16400 + j)) (Mb ms)
def TaB (ad : Nat → Nat) (M : zM) (o : Nat) (ss : List Sp) : Prop := zI M 398 (ad 38) = nI o ∧ o ≤ 1 ∧ zI M 397 (ad 38) = nI ss.length ∧ zI M 396 (ad 38) = nI (Sb ss).length ∧ Rc (zA M (ad 45)) (Sb ss) ∧ Sok ss ∧ ss.length ≤ 64
def TaX (ad : Nat → Nat) (M : zM) (f c w : Nat) : Prop := zI M 399 (ad 38) = nI f ∧ f ≤ 1 ∧ zI M 400 (ad 38) = nI c ∧ zI M 401 (ad 38) = nI w ∧ w ≤ 3
/-- the model holds a state -/
def Ta (ad : Nat → Nat) (M : zM) (A : As) : Prop := Lay ad M ∧ TaK ad M (aK A) ∧ TaV ad M (aV A) ∧ TaM ad M (aM A) ∧ TaS ad M (aN A) ∧ TaB ad M (aO A) (aS A) ∧ TaX ad M (aF A) (aC A) (aW A)
section TA
variable {ad : Nat → Nat} {c : Nat} {LF LA LB : List Nat} {M M1 : zM}
theorem TaK.fl {L : List Nat} (h : TaK ad M L) (hF : Fl ad c LF LA LB M M1) (h1 : 386 ∉ LF := by decide) (h2 : 39 ∉ LA := by decide) : TaK ad M1 L := ⟨(hF.rI h1 (by decide)).trans h.1, by rw [hF.rA (i := 39) h2 (by decide)]; exact h.2.1, h.2.2⟩
theorem TaV.fl {L : List Nat} (h : TaV ad M L) (hF : Fl ad c LF LA LB M M1) (h1 : 387 ∉ LF := by decide) (h2 : 40 ∉ LA := by decide) : TaV ad M1 L := ⟨(hF.rI h1 (by decide)).trans h.1, by rw [hF.rA (i := 40) h2 (by decide)]; exact h.2.1, h.2.2⟩
theorem TaM.fl {m : Mp} (h : TaM ad M m) (hF : Fl ad c LF LA LB M M1) (h1 : 391 ∉ LF := by decide) (h2 : 41 ∉ LA := by decide) : TaM ad M1 m := ⟨(hF.rI h1 (by decide)).trans h.1, by rw [hF.rA (i := 41) h2 (by decide)]; exact h.2.1, h.2.2⟩
theorem TaS.fl {sv : Nat → Option Mp} (h : TaS ad M sv) (hF : Fl ad c LF LA LB M M1) (h1 : 394 ∉ LF := by decide) (h2 : 43 ∉ LA ∧ 44 ∉ LA := by decide) : TaS ad M1 sv := ⟨(hF.rI h1 (by decide)).trans h.1, fun i ms hi hs => by rw [hF.rA (i := 43) h2.1 (by decide), hF.rA (i := 44) h2.2 (by decide)]; exact h.2 i ms hi hs⟩
theorem TaB.fl {o : Nat} {ss : List Sp} (h : TaB ad M o ss) (hF : Fl ad c LF LA LB M M1) (h1 : 398 ∉ LF ∧ 397 ∉ LF ∧ 396 ∉ LF := by decide) (h2 : 45 ∉ LA := by decide) : TaB ad M1 o ss := ⟨(hF.rI h1.1 (by decide)).trans h.1, h.2.1, (hF.rI h1.2.1 (by decide)).trans h.2.2.1, (hF.rI h1.2.2 (by decide)).trans h.2.2.2.1, by rw [hF.rA (i := 45) h2 (by decide)]; exact h.2.2.2.2.1, h.2.2.2.2.2⟩
theorem TaX.fl {f k w : Nat} (h : TaX ad M f k w) (hF : Fl ad c LF LA LB M M1) (h1 : 399 ∉ LF ∧ 400 ∉ LF ∧ 401 ∉ LF := by decide) : TaX ad M1 f k w := ⟨(hF.rI h1.1 (by decide)).trans h.1, h.2.1, (hF.rI h1.2.1 (by decide)).trans h.2.2.1, (hF.rI h1.2.2 (by decide)).trans h.2.2.2.1, h.2.2.2.2⟩
theorem Ta.fk {A : As} (h : Ta ad M A) (hF : Fk ad c M M1) : Ta ad M1 A := by
  have eI : ∀ f, 384 ≤ f → zI M1 f (ad 38) = zI M f (ad 38) := fun f hf => hF.1 f 38 (by decide) (fun z => by omega)
  have eA : ∀ i, 38 ≤ i → i < 64 → zA M1 (ad i) = zA M (ad i) := fun i h1 h2 => hF.2.1 i (by omega) (fun z => by omega)
  obtain ⟨hL, tK, tV, tM, tS, tB, tX⟩ := h
  refine ⟨hF.lay hL, ?_, ?_, ?_, ?_, ?_, ?_⟩
  · unfold TaK; rw [eI 386 (by decide), eA 39 (by decide) (by decide)]; exact tK
  · unfold TaV; rw [eI 387 (by decide), eA 40 (by decide) (by decide)]; exact tV
  · unfold TaM; rw [eI 391 (by decide), eA 41 (by decide) (by decide)]; exact tM
  · unfold TaS; rw [eI 394 (by decide), eA 43 (by decide) (by decide), eA 44 (by decide) (by decide)]; exact tS
  · unfold TaB; rw [eI 396 (by decide), eI 397 (by decide), eI 398 (by decide), eA 45 (by decide) (by decide)]; exact tB
  · unfold TaX; rw [eI 399 (by decide), eI 400 (by decide), eI 401 (by decide)]; exact tX
end TA
/-- fields and rows of the model -/
abbrev LM : List Nat := [386, 387, 391, 392, 394, 396, 397, 398, 399, 400, 401, 402]
abbrev LMA : List Nat := [39, 40, 41, 42, 43, 44, 45]
/-- the number that the model gives for what is thrown -/
def tc (cd : Nat → Nat) (r : zOut) : Nat := match r with
  | .inl _ => 0
  | .inr k => cd k
def ro (df : Option Value) (r : zOut) : Option Value := match r with
  | .inl v => v
  | .inr _ => df
def Mst (ad : Nat → Nat) (M : zM) (r : As × zOut) (cd : Nat → Nat) (df : Option Value) (o : zOut) (M' : zM) : Prop := Ta ad M' r.1 ∧ Fl ad 0 LM LMA [] M M' ∧ zI M' 402 (ad 38) = nI (tc cd r.2) ∧ o = .inl (ro df r.2)
def cd1 (_ : Nat) : Nat := 1
def cdP (k : Nat) : Nat := if k = 0 then 1 else if k = 1 then 2 else 3
def cdW (k : Nat) : Nat := if k = 0 then 1 else 2
theorem Ta.bd {ad : Nat → Nat} {M : zM} {A : As} (h : Ta ad M A) : aF A ≤ 1 ∧ aO A ≤ 1 ∧ aW A ≤ 3 ∧ (aS A).length ≤ 64 ∧ (aK A).length ≤ 32 ∧ (aV A).length ≤ 200 ∧ (Mb (aM A)).length ≤ 14976 ∧ (Sb (aS A)).length ≤ 15040 := by
  obtain ⟨hL, tK, tV, tM, tS, tB, tX⟩ := h
  have h1 := Sb_le tB.2.2.2.2.2.1
  have h2 := tB.2.2.2.2.2.2
  exact ⟨tX.2.1, tB.2.1, tX.2.2.2.2, h2, tK.2.2, tV.2.2, tM.2.2.mb (Nat.le_refl _), by omega⟩
theorem TaB.nil {ad : Nat → Nat} {M : zM} {o : Nat} (h1 : zI M 398 (ad 38) = nI o) (h2 : o ≤ 1) (h3 : zI M 397 (ad 38) = nI 0) (h4 : zI M 396 (ad 38) = nI 0) : TaB ad M o [] := ⟨h1, h2, h3, h4, Rc.nil _, fun s hs => (by cases hs), by decide⟩
theorem svb_none {sv : Nat → Option Mp} (h : ∀ i, sv i = none) : ∀ k, svb sv k = 0
  | 0 => rfl
  | k + 1 => by show svb sv k + _ = 0; rw [svb_none h k, h k]; rfl
theorem TaS.nil {ad : Nat → Nat} {M : zM} (h : zI M 394 (ad 38) = nI 0) : TaS ad M (fun _ => none) := ⟨by rw [svb_none (fun _ => rfl)]; exact h, fun i ms _ z => by cases z⟩
theorem svb_lt (sv : Nat → Option Mp) : ∀ k, svb sv k < 2 ^ k
  | 0 => Nat.zero_lt_one
  | k + 1 => by
    have h := svb_lt sv k
    show svb sv k + _ < 2 ^ (k + 1)
    have e : 2 ^ (k + 1) = 2 ^ k + 2 ^ k := by rw [Nat.pow_succ]; omega
    split <;> omega
theorem svb_bit (sv : Nat → Option Mp) : ∀ {k i : Nat}, i < k → (svb sv k / 2 ^ i % 2 = 1 ↔ sv i ≠ none)
  | 0, i, h => by omega
  | k + 1, i, h => by
    show ((svb sv k + (if (sv k).isNone then 0 else 2 ^ k)) / 2 ^ i % 2 = 1 ↔ _)
    rcases Nat.lt_or_ge i k with e | e
    · have h1 := svb_bit sv e
      have h2 : (svb sv k + (if (sv k).isNone then 0 else 2 ^ k)) / 2 ^ i % 2 = svb sv k / 2 ^ i % 2 := by
        split
        · rfl
        · have e1 : 2 ^ k = 2 ^ i * (2 * 2 ^ (k - i - 1)) := by
            rw [show 2 * 2 ^ (k - i - 1) = 2 ^ (k - i) from by rw [← Nat.pow_succ', show (k - i - 1).succ = k - i by omega], ← Nat.pow_add, show i + (k - i) = k by omega]
          rw [e1, Nat.add_mul_div_left _ _ (Nat.two_pow_pos i), Nat.add_mul_mod_self_left]
      rw [h2]
      exact h1
    · have h3 : i = k := by omega
      subst h3
      have h4 := svb_lt sv i
      by_cases hn : sv i = none
      · rw [if_pos (by rw [hn]; rfl), Nat.add_zero, Nat.div_eq_of_lt h4]
        exact ⟨fun z => (by cases z), fun z => absurd hn z⟩
      · rw [if_neg (fun z => hn (Option.isNone_iff_eq_none.mp z)), Nat.add_div_right _ (Nat.two_pow_pos i), Nat.div_eq_of_lt h4]
        exact ⟨fun _ => hn, fun _ => rfl⟩
theorem bit_rd : ∀ (s : Fin 256) (i : Fin 8), (nI s.1 >>> (nI i.1 &&& 31)) &&& nI 1 = nI (s.1 / 2 ^ i.1 % 2) := by decide +kernel
theorem bit_set : ∀ (s : Fin 256) (i : Fin 8), s.1 / 2 ^ i.1 % 2 = 0 → nI s.1 ||| (nI 1 <<< (nI i.1 &&& 31)) = nI (s.1 + 2 ^ i.1) := by decide +kernel
theorem bit_clr : ∀ (s : Fin 256) (i : Fin 8), s.1 / 2 ^ i.1 % 2 = 1 → nI s.1 &&& ((nI 1 <<< (nI i.1 &&& 31)) ^^^ (-1)) = nI (s.1 - 2 ^ i.1) := by decide +kernel
theorem svb_set (sv : Nat → Option Mp) (m : Mp) : ∀ {k i : Nat}, i < k → sv i = none → svb (fun j => if j = i then some m else sv j) k = svb sv k + 2 ^ i
  | 0, i, h, _ => by omega
  | k + 1, i, h, hs => by
    show svb _ k + (if ((if k = i then some m else sv k) : Option Mp).isNone then 0 else 2 ^ k) = svb sv k + (if (sv k).isNone then 0 else 2 ^ k) + 2 ^ i
    rcases Nat.lt_or_ge i k with e | e
    · rw [svb_set sv m e hs, if_neg (show ¬ k = i by omega)]; omega
    · have h3 : i = k := by omega
      subst h3
      have h4 : ∀ n, n ≤ i → svb (fun j => if j = i then some m else sv j) n = svb sv n := by
        intro n
        induction n with
        | zero => intro _; rfl
        | succ n ih =>
          intro hn
          show svb _ n + (if ((if n = i then some m else sv n) : Option Mp).isNone then 0 else 2 ^ n) = svb sv n + (if (sv n).isNone then 0 else 2 ^ n)
          rw [ih (by omega), if_neg (show ¬ n = i by omega)]
      rw [h4 i (Nat.le_refl _), if_pos rfl, hs]
      simp
theorem svb_clr (sv : Nat → Option Mp) : ∀ {k i : Nat}, i < k → sv i ≠ none → svb (fun j => if j = i then none else sv j) k + 2 ^ i = svb sv k
  | 0, i, h, _ => by omega
  | k + 1, i, h, hs => by
    show svb _ k + (if ((if k = i then none else sv k) : Option Mp).isNone then 0 else 2 ^ k) + 2 ^ i = svb sv k + (if (sv k).isNone then 0 else 2 ^ k)
    rcases Nat.lt_or_ge i k with e | e
    · have := svb_clr sv e hs
      rw [if_neg (show ¬ k = i by omega)]; omega
    · have h3 : i = k := by omega
      subst h3
      have h4 : ∀ n, n ≤ i → svb (fun j => if j = i then none else sv j) n = svb sv n := by
        intro n
        induction n with
        | zero => intro _; rfl
        | succ n ih =>
          intro hn
          show svb _ n + (if ((if n = i then none else sv n) : Option Mp).isNone then 0 else 2 ^ n) = svb sv n + (if (sv n).isNone then 0 else 2 ^ n)
          rw [ih (by omega), if_neg (show ¬ n = i by omega)]
      rw [h4 i (Nat.le_refl _), if_pos rfl, if_neg (fun z => hs (Option.isNone_iff_eq_none.mp z))]
      simp
set_option maxRecDepth 100000 in
set_option maxHeartbeats 4000000 in
theorem c_thrown {G : zG} {ad : Nat → Nat} {d t : Nat} {M : zM} (hcb : zC M ≤ 600128 ∧ zS M ≤ 7301098) (hL : Lay ad M) (ht : zI M 402 (ad 38) = nI t)  : zMet G mX12_thrown d [.ref ((ad 38))] M (fun o M' => o = .inl (some (.int (nI t))) ∧ M' = M) := by
  refine zMet_of (by decide +kernel) (Nat.le_of_ble_eq_true rfl) rfl hcb ?_
  show zw G mX12_thrown d _ _ _ 0 [some (.ref ((ad 38)))] [] M
  refine zr_aload_n dX12_thrown_0 rfl ?_
  refine zr_getI dX12_thrown_1 lkX12_38 (by decide) (by decide) rfl (hL.K 38 13) ?_
  refine zr_as (y := (nI t)) ht ?_
  refine zr_iret dX12_thrown_4 rfl ?_
  exact ⟨rfl, rfl⟩
set_option maxRecDepth 100000 in
set_option maxHeartbeats 4000000 in
theorem c_lost {G : zG} {ad : Nat → Nat} {d : Nat} {M : zM} (hcb : zC M ≤ 600128 ∧ zS M ≤ 7301098) (hL : Lay ad M)  : zMet G mX12_lost d [.ref ((ad 38))] M (fun o M' => o = .inl none ∧ M' = zput (zput (zput (zput M 398 (ad 38) (nI 0)) 397 (ad 38) (nI 0)) 396 (ad 38) (nI 0)) 394 (ad 38) (nI 0)) := by
  refine zMet_of (by decide +kernel) (Nat.le_of_ble_eq_true rfl) rfl hcb ?_
  show zw G mX12_lost d _ _ _ 0 [some (.ref ((ad 38)))] [] M
  refine zr_aload_n dX12_lost_0 rfl ?_
  refine zr_iconst (v := nI 0) dX12_lost_1 (by decide) ?_
  refine zr_putZ dX12_lost_2 lkX12_82 (by decide) (by decide) rfl rfl (Or.inl rfl) (hL.K 38 13) ?_
  refine zr_aload_n dX12_lost_5 rfl ?_
  refine zr_iconst (v := nI 0) dX12_lost_6 (by decide) ?_
  refine zr_putI dX12_lost_7 lkX12_85 (by decide) (by decide) rfl rfl (hL.K 38 13) ?_
  refine zr_aload_n dX12_lost_10 rfl ?_
  refine zr_iconst (v := nI 0) dX12_lost_11 (by decide) ?_
  refine zr_putI dX12_lost_12 lkX12_88 (by decide) (by decide) rfl rfl (hL.K 38 13) ?_
  refine zr_aload_n dX12_lost_15 rfl ?_
  refine zr_iconst (v := nI 0) dX12_lost_16 (by decide) ?_
  refine zr_putI dX12_lost_17 lkX12_91 (by decide) (by decide) rfl rfl (hL.K 38 13) ?_
  refine zr_vret dX12_lost_20 rfl ?_
  exact ⟨rfl, rfl⟩
set_option maxRecDepth 100000 in
set_option maxHeartbeats 4000000 in
theorem c_fall {G : zG} {ad : Nat → Nat} {d : Nat} {M : zM} (hd : 1 ≤ d) (hcb : zC M ≤ 600128 ∧ zS M ≤ 7301098) (hL : Lay ad M)  : zMet G mX12_fall d [.ref ((ad 38))] M (fun o M' => o = .inl none ∧ M' = zput (zput (zput (zput (zput (zput M 399 (ad 38) (nI 1)) 401 (ad 38) (nI 3)) 398 (ad 38) (nI 0)) 397 (ad 38) (nI 0)) 396 (ad 38) (nI 0)) 394 (ad 38) (nI 0)) := by
  refine zMet_of (by decide +kernel) (Nat.le_of_ble_eq_true rfl) rfl hcb ?_
  show zw G mX12_fall d _ _ _ 0 [some (.ref ((ad 38)))] [] M
  refine zr_aload_n dX12_fall_0 rfl ?_
  refine zr_iconst (v := nI 1) dX12_fall_1 (by decide) ?_
  refine zr_putZ dX12_fall_2 lkX12_75 (by decide) (by decide) rfl rfl (Or.inr rfl) (hL.K 38 13) ?_
  refine zr_aload_n dX12_fall_5 rfl ?_
  refine zr_iconst (v := nI 3) dX12_fall_6 (by decide) ?_
  refine zr_putI dX12_fall_7 lkX12_34 (by decide) (by decide) rfl rfl (hL.K 38 13) ?_
  refine zr_aload_n dX12_fall_10 rfl ?_
  refine zr_callV (md' := mX12_lost) (As := []) dX12_fall_11 mlX12_79 okX12_lost rfl inX12_lost slX12_lost (by decide) (hL.K 38 13) rfl (by omega) (Nat.le_of_ble_eq_true rfl) hcb (c_lost (d := d - 1) hcb hL) (fun k M1 h => by cases h.1) (fun v M1 hq => ?_)
  obtain ⟨e0, e1⟩ := hq
  cases e0
  refine zr_vret dX12_fall_14 rfl ?_
  exact ⟨rfl, e1⟩
theorem fall_ta {ad : Nat → Nat} {M M1 : zM} {A : As} (hT : Ta ad M A) (e : M1 = zput (zput (zput (zput (zput (zput M 399 (ad 38) (nI 1)) 401 (ad 38) (nI 3)) 398 (ad 38) (nI 0)) 397 (ad 38) (nI 0)) 396 (ad 38) (nI 0)) 394 (ad 38) (nI 0)) : Ta ad M1 (fell A) ∧ Fl ad 0 [394, 396, 397, 398, 399, 401] [] [] M M1 := by
  obtain ⟨hL, tK, tV, tM, tS, tB, tX⟩ := id hT
  have hF : Fl ad 0 [394, 396, 397, 398, 399, 401] [] [] M M1 := by rw [e]; exact ((((((Fl.refl ad _ _ _ M).put hL (f := 399) (i := 38)).put hL (f := 401) (i := 38)).put hL (f := 398) (i := 38)).put hL (f := 397) (i := 38)).put hL (f := 396) (i := 38)).put hL (f := 394) (i := 38)
  refine ⟨⟨hF.lay hL, tK.fl hF, tV.fl hF, tM.fl hF, TaS.nil ?_, TaB.nil ?_ (Nat.le_of_ble_eq_true rfl) ?_ ?_, ?_, (Nat.le_of_ble_eq_true rfl), (hF.rI (by decide) (by decide)).trans tX.2.2.1, ?_, (Nat.le_of_ble_eq_true rfl)⟩, hF⟩
  · rw [e]; exact zput_hit _ _ _ _
  · rw [e]; exact zput_ms (f := 394) (by decide) (zput_ms (f := 396) (by decide) (zput_ms (f := 397) (by decide) (zput_hit _ _ _ _)))
  · rw [e]; exact zput_ms (f := 394) (by decide) (zput_ms (f := 396) (by decide) (zput_hit _ _ _ _))
  · rw [e]; exact zput_ms (f := 394) (by decide) (zput_hit _ _ _ _)
  · rw [e]; exact zput_ms (f := 394) (by decide) (zput_ms (f := 396) (by decide) (zput_ms (f := 397) (by decide) (zput_ms (f := 398) (by decide) (zput_ms (f := 401) (by decide) (zput_hit _ _ _ _)))))
  · rw [e]; exact zput_ms (f := 394) (by decide) (zput_ms (f := 396) (by decide) (zput_ms (f := 397) (by decide) (zput_ms (f := 398) (by decide) (zput_hit _ _ _ _))))
theorem Ta.t402 {ad : Nat → Nat} {M : zM} {A : As} {x : Int32} (hT : Ta ad M A) : Ta ad (zput M 402 (ad 38) x) A := by
  obtain ⟨hL, tK, tV, tM, tS, tB, tX⟩ := id hT
  have hF : Fl ad 0 [402] [] [] M (zput M 402 (ad 38) x) := (Fl.refl ad _ _ _ M).put hL (f := 402) (i := 38)
  exact ⟨hF.lay hL, tK.fl hF, tV.fl hF, tM.fl hF, tS.fl hF, tB.fl hF, tX.fl hF⟩
set_option maxRecDepth 100000 in
set_option maxHeartbeats 4000000 in
theorem b_begin {G : zG} {ad : Nat → Nat} {d : Nat} {A : As} {M : zM} (hd : 2 ≤ d) (hcb : zC M ≤ 600128 ∧ zS M ≤ 7301098) (hT : Ta ad M A)  : zMet G mX12_begin d [.ref ((ad 38))] M (Mst ad M (sBegin A) cd1 (none)) := by
  obtain ⟨hL, tK, tV, tM, tS, tB, tX⟩ := id hT
  have hbd := hT.bd
  refine zMet_of (by decide +kernel) (Nat.le_of_ble_eq_true rfl) rfl hcb ?_
  show zw G mX12_begin d _ _ _ 0 [some (.ref ((ad 38)))] [] M
  refine zr_aload_n dX12_begin_0 rfl ?_
  refine zr_aload_n dX12_begin_1 rfl ?_
  refine zr_getI dX12_begin_2 lkX12_75 (by decide) (by decide) rfl (hL.K 38 13) ?_
  refine zr_as (y := (nI (aF A))) tX.1 ?_
  refine zr_if_neN 15 dX12_begin_5 (by decide) (by omega) (fun h5 => ?_) (fun h5 => ?_)
  · refine zr_iconst (v := nI 1) dX12_begin_15 (by decide) ?_
    refine zr_goto 20 dX12_begin_16 (by decide) ?_
    refine zr_putI dX12_begin_20 lkX12_38 (by decide) (by decide) rfl rfl (hL.K 38 13) ?_
    refine zr_aload_n dX12_begin_23 rfl ?_
    refine zr_getI dX12_begin_24 lkX12_38 (by decide) (by decide) rfl (hL.K 38 13) ?_
    refine zr_as (y := (nI 1)) (zput_hit _ _ _ _) ?_
    refine zr_if_leN 31 dX12_begin_27 (by decide) (by decide) (fun h27 => absurd h27 (by decide)) (fun h27 => ?_)
    refine zr_vret dX12_begin_30 rfl ?_
    obtain ⟨M9, e9⟩ : ∃ z, z = (zput M 402 (ad 38) (nI 1)) := ⟨_, rfl⟩
    rw [← e9]
    have hF9 : Fl ad 0 [402] [] [] M M9 := by rw [e9]; exact ((Fl.refl ad _ _ _ M).put hL (f := 402) (i := 38))
    have g9_402 : zI M9 402 (ad 38) = (nI 1) := by rw [e9]; exact zput_hit _ _ _ _
    have e8 : sBegin A = (A, .inr 0) := by exact if_pos (by omega)
    rw [e8]
    exact ⟨⟨hF9.lay hL, tK.fl hF9, tV.fl hF9, tM.fl hF9, tS.fl hF9, tB.fl hF9, tX.fl hF9⟩, hF9.mono, g9_402, rfl⟩
  · refine zr_aload_n dX12_begin_8 rfl ?_
    refine zr_getI dX12_begin_9 lkX12_82 (by decide) (by decide) rfl (hL.K 38 13) ?_
    refine zr_as (y := (nI (aO A))) tB.1 ?_
    refine zr_if_eqN 19 dX12_begin_12 (by decide) (by omega) (fun h12 => ?_) (fun h12 => ?_)
    · refine zr_iconst (v := nI 0) dX12_begin_19 (by decide) ?_
      refine zr_putI dX12_begin_20 lkX12_38 (by decide) (by decide) rfl rfl (hL.K 38 13) ?_
      refine zr_aload_n dX12_begin_23 rfl ?_
      refine zr_getI dX12_begin_24 lkX12_38 (by decide) (by decide) rfl (hL.K 38 13) ?_
      refine zr_as (y := (nI 0)) (zput_hit _ _ _ _) ?_
      refine zr_if_leN 31 dX12_begin_27 (by decide) (by decide) (fun h27 => ?_) (fun h27 => absurd h27 (by decide))
      refine zr_aload_n dX12_begin_31 rfl ?_
      refine zr_iconst (v := nI 1) dX12_begin_32 (by decide) ?_
      refine zr_putZ dX12_begin_33 lkX12_82 (by decide) (by decide) rfl rfl (Or.inr rfl) (hL.K 38 13) ?_
      refine zr_aload_n dX12_begin_36 rfl ?_
      refine zr_iconst (v := nI 0) dX12_begin_37 (by decide) ?_
      refine zr_putI dX12_begin_38 lkX12_85 (by decide) (by decide) rfl rfl (hL.K 38 13) ?_
      refine zr_aload_n dX12_begin_41 rfl ?_
      refine zr_iconst (v := nI 0) dX12_begin_42 (by decide) ?_
      refine zr_putI dX12_begin_43 lkX12_88 (by decide) (by decide) rfl rfl (hL.K 38 13) ?_
      refine zr_vret dX12_begin_46 rfl ?_
      obtain ⟨M9, e9⟩ : ∃ z, z = (zput (zput (zput (zput M 402 (ad 38) (nI 0)) 398 (ad 38) (nI 1)) 397 (ad 38) (nI 0)) 396 (ad 38) (nI 0)) := ⟨_, rfl⟩
      rw [← e9]
      have hF9 : Fl ad 0 [396, 397, 398, 402] [] [] M M9 := by rw [e9]; exact (((((Fl.refl ad _ _ _ M).put hL (f := 402) (i := 38)).put hL (f := 398) (i := 38)).put hL (f := 397) (i := 38)).put hL (f := 396) (i := 38))
      have g9_396 : zI M9 396 (ad 38) = (nI 0) := by rw [e9]; exact zput_hit _ _ _ _
      have g9_397 : zI M9 397 (ad 38) = (nI 0) := by rw [e9]; exact (zput_ms (f := 396) (by decide) (zput_hit _ _ _ _))
      have g9_398 : zI M9 398 (ad 38) = (nI 1) := by rw [e9]; exact (zput_ms (f := 396) (by decide) (zput_ms (f := 397) (by decide) (zput_hit _ _ _ _)))
      have g9_402 : zI M9 402 (ad 38) = (nI 0) := by rw [e9]; exact (zput_ms (f := 396) (by decide) (zput_ms (f := 397) (by decide) (zput_ms (f := 398) (by decide) (zput_hit _ _ _ _))))
      have e8 : sBegin A = ((aM A, aK A, aV A, [], 1, 0, aW A, aC A, aN A), .inl none) := by exact if_neg (by omega)
      rw [e8]
      exact ⟨⟨hF9.lay hL, tK.fl hF9, tV.fl hF9, tM.fl hF9, tS.fl hF9, TaB.nil g9_398 (Nat.le_of_ble_eq_true rfl) g9_397 g9_396, by have z := tX.fl hF9; rw [show aF A = 0 by omega] at z; exact z⟩, hF9.mono, g9_402, rfl⟩
    · refine zr_iconst (v := nI 1) dX12_begin_15 (by decide) ?_
      refine zr_goto 20 dX12_begin_16 (by decide) ?_
      refine zr_putI dX12_begin_20 lkX12_38 (by decide) (by decide) rfl rfl (hL.K 38 13) ?_
      refine zr_aload_n dX12_begin_23 rfl ?_
      refine zr_getI dX12_begin_24 lkX12_38 (by decide) (by decide) rfl (hL.K 38 13) ?_
      refine zr_as (y := (nI 1)) (zput_hit _ _ _ _) ?_
      refine zr_if_leN 31 dX12_begin_27 (by decide) (by decide) (fun h27 => absurd h27 (by decide)) (fun h27 => ?_)
      refine zr_vret dX12_begin_30 rfl ?_
      obtain ⟨M9, e9⟩ : ∃ z, z = (zput M 402 (ad 38) (nI 1)) := ⟨_, rfl⟩
      rw [← e9]
      have hF9 : Fl ad 0 [402] [] [] M M9 := by rw [e9]; exact ((Fl.refl ad _ _ _ M).put hL (f := 402) (i := 38))
      have g9_402 : zI M9 402 (ad 38) = (nI 1) := by rw [e9]; exact zput_hit _ _ _ _
      have e8 : sBegin A = (A, .inr 0) := by exact if_pos (by omega)
      rw [e8]
      exact ⟨⟨hF9.lay hL, tK.fl hF9, tV.fl hF9, tM.fl hF9, tS.fl hF9, tB.fl hF9, tX.fl hF9⟩, hF9.mono, g9_402, rfl⟩
set_option maxRecDepth 100000 in
set_option maxHeartbeats 4000000 in
theorem b_cancel {G : zG} {ad : Nat → Nat} {d : Nat} {A : As} {M : zM} (hd : 2 ≤ d) (hcb : zC M ≤ 600128 ∧ zS M ≤ 7301098) (hT : Ta ad M A)  : zMet G mX12_cancel d [.ref ((ad 38))] M (Mst ad M (sCancel A) cd1 (some (.int 0))) := by
  obtain ⟨hL, tK, tV, tM, tS, tB, tX⟩ := id hT
  have hbd := hT.bd
  refine zMet_of (by decide +kernel) (Nat.le_of_ble_eq_true rfl) rfl hcb ?_
  show zw G mX12_cancel d _ _ _ 0 [some (.ref ((ad 38))), none] [] M
  refine zr_aload_n dX12_cancel_0 rfl ?_
  refine zr_aload_n dX12_cancel_1 rfl ?_
  refine zr_getI dX12_cancel_2 lkX12_75 (by decide) (by decide) rfl (hL.K 38 13) ?_
  refine zr_as (y := (nI (aF A))) tX.1 ?_
  refine zr_if_neN 15 dX12_cancel_5 (by decide) (by omega) (fun h5 => ?_) (fun h5 => ?_)
  · refine zr_iconst (v := nI 1) dX12_cancel_15 (by decide) ?_
    refine zr_goto 20 dX12_cancel_16 (by decide) ?_
    refine zr_putI dX12_cancel_20 lkX12_38 (by decide) (by decide) rfl rfl (hL.K 38 13) ?_
    refine zr_aload_n dX12_cancel_23 rfl ?_
    refine zr_getI dX12_cancel_24 lkX12_38 (by decide) (by decide) rfl (hL.K 38 13) ?_
    refine zr_as (y := (nI 1)) (zput_hit _ _ _ _) ?_
    refine zr_if_leN 32 dX12_cancel_27 (by decide) (by decide) (fun h27 => absurd h27 (by decide)) (fun h27 => ?_)
    refine zr_iconst (v := nI 0) dX12_cancel_30 (by decide) ?_
    refine zr_iret dX12_cancel_31 rfl ?_
    obtain ⟨M9, e9⟩ : ∃ z, z = (zput M 402 (ad 38) (nI 1)) := ⟨_, rfl⟩
    rw [← e9]
    have hF9 : Fl ad 0 [402] [] [] M M9 := by rw [e9]; exact ((Fl.refl ad _ _ _ M).put hL (f := 402) (i := 38))
    have g9_402 : zI M9 402 (ad 38) = (nI 1) := by rw [e9]; exact zput_hit _ _ _ _
    have e8 : sCancel A = (A, .inr 0) := by exact if_pos (by omega)
    rw [e8]
    exact ⟨⟨hF9.lay hL, tK.fl hF9, tV.fl hF9, tM.fl hF9, tS.fl hF9, tB.fl hF9, tX.fl hF9⟩, hF9.mono, g9_402, rfl⟩
  · refine zr_aload_n dX12_cancel_8 rfl ?_
    refine zr_getI dX12_cancel_9 lkX12_82 (by decide) (by decide) rfl (hL.K 38 13) ?_
    refine zr_as (y := (nI (aO A))) tB.1 ?_
    refine zr_if_neN 19 dX12_cancel_12 (by decide) (by omega) (fun h12 => ?_) (fun h12 => ?_)
    · refine zr_iconst (v := nI 0) dX12_cancel_19 (by decide) ?_
      refine zr_putI dX12_cancel_20 lkX12_38 (by decide) (by decide) rfl rfl (hL.K 38 13) ?_
      refine zr_aload_n dX12_cancel_23 rfl ?_
      refine zr_getI dX12_cancel_24 lkX12_38 (by decide) (by decide) rfl (hL.K 38 13) ?_
      refine zr_as (y := (nI 0)) (zput_hit _ _ _ _) ?_
      refine zr_if_leN 32 dX12_cancel_27 (by decide) (by decide) (fun h27 => ?_) (fun h27 => absurd h27 (by decide))
      refine zr_aload_n dX12_cancel_32 rfl ?_
      refine zr_getI dX12_cancel_33 lkX12_85 (by decide) (by decide) rfl (hL.K 38 13) ?_
      refine zr_as (y := (nI ((aS A).length))) (zput_ms (by decide) tB.2.2.1) ?_
      refine zr_istore_n (lv' := [some (.ref ((ad 38))), some (.int (nI ((aS A).length)))]) dX12_cancel_36 (Nat.le_of_ble_eq_true rfl) (Nat.le_of_ble_eq_true rfl) rfl rfl ?_
      refine zr_aload_n dX12_cancel_37 rfl ?_
      refine zr_iconst (v := nI 0) dX12_cancel_38 (by decide) ?_
      refine zr_putZ dX12_cancel_39 lkX12_82 (by decide) (by decide) rfl rfl (Or.inl rfl) (hL.K 38 13) ?_
      refine zr_aload_n dX12_cancel_42 rfl ?_
      refine zr_iconst (v := nI 0) dX12_cancel_43 (by decide) ?_
      refine zr_putI dX12_cancel_44 lkX12_85 (by decide) (by decide) rfl rfl (hL.K 38 13) ?_
      refine zr_aload_n dX12_cancel_47 rfl ?_
      refine zr_iconst (v := nI 0) dX12_cancel_48 (by decide) ?_
      refine zr_putI dX12_cancel_49 lkX12_88 (by decide) (by decide) rfl rfl (hL.K 38 13) ?_
      refine zr_iload_n dX12_cancel_52 rfl ?_
      refine zr_iret dX12_cancel_53 rfl ?_
      obtain ⟨M9, e9⟩ : ∃ z, z = (zput (zput (zput (zput M 402 (ad 38) (nI 0)) 398 (ad 38) (nI 0)) 397 (ad 38) (nI 0)) 396 (ad 38) (nI 0)) := ⟨_, rfl⟩
      rw [← e9]
      have hF9 : Fl ad 0 [396, 397, 398, 402] [] [] M M9 := by rw [e9]; exact (((((Fl.refl ad _ _ _ M).put hL (f := 402) (i := 38)).put hL (f := 398) (i := 38)).put hL (f := 397) (i := 38)).put hL (f := 396) (i := 38))
      have g9_396 : zI M9 396 (ad 38) = (nI 0) := by rw [e9]; exact zput_hit _ _ _ _
      have g9_397 : zI M9 397 (ad 38) = (nI 0) := by rw [e9]; exact (zput_ms (f := 396) (by decide) (zput_hit _ _ _ _))
      have g9_398 : zI M9 398 (ad 38) = (nI 0) := by rw [e9]; exact (zput_ms (f := 396) (by decide) (zput_ms (f := 397) (by decide) (zput_hit _ _ _ _)))
      have g9_402 : zI M9 402 (ad 38) = (nI 0) := by rw [e9]; exact (zput_ms (f := 396) (by decide) (zput_ms (f := 397) (by decide) (zput_ms (f := 398) (by decide) (zput_hit _ _ _ _))))
      have e8 : sCancel A = ((aM A, aK A, aV A, [], 0, 0, aW A, aC A, aN A), .inl (some (.int (nI (aS A).length)))) := by exact if_neg (by omega)
      rw [e8]
      exact ⟨⟨hF9.lay hL, tK.fl hF9, tV.fl hF9, tM.fl hF9, tS.fl hF9, TaB.nil g9_398 (Nat.le_of_ble_eq_true rfl) g9_397 g9_396, by have z := tX.fl hF9; rw [show aF A = 0 by omega] at z; exact z⟩, hF9.mono, g9_402, rfl⟩
    · refine zr_iconst (v := nI 1) dX12_cancel_15 (by decide) ?_
      refine zr_goto 20 dX12_cancel_16 (by decide) ?_
      refine zr_putI dX12_cancel_20 lkX12_38 (by decide) (by decide) rfl rfl (hL.K 38 13) ?_
      refine zr_aload_n dX12_cancel_23 rfl ?_
      refine zr_getI dX12_cancel_24 lkX12_38 (by decide) (by decide) rfl (hL.K 38 13) ?_
      refine zr_as (y := (nI 1)) (zput_hit _ _ _ _) ?_
      refine zr_if_leN 32 dX12_cancel_27 (by decide) (by decide) (fun h27 => absurd h27 (by decide)) (fun h27 => ?_)
      refine zr_iconst (v := nI 0) dX12_cancel_30 (by decide) ?_
      refine zr_iret dX12_cancel_31 rfl ?_
      obtain ⟨M9, e9⟩ : ∃ z, z = (zput M 402 (ad 38) (nI 1)) := ⟨_, rfl⟩
      rw [← e9]
      have hF9 : Fl ad 0 [402] [] [] M M9 := by rw [e9]; exact ((Fl.refl ad _ _ _ M).put hL (f := 402) (i := 38))
      have g9_402 : zI M9 402 (ad 38) = (nI 1) := by rw [e9]; exact zput_hit _ _ _ _
      have e8 : sCancel A = (A, .inr 0) := by exact if_pos (by omega)
      rw [e8]
      exact ⟨⟨hF9.lay hL, tK.fl hF9, tV.fl hF9, tM.fl hF9, tS.fl hF9, tB.fl hF9, tX.fl hF9⟩, hF9.mono, g9_402, rfl⟩
set_option maxRecDepth 100000 in
set_option maxHeartbeats 4000000 in
theorem b_check {G : zG} {ad : Nat → Nat} {d : Nat} {A : As} {M : zM} (hd : 2 ≤ d) (hcb : zC M ≤ 600128 ∧ zS M ≤ 7301098) (hT : Ta ad M A)  : zMet G mX12_check d [.ref ((ad 38))] M (Mst ad M (sChk A) cd1 (some (.int 0))) := by
  obtain ⟨hL, tK, tV, tM, tS, tB, tX⟩ := id hT
  have hbd := hT.bd
  refine zMet_of (by decide +kernel) (Nat.le_of_ble_eq_true rfl) rfl hcb ?_
  show zw G mX12_check d _ _ _ 0 [some (.ref ((ad 38)))] [] M
  refine zr_aload_n dX12_check_0 rfl ?_
  refine zr_aload_n dX12_check_1 rfl ?_
  refine zr_getI dX12_check_2 lkX12_75 (by decide) (by decide) rfl (hL.K 38 13) ?_
  refine zr_as (y := (nI (aF A))) tX.1 ?_
  refine zr_if_eqN 12 dX12_check_5 (by decide) (by omega) (fun h5 => ?_) (fun h5 => ?_)
  · refine zr_iconst (v := nI 0) dX12_check_12 (by decide) ?_
    refine zr_putI dX12_check_13 lkX12_38 (by decide) (by decide) rfl rfl (hL.K 38 13) ?_
    refine zr_iconst (v := nI 0) dX12_check_16 (by decide) ?_
    refine zr_iret dX12_check_17 rfl ?_
    obtain ⟨M9, e9⟩ : ∃ z, z = (zput M 402 (ad 38) (nI 0)) := ⟨_, rfl⟩
    rw [← e9]
    have hF9 : Fl ad 0 [402] [] [] M M9 := by rw [e9]; exact ((Fl.refl ad _ _ _ M).put hL (f := 402) (i := 38))
    have g9_402 : zI M9 402 (ad 38) = (nI 0) := by rw [e9]; exact zput_hit _ _ _ _
    have e8 : sChk A = (A, .inl (some (.int 0))) := by exact if_neg (by omega)
    rw [e8]
    exact ⟨⟨hF9.lay hL, tK.fl hF9, tV.fl hF9, tM.fl hF9, tS.fl hF9, tB.fl hF9, tX.fl hF9⟩, hF9.mono, g9_402, rfl⟩
  · refine zr_iconst (v := nI 1) dX12_check_8 (by decide) ?_
    refine zr_goto 13 dX12_check_9 (by decide) ?_
    refine zr_putI dX12_check_13 lkX12_38 (by decide) (by decide) rfl rfl (hL.K 38 13) ?_
    refine zr_iconst (v := nI 0) dX12_check_16 (by decide) ?_
    refine zr_iret dX12_check_17 rfl ?_
    obtain ⟨M9, e9⟩ : ∃ z, z = (zput M 402 (ad 38) (nI 1)) := ⟨_, rfl⟩
    rw [← e9]
    have hF9 : Fl ad 0 [402] [] [] M M9 := by rw [e9]; exact ((Fl.refl ad _ _ _ M).put hL (f := 402) (i := 38))
    have g9_402 : zI M9 402 (ad 38) = (nI 1) := by rw [e9]; exact zput_hit _ _ _ _
    have e8 : sChk A = (A, .inr 0) := by exact if_pos (by omega)
    rw [e8]
    exact ⟨⟨hF9.lay hL, tK.fl hF9, tV.fl hF9, tM.fl hF9, tS.fl hF9, tB.fl hF9, tX.fl hF9⟩, hF9.mono, g9_402, rfl⟩
set_option maxRecDepth 100000 in
set_option maxHeartbeats 4000000 in
theorem b_works {G : zG} {ad : Nat → Nat} {d : Nat} {A : As} {M : zM} (hd : 2 ≤ d) (hcb : zC M ≤ 600128 ∧ zS M ≤ 7301098) (hT : Ta ad M A)  : zMet G mX12_works d [.ref ((ad 38))] M (Mst ad M (sWork A) cdW (none)) := by
  obtain ⟨hL, tK, tV, tM, tS, tB, tX⟩ := id hT
  have hbd := hT.bd
  refine zMet_of (by decide +kernel) (Nat.le_of_ble_eq_true rfl) rfl hcb ?_
  show zw G mX12_works d _ _ _ 0 [some (.ref ((ad 38)))] [] M
  refine zr_aload_n dX12_works_0 rfl ?_
  refine zr_aload_n dX12_works_1 rfl ?_
  refine zr_getI dX12_works_2 lkX12_75 (by decide) (by decide) rfl (hL.K 38 13) ?_
  refine zr_as (y := (nI (aF A))) tX.1 ?_
  refine zr_if_eqN 12 dX12_works_5 (by decide) (by omega) (fun h5 => ?_) (fun h5 => ?_)
  · refine zr_iconst (v := nI 0) dX12_works_12 (by decide) ?_
    refine zr_putI dX12_works_13 lkX12_38 (by decide) (by decide) rfl rfl (hL.K 38 13) ?_
    refine zr_aload_n dX12_works_16 rfl ?_
    refine zr_getI dX12_works_17 lkX12_38 (by decide) (by decide) rfl (hL.K 38 13) ?_
    refine zr_as (y := (nI 0)) (zput_hit _ _ _ _) ?_
    refine zr_if_gtN 31 dX12_works_20 (by decide) (by decide) (fun h20 => absurd h20 (by decide)) (fun h20 => ?_)
    refine zr_aload_n dX12_works_23 rfl ?_
    refine zr_getI dX12_works_24 lkX12_34 (by decide) (by decide) rfl (hL.K 38 13) ?_
    refine zr_as (y := (nI (aW A))) (zput_ms (by decide) tX.2.2.2.1) ?_
    refine zr_iconst (v := nI 2) dX12_works_27 (by decide) ?_
    refine zr_icmp_eqN 32 dX12_works_28 (by decide) (by omega) (by decide) (fun h28 => ?_) (fun h28 => ?_)
    · refine zr_aload_n dX12_works_32 rfl ?_
      refine zr_callV (md' := mX12_fall) (As := []) dX12_works_33 mlX12_61 okX12_fall rfl inX12_fall slX12_fall (by decide) (hL.K 38 13) rfl (by omega) (Nat.le_of_ble_eq_true rfl) hcb (c_fall (d := d - 1) (by omega) (M := (zput M 402 (ad 38) (nI 0))) (by show zC M ≤ 600128 ∧ zS M ≤ 7301098; exact hcb) (hT.t402.1)) (fun k M1 h => by cases h.1) (fun v M1 hq => ?_)
      obtain ⟨e0, e1⟩ := hq
      cases e0
      obtain ⟨hT1, hF1⟩ := fall_ta hT.t402 e1
      have hL1 := hT1.1
      refine zr_aload_n dX12_works_36 rfl ?_
      refine zr_iconst (v := nI 2) dX12_works_37 (by decide) ?_
      refine zr_putI dX12_works_38 lkX12_38 (by decide) (by decide) rfl rfl (hL1.K 38 13) ?_
      refine zr_vret dX12_works_41 rfl ?_
      have e8 : sWork A = (fell A, .inr 2) := by unfold sWork; rw [if_neg (by omega), if_pos (by omega)]
      rw [e8]
      have hF0 : Fl ad 0 LM LMA [] M (zput M 402 (ad 38) (nI 0)) := (Fl.refl ad _ _ _ M).put hL (f := 402) (i := 38)
      exact ⟨hT1.t402, (hF0.trans0 hF1.mono).put hL (f := 402) (i := 38), zput_hit _ _ _ _, rfl⟩
    · refine zr_vret dX12_works_31 rfl ?_
      obtain ⟨M9, e9⟩ : ∃ z, z = (zput M 402 (ad 38) (nI 0)) := ⟨_, rfl⟩
      rw [← e9]
      have hF9 : Fl ad 0 [402] [] [] M M9 := by rw [e9]; exact ((Fl.refl ad _ _ _ M).put hL (f := 402) (i := 38))
      have g9_402 : zI M9 402 (ad 38) = (nI 0) := by rw [e9]; exact zput_hit _ _ _ _
      have e8 : sWork A = (A, .inl none) := by unfold sWork; rw [if_neg (by omega), if_neg (by omega)]
      rw [e8]
      exact ⟨⟨hF9.lay hL, tK.fl hF9, tV.fl hF9, tM.fl hF9, tS.fl hF9, tB.fl hF9, tX.fl hF9⟩, hF9.mono, g9_402, rfl⟩
  · refine zr_iconst (v := nI 1) dX12_works_8 (by decide) ?_
    refine zr_goto 13 dX12_works_9 (by decide) ?_
    refine zr_putI dX12_works_13 lkX12_38 (by decide) (by decide) rfl rfl (hL.K 38 13) ?_
    refine zr_aload_n dX12_works_16 rfl ?_
    refine zr_getI dX12_works_17 lkX12_38 (by decide) (by decide) rfl (hL.K 38 13) ?_
    refine zr_as (y := (nI 1)) (zput_hit _ _ _ _) ?_
    refine zr_if_gtN 31 dX12_works_20 (by decide) (by decide) (fun h20 => ?_) (fun h20 => absurd h20 (by decide))
    refine zr_vret dX12_works_31 rfl ?_
    obtain ⟨M9, e9⟩ : ∃ z, z = (zput M 402 (ad 38) (nI 1)) := ⟨_, rfl⟩
    rw [← e9]
    have hF9 : Fl ad 0 [402] [] [] M M9 := by rw [e9]; exact ((Fl.refl ad _ _ _ M).put hL (f := 402) (i := 38))
    have g9_402 : zI M9 402 (ad 38) = (nI 1) := by rw [e9]; exact zput_hit _ _ _ _
    have e8 : sWork A = (A, .inr 0) := if_pos (by omega)
    rw [e8]
    exact ⟨⟨hF9.lay hL, tK.fl hF9, tV.fl hF9, tM.fl hF9, tS.fl hF9, tB.fl hF9, tX.fl hF9⟩, hF9.mono, g9_402, rfl⟩
set_option maxRecDepth 100000 in
set_option maxHeartbeats 4000000 in
theorem b_flush {G : zG} {ad : Nat → Nat} {d : Nat} {A : As} {M : zM} (hd : 3 ≤ d) (hcb : zC M ≤ 600128 ∧ zS M ≤ 7301098) (hT : Ta ad M A)  : zMet G mX12_flush d [.ref ((ad 38))] M (Mst ad M (sWork A) cdW (none)) := by
  obtain ⟨hL, tK, tV, tM, tS, tB, tX⟩ := id hT
  refine zMet_of (by decide +kernel) (Nat.le_of_ble_eq_true rfl) rfl hcb ?_
  show zw G mX12_flush d _ _ _ 0 [some (.ref ((ad 38)))] [] M
  refine zr_aload_n dX12_flush_0 rfl ?_
  refine zr_callV (md' := mX12_works) (As := []) dX12_flush_1 mlX12_133 okX12_works rfl inX12_works slX12_works (by decide) (hL.K 38 13) rfl (by omega) (Nat.le_of_ble_eq_true rfl) hcb (b_works (d := d - 1) (by omega) hcb hT) (fun k M1 h => by cases h.2.2.2) (fun v M1 hq => ?_)
  have hv : v = none := by
    obtain ⟨_, _, _, e0⟩ := id hq
    have e1 := Sum.inl.inj e0
    rw [e1]
    unfold sWork
    split
    · rfl
    · split <;> rfl
  subst hv
  refine zr_vret dX12_flush_4 rfl ?_
  exact hq
set_option maxRecDepth 100000 in
set_option maxHeartbeats 4000000 in
theorem b_compact {G : zG} {ad : Nat → Nat} {d : Nat} {A : As} {M : zM} (hd : 3 ≤ d) (hcb : zC M ≤ 600128 ∧ zS M ≤ 7301098) (hT : Ta ad M A)  : zMet G mX12_compact d [.ref ((ad 38))] M (Mst ad M (sWork A) cdW (none)) := by
  obtain ⟨hL, tK, tV, tM, tS, tB, tX⟩ := id hT
  refine zMet_of (by decide +kernel) (Nat.le_of_ble_eq_true rfl) rfl hcb ?_
  show zw G mX12_compact d _ _ _ 0 [some (.ref ((ad 38)))] [] M
  refine zr_aload_n dX12_compact_0 rfl ?_
  refine zr_callV (md' := mX12_works) (As := []) dX12_compact_1 mlX12_133 okX12_works rfl inX12_works slX12_works (by decide) (hL.K 38 13) rfl (by omega) (Nat.le_of_ble_eq_true rfl) hcb (b_works (d := d - 1) (by omega) hcb hT) (fun k M1 h => by cases h.2.2.2) (fun v M1 hq => ?_)
  have hv : v = none := by
    obtain ⟨_, _, _, e0⟩ := id hq
    have e1 := Sum.inl.inj e0
    rw [e1]
    unfold sWork
    split
    · rfl
    · split <;> rfl
  subst hv
  refine zr_vret dX12_compact_4 rfl ?_
  exact hq
