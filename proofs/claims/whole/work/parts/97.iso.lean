/-! ===== a mirror of the memory: its addresses are the places ===== -/
/-- N, over places, is M: objects by fields, arrays by cells; ad says where each place lies -/
def Iso (ad : Nat → Nat) (M N : zM) : Prop :=
  (∀ i j, zK N i ≠ 0 → zK N j ≠ 0 → ad i = ad j → i = j) ∧
  (∀ i, zK N i ≠ 0 → zK M (ad i) = zK N i ∧ (zK N i < 14 → ∀ f, zI M f (ad i) = zI N f i ∧ zR M f (ad i) = (zR N f i).map ad) ∧ (14 ≤ zK N i → zN M (ad i) = zN N i ∧ zA M (ad i) = zA N i ∧ ∀ x, zB M (ad i) x = (zB N i x).map ad)) ∧
  (∀ i f j, zK N i ≠ 0 → zK N i < 14 → zR N f i = some j → zK N j ≠ 0) ∧ (∀ i x j, zK N i ≠ 0 → 14 ≤ zK N i → zB N i x = some j → zK N j ≠ 0) ∧ zC M = zC N ∧ zS M = zS N
/-- a place gets an address -/
def adp (ad : Nat → Nat) (i q : Nat) : Nat → Nat := fun x => if x = i then q else ad x
theorem adp_hit (ad : Nat → Nat) (i q : Nat) : adp ad i q i = q := if_pos rfl
theorem adp_ne (ad : Nat → Nat) {i q x : Nat} (h : x ≠ i) : adp ad i q x = ad x := if_neg h
theorem adp_map {ad : Nat → Nat} {N : zM} {i q : Nat} {o : Option Nat} (hi : zK N i = 0) (h : ∀ j, o = some j → zK N j ≠ 0) : o.map (adp ad i q) = o.map ad := by
  cases o with
  | none => rfl
  | some j => exact congrArg some (adp_ne ad (fun e => h j rfl (by rw [e]; exact hi)))
theorem Iso.new {ad : Nat → Nat} {M N : zM} {i q : Nat} (h : Iso ad M N) (hq : zK M q = 0) (hi : zK N i = 0) : ∀ x, zK N x ≠ 0 → x ≠ i ∧ ad x ≠ q := fun x hx => ⟨fun e => hx (by rw [e]; exact hi), fun e => hx (by rw [← (h.2.1 x hx).1, e]; exact hq)⟩
theorem Iso.newA {ad : Nat → Nat} {M N : zM} {i q κ n : Nat} (h : Iso ad M N) (hq : zK M q = 0) (hi : zK N i = 0) (hκ : 14 ≤ κ) : Iso (adp ad i q) (znewA M q κ n) (znewA N i κ n) := by
  have hk0 : zK (znewA N i κ n) i = κ := va_up_self _ _ _
  have hkx : ∀ x, x ≠ i → zK (znewA N i κ n) x = zK N x := fun x hx => va_up_ne _ _ hx
  have old := h.new hq hi
  refine ⟨fun x y hx hy e => ?_, fun x hx => ?_, fun x f j hx hl hr => ?_, fun x z j hx hl hr => ?_, by show zC M + 1 = zC N + 1; rw [h.2.2.2.2.1], by show zS M + n = zS N + n; rw [h.2.2.2.2.2]⟩
  · by_cases ex : x = i
    · by_cases ey : y = i
      · rw [ex, ey]
      · rw [hkx y ey] at hy
        rw [ex, adp_hit, adp_ne ad ey] at e
        exact absurd e.symm (old y hy).2
    · rw [hkx x ex] at hx
      by_cases ey : y = i
      · rw [ey, adp_hit, adp_ne ad ex] at e
        exact absurd e (old x hx).2
      · rw [hkx y ey] at hy
        rw [adp_ne ad ex, adp_ne ad ey] at e
        exact h.1 x y hx hy e
  · by_cases ex : x = i
    · subst ex
      rw [adp_hit, hk0]
      refine ⟨va_up_self _ _ _, fun z => by omega, fun _ => ⟨?_, ?_, fun z => ?_⟩⟩
      · show va_up (zN M) q n q = va_up (zN N) x n x
        rw [va_up_self, va_up_self]
      · show va_up (zA M) q (fun _ => 0) q = va_up (zA N) x (fun _ => 0) x
        rw [va_up_self, va_up_self]
      · show va_up (zB M) q (fun _ => none) q z = (va_up (zB N) x (fun _ => none) x z).map _
        rw [va_up_self, va_up_self]
        rfl
    · rw [hkx x ex] at hx ⊢
      have ho := (old x hx).2
      obtain ⟨a1, a2, a3⟩ := h.2.1 x hx
      rw [adp_ne ad ex]
      refine ⟨(va_up_ne _ _ ho).trans a1, fun hl f => ⟨(a2 hl f).1, ?_⟩, fun hl => ⟨?_, ?_, fun z => ?_⟩⟩
      · show zR M f (ad x) = (zR N f x).map _
        rw [adp_map hi (fun j hj => h.2.2.1 x f j hx hl hj)]
        exact (a2 hl f).2
      · show va_up (zN M) q n (ad x) = va_up (zN N) i n x
        rw [va_up_ne _ _ ho, va_up_ne _ _ ex]
        exact (a3 hl).1
      · show va_up (zA M) q (fun _ => 0) (ad x) = va_up (zA N) i (fun _ => 0) x
        rw [va_up_ne _ _ ho, va_up_ne _ _ ex]
        exact (a3 hl).2.1
      · show va_up (zB M) q (fun _ => none) (ad x) z = (va_up (zB N) i (fun _ => none) x z).map _
        rw [va_up_ne _ _ ho, va_up_ne _ _ ex, adp_map hi (fun j hj => h.2.2.2.1 x z j hx hl hj)]
        exact (a3 hl).2.2 z
  · by_cases ex : x = i
    · rw [ex, hk0] at hl; omega
    · rw [hkx x ex] at hx hl
      have hj := h.2.2.1 x f j hx hl hr
      rw [hkx j (fun e => hj (by rw [e]; exact hi))]
      exact hj
  · by_cases ex : x = i
    · have e9 : zB (znewA N i κ n) x z = none := by
        rw [ex]
        show va_up (zB N) i (fun _ => none) i z = none
        rw [va_up_self]
      rw [e9] at hr
      cases hr
    · rw [hkx x ex] at hx hl
      have hr2 : zB N x z = some j := by
        have e9 : zB (znewA N i κ n) x z = zB N x z := by
          show va_up (zB N) i (fun _ => none) x z = _
          rw [va_up_ne _ _ ex]
        rw [← e9]; exact hr
      have hj := h.2.2.2.1 x z j hx hl hr2
      rw [hkx j (fun e => hj (by rw [e]; exact hi))]
      exact hj
theorem Iso.put {ad : Nat → Nat} {M N : zM} {i f : Nat} {v : Int32} (h : Iso ad M N) (hi : zK N i ≠ 0) : Iso ad (zput M f (ad i) v) (zput N f i v) := by
  refine ⟨h.1, fun x hx => ?_, h.2.2.1, h.2.2.2.1, h.2.2.2.2⟩
  obtain ⟨a1, a2, a3⟩ := h.2.1 x hx
  refine ⟨a1, fun hl g => ⟨?_, (a2 hl g).2⟩, a3⟩
  show (if g = f ∧ ad x = ad i then v else zI M g (ad x)) = (if g = f ∧ x = i then v else zI N g x)
  by_cases e : g = f ∧ x = i
  · rw [if_pos e, if_pos ⟨e.1, by rw [e.2]⟩]
  · rw [if_neg e, if_neg (fun z => e ⟨z.1, h.1 x i hx hi z.2⟩)]
    exact (a2 hl g).1
theorem Iso.putR {ad : Nat → Nat} {M N : zM} {i j f : Nat} (h : Iso ad M N) (hi : zK N i ≠ 0) (hj : zK N j ≠ 0) : Iso ad (zputR M f (ad i) (some (ad j))) (zputR N f i (some j)) := by
  refine ⟨h.1, fun x hx => ?_, fun x g y hx hl hr => ?_, h.2.2.2.1, h.2.2.2.2⟩
  · obtain ⟨a1, a2, a3⟩ := h.2.1 x hx
    refine ⟨a1, fun hl g => ⟨(a2 hl g).1, ?_⟩, a3⟩
    show (if g = f ∧ ad x = ad i then some (ad j) else zR M g (ad x)) = (if g = f ∧ x = i then some j else zR N g x).map ad
    by_cases e : g = f ∧ x = i
    · rw [if_pos e, if_pos ⟨e.1, by rw [e.2]⟩]; rfl
    · rw [if_neg e, if_neg (fun z => e ⟨z.1, h.1 x i hx hi z.2⟩)]
      exact (a2 hl g).2
  · have hr2 : (if g = f ∧ x = i then some j else zR N g x) = some y := hr
    by_cases e : g = f ∧ x = i
    · rw [if_pos e] at hr2; cases hr2; exact hj
    · rw [if_neg e] at hr2; exact h.2.2.1 x g y hx hl hr2
theorem Iso.setA {ad : Nat → Nat} {M N : zM} {i : Nat} {g : Nat → Int32} (h : Iso ad M N) (hi : zK N i ≠ 0) : Iso ad (zsetA M (ad i) g) (zsetA N i g) := by
  refine ⟨h.1, fun x hx => ?_, h.2.2.1, h.2.2.2.1, h.2.2.2.2⟩
  obtain ⟨a1, a2, a3⟩ := h.2.1 x hx
  refine ⟨a1, a2, fun hl => ⟨(a3 hl).1, ?_, (a3 hl).2.2⟩⟩
  show va_up (zA M) (ad i) g (ad x) = va_up (zA N) i g x
  by_cases e : x = i
  · rw [e, va_up_self, va_up_self]
  · rw [va_up_ne _ _ e, va_up_ne _ _ (fun z => e (h.1 x i hx hi z))]
    exact (a3 hl).2.1
theorem Iso.newO {ad : Nat → Nat} {M N : zM} {i q c n : Nat} (h : Iso ad M N) (hq : zK M q = 0) (hi : zK N i = 0) (hc : c < 13) : Iso (adp ad i q) (znewO M q c n) (znewO N i c n) := by
  have hk0 : zK (znewO N i c n) i = c + 1 := va_up_self _ _ _
  have hkx : ∀ x, x ≠ i → zK (znewO N i c n) x = zK N x := fun x hx => va_up_ne _ _ hx
  have old := h.new hq hi
  refine ⟨fun x y hx hy e => ?_, fun x hx => ?_, fun x f j hx hl hr => ?_, fun x z j hx hl hr => ?_, by show zC M + 1 = zC N + 1; rw [h.2.2.2.2.1], by show zS M + n = zS N + n; rw [h.2.2.2.2.2]⟩
  · by_cases ex : x = i
    · by_cases ey : y = i
      · rw [ex, ey]
      · rw [hkx y ey] at hy
        rw [ex, adp_hit, adp_ne ad ey] at e
        exact absurd e.symm (old y hy).2
    · rw [hkx x ex] at hx
      by_cases ey : y = i
      · rw [ey, adp_hit, adp_ne ad ex] at e
        exact absurd e (old x hx).2
      · rw [hkx y ey] at hy
        rw [adp_ne ad ex, adp_ne ad ey] at e
        exact h.1 x y hx hy e
  · by_cases ex : x = i
    · subst ex
      rw [adp_hit, hk0]
      refine ⟨va_up_self _ _ _, fun _ f => ⟨?_, ?_⟩, fun z => by omega⟩
      · show (if q = q then (0 : Int32) else zI M f q) = (if x = x then 0 else zI N f x)
        rw [if_pos rfl, if_pos rfl]
      · show (if q = q then none else zR M f q) = (if x = x then none else zR N f x).map _
        rw [if_pos rfl, if_pos rfl]
        rfl
    · rw [hkx x ex] at hx ⊢
      have ho := (old x hx).2
      obtain ⟨a1, a2, a3⟩ := h.2.1 x hx
      rw [adp_ne ad ex]
      refine ⟨(va_up_ne _ _ ho).trans a1, fun hl f => ⟨?_, ?_⟩, fun hl => ⟨(a3 hl).1, (a3 hl).2.1, fun z => ?_⟩⟩
      · show (if ad x = q then (0 : Int32) else zI M f (ad x)) = (if x = i then 0 else zI N f x)
        rw [if_neg ho, if_neg ex]
        exact (a2 hl f).1
      · show (if ad x = q then none else zR M f (ad x)) = (if x = i then none else zR N f x).map _
        rw [if_neg ho, if_neg ex, adp_map hi (fun j hj => h.2.2.1 x f j hx hl hj)]
        exact (a2 hl f).2
      · show zB M (ad x) z = (zB N x z).map _
        rw [adp_map hi (fun j hj => h.2.2.2.1 x z j hx hl hj)]
        exact (a3 hl).2.2 z
  · have hr0 : (if x = i then none else zR N f x) = some j := hr
    by_cases ex : x = i
    · rw [if_pos ex] at hr0; cases hr0
    · rw [if_neg ex] at hr0
      rw [hkx x ex] at hx hl
      have hj := h.2.2.1 x f j hx hl hr0
      rw [hkx j (fun e => hj (by rw [e]; exact hi))]
      exact hj
  · by_cases ex : x = i
    · rw [ex, hk0] at hl; omega
    · rw [hkx x ex] at hx hl
      have hj := h.2.2.2.1 x z j hx hl hr
      rw [hkx j (fun e => hj (by rw [e]; exact hi))]
      exact hj
theorem Iso.setB {ad : Nat → Nat} {M N : zM} {i j y : Nat} (h : Iso ad M N) (hi : zK N i ≠ 0) (hi2 : 14 ≤ zK N i) (hj : zK N j ≠ 0) : Iso ad (zsetB M (ad i) (va_up (zB M (ad i)) y (some (ad j)))) (zsetB N i (va_up (zB N i) y (some j))) := by
  refine ⟨h.1, fun x hx => ?_, h.2.2.1, fun x z k hx hl hr => ?_, h.2.2.2.2⟩
  · obtain ⟨a1, a2, a3⟩ := h.2.1 x hx
    refine ⟨a1, a2, fun hl => ⟨(a3 hl).1, (a3 hl).2.1, fun z => ?_⟩⟩
    show va_up (zB M) (ad i) (va_up (zB M (ad i)) y (some (ad j))) (ad x) z = (va_up (zB N) i (va_up (zB N i) y (some j)) x z).map ad
    by_cases e : x = i
    · rw [e, va_up_self, va_up_self]
      by_cases ez : z = y
      · rw [ez, va_up_self, va_up_self]; rfl
      · rw [va_up_ne _ _ ez, va_up_ne _ _ ez]
        rw [e] at a3
        exact (a3 (by rw [← e]; exact hl)).2.2 z
    · rw [va_up_ne _ _ e, va_up_ne _ _ (fun z => e (h.1 x i hx hi z))]
      exact (a3 hl).2.2 z
  · have hr0 : va_up (zB N) i (va_up (zB N i) y (some j)) x z = some k := hr
    by_cases e : x = i
    · rw [e, va_up_self] at hr0
      by_cases ez : z = y
      · rw [ez, va_up_self] at hr0; cases hr0; exact hj
      · rw [va_up_ne _ _ ez] at hr0
        exact h.2.2.2.1 i z k hi hi2 hr0
    · rw [va_up_ne _ _ e] at hr0
      exact h.2.2.2.1 x z k hx hl hr0
