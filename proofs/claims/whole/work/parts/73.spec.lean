/-! ===== the abstract state, and what each call makes of it ===== -/
/-- map, key, value, steps of the batch, whether it is open, whether it is off, when power fails, commits, snapshots -/
abbrev As : Type := Mp × List Nat × List Nat × List Sp × Nat × Nat × Nat × Nat × (Nat → Option Mp)
abbrev aM (A : As) : Mp := A.1
abbrev aK (A : As) : List Nat := A.2.1
abbrev aV (A : As) : List Nat := A.2.2.1
abbrev aS (A : As) : List Sp := A.2.2.2.1
abbrev aO (A : As) : Nat := A.2.2.2.2.1
abbrev aF (A : As) : Nat := A.2.2.2.2.2.1
abbrev aW (A : As) : Nat := A.2.2.2.2.2.2.1
abbrev aC (A : As) : Nat := A.2.2.2.2.2.2.2.1
abbrev aN (A : As) : Nat → Option Mp := A.2.2.2.2.2.2.2.2
noncomputable def mset (m : Mp) (ss : List Sp) : Mp := Classical.epsilon (fun m' => MSets m ss m')
theorem mset_spec {m : Mp} (ss : List Sp) (h : Srt m) : MSets m ss (mset m ss) := Classical.epsilon_spec (MSets.ex ss h)
/-- the low n bytes of w, the highest first -/
def wbs (w : Int64) (n : Nat) : List Nat := (List.range n).map (fun j => zb (zwb w (n - 1 - j)))
/-- a row of bytes takes n more -/
def rOk (L : List Nat) (cap : Nat) (n fr : Int32) : Prop := 0 ≤ n.toInt ∧ n.toInt ≤ 8 ∧ (((if fr = 0 then L.length else 0 : Nat) : Int) + n.toInt ≤ cap)
def kltb : List Nat → List Nat → Bool
  | [], [] => false
  | [], _ :: _ => true
  | _ :: _, [] => false
  | x :: xs, y :: ys => decide (x < y) || (decide (x = y) && kltb xs ys)
theorem kltb_iff : ∀ (a b : List Nat), kltb a b = true ↔ klt a b
  | [], [] => by simp [kltb, klt]
  | [], _ :: _ => by simp [kltb, klt]
  | _ :: _, [] => by simp [kltb, klt]
  | x :: xs, y :: ys => by
    show (decide (x < y) || (decide (x = y) && kltb xs ys)) = true ↔ (x < y ∨ (x = y ∧ klt xs ys))
    rw [Bool.or_eq_true, Bool.and_eq_true, decide_eq_true_eq, decide_eq_true_eq, kltb_iff xs ys]
/-- it is off: what is lost -/
def fell (A : As) : As := (aM A, aK A, aV A, [], 0, 1, 3, aC A, fun _ => none)
/-- a commit of these steps -/
noncomputable def sFin (A : As) (ss : List Sp) : As × zOut :=
  if aW A = 0 then (fell A, .inr 2)
  else if aW A = 1 then (fell (mset (aM A) ss, aK A, aV A, aS A, aO A, aF A, aW A, aC A + 1, aN A), .inr 2)
  else ((mset (aM A) ss, aK A, aV A, [], 0, 0, aW A, aC A + 1, aN A), .inl (some (.int (nI (msz (mset (aM A) ss))))))
noncomputable def sAdd (kind : Nat) (A : As) : As × zOut :=
  if aF A = 1 then (A, .inr 0) else if aK A = [] then (A, .inr 1)
  else if aO A = 1 then ((aM A, aK A, aV A, aS A ++ [(kind, aK A, if kind = 1 then aV A else [])], 1, 0, aW A, aC A, aN A), .inl (some (.int (nI ((aS A).length + 1)))))
  else sFin A [(kind, aK A, if kind = 1 then aV A else [])]
noncomputable def sCommit (A : As) : As × zOut := if aF A = 1 ∨ aO A = 0 then (A, .inr 0) else sFin A (aS A)
def sCancel (A : As) : As × zOut := if aF A = 1 ∨ aO A = 0 then (A, .inr 0) else ((aM A, aK A, aV A, [], 0, 0, aW A, aC A, aN A), .inl (some (.int (nI (aS A).length))))
def sBegin (A : As) : As × zOut := if aF A = 1 ∨ aO A = 1 then (A, .inr 0) else ((aM A, aK A, aV A, [], 1, 0, aW A, aC A, aN A), .inl none)
/-- the least free number -/
def fre (sv : Nat → Option Mp) : Nat → Nat → Option Nat
  | _, 0 => none
  | i, k + 1 => if (sv i).isNone then some i else fre sv (i + 1) k
def sSnap (A : As) : As × zOut := if aF A = 1 then (A, .inr 0) else match fre (aN A) 0 8 with
  | none => (A, .inr 0)
  | some i => ((aM A, aK A, aV A, aS A, aO A, aF A, aW A, aC A, fun j => if j = i then some (aM A) else aN A j), .inl (some (.int (nI i))))
/-- the map that a number of a snapshot names (-1: the map itself) -/
def vmp (A : As) (s : Int32) : Option Mp := if s = -1 then some (aM A) else if 0 ≤ s.toInt ∧ s.toInt < 8 then aN A s.toNatClampNeg else none
def sRel (s : Int32) (A : As) : As × zOut := if aF A = 1 then (A, .inr 0) else if s = -1 ∨ vmp A s = none then (A, .inr 3) else ((aM A, aK A, aV A, aS A, aO A, aF A, aW A, aC A, fun j => if j = s.toNatClampNeg then none else aN A j), .inl none)
/-- a call that reads a snapshot -/
def sView (A : As) (s : Int32) (f : Mp → As × zOut) : As × zOut := if aF A = 1 then (A, .inr 0) else match vmp A s with
  | none => (A, .inr 3)
  | some ms => f ms
def sGet (s : Int32) (A : As) : As × zOut := sView A s (fun ms => match ms.find? (fun a => decide (a.1 = aK A)) with
  | none => (A, .inl (some (.int (-1))))
  | some a => ((aM A, aK A, a.2, aS A, aO A, aF A, aW A, aC A, aN A), .inl (some (.int (nI a.2.length)))))
/-- key and value are taken from an entry -/
def took (A : As) (x : Option (List Nat × List Nat)) : As × zOut := match x with
  | none => (A, .inl (some (.int (-1))))
  | some a => ((aM A, a.1, a.2, aS A, aO A, aF A, aW A, aC A, aN A), .inl (some (.int (nI a.1.length))))
def sSeek (s bh : Int32) (A : As) : As × zOut := sView A s (fun ms => took A (ms.find? (fun a => !(kltb a.1 (aK A)) && !(decide (a.1 = aK A) && decide (bh ≠ 0)))))
def sBef (s : Int32) (A : As) : As × zOut := sView A s (fun ms => took A ((ms.filter (fun a => kltb a.1 (aK A))).getLast?))
/-- eight bytes of a row from p on -/
def wdl (L : List Nat) (p : Nat) : Nat → Int64
  | 0 => 0
  | n + 1 => (wdl L p n <<< (Int32.toInt64 (nI 8) &&& 63)) ||| Int32.toInt64 (nI (L.getD (p + n) 0))
def sBytes (vl at_ : Int32) (A : As) : As × zOut := if at_.toInt < 0 ∨ 200 < at_.toInt then (A, .inr 1) else (A, .inl (some (.long (wdl (if vl = 0 then aK A else aV A) at_.toNatClampNeg 8))))
def sWork (A : As) : As × zOut := if aF A = 1 then (A, .inr 0) else if aW A = 2 then (fell A, .inr 2) else (A, .inl none)
def sPow (w k b : Int32) (A : As) : As × zOut := if w.toInt < 0 ∨ 3 < w.toInt ∨ k.toInt < 0 ∨ 400 < k.toInt ∨ b.toInt < 0 ∨ 300 < b.toInt then (A, .inr 1) else ((aM A, aK A, aV A, aS A, aO A, aF A, w.toNatClampNeg, aC A, aN A), .inl none)
def sReo (A : As) : As × zOut := if aW A = 2 then (fell A, .inr 2) else ((aM A, aK A, aV A, [], 0, 0, 3, aC A, fun _ => none), .inl (some (.int (nI (msz (aM A))))))
def svb (sv : Nat → Option Mp) : Nat → Nat
  | 0 => 0
  | i + 1 => svb sv i + (if (sv i).isNone then 0 else 2 ^ i)
def tld (A : As) (x : Nat) : Int32 := match x with
  | 0 => if aF A = 1 then 0 else 1
  | 1 => if aF A = 1 then 0 else nI (msz (aM A))
  | 2 => if aF A = 1 then 0 else nI (aM A).length
  | 3 => if aO A = 1 then nI (aS A).length else -1
  | 4 => nI (svb (aN A) 8)
  | 5 => nI (aC A)
  | 6 => nI (aK A).length
  | _ => nI (aV A).length
def sTold (x : Int32) (A : As) : As × zOut := if x.toInt < 0 ∨ 7 < x.toInt then (A, .inr 1) else (A, .inl (some (.int (tld A x.toNatClampNeg))))
def sDig (s : Int32) (A : As) : As × zOut := sView A s (fun ms => (A, .inl (some (.long (dgs ms)))))
def sChk (A : As) : As × zOut := if aF A = 1 then (A, .inr 0) else (A, .inl (some (.int 0)))
/-! the store holds a state -/
def RwS (ad : Nat → Nat) (M : zM) (r rc : Nat) (L : List Nat) (cap : Nat) : Prop := zI M 193 (ad r) = nI L.length ∧ rwl (zA M (ad rc)) L.length = L ∧ L.length ≤ cap
/-- snapshots: v the store's numbers, sv the maps -/
def Vws (D : Nat → Int32) (E : List Nat) (Ls : Nat → List zF) (v : Nat → Option Nat) (sv : Nat → Option Mp) (c : Nat) : Prop := (∀ i w, v i = some w → w ≤ c ∧ i < 8) ∧ ∀ i, i < 8 → (v i = none ∧ sv i = none) ∨ ∃ w ms, v i = some w ∧ sv i = some ms ∧ Srt ms ∧ ∀ k x, vw ((up E Ls 3).map (ent D)) w k x ↔ (k, x) ∈ ms
/-- what is always there -/
def Sc (ad : Nat → Nat) (M : zM) (A : As) (n : Nat) : Prop :=
  Lay ad M ∧ (zC M + 65 ≤ 600128 + n ∧ zS M + 390 ≤ 7301098 + 6 * n) ∧ RwS ad M 4 5 (aK A) 32 ∧ RwS ad M 6 7 (aV A) 200 ∧ (∃ pl, pl ≤ 32 ∧ zI M 193 (ad 8) = nI pl) ∧ (∃ t, t ≤ 600 * n ∧ zI M 369 (ad 0) = nI t) ∧ (∃ lf ct du cn, Pw ad M (1 - aF A) (aW A) lf ct du cn) ∧ Mw n (aM A) ∧ aC A ≤ n
def Sa (ad : Nat → Nat) (M : zM) (A : As) (n : Nat) : Prop := Sc ad M A n ∧
  ((aF A = 0 ∧ (∃ (E : List Nat) (Ls : Nat → List zF) (n1 : Nat) (v : Nat → Option Nat), Onn ad M E Ls (aC A) n1 (600 * n) 1 (aM A) ∧ n1 + (aS A).length ≤ n ∧ zVw M (ad 13) (ad 14) v ∧ Vws (zA M (ad 2)) E Ls v (aN A) (aC A)) ∧ zI M 364 (ad 0) = nI (msz (aM A)) ∧ zI M 365 (ad 0) = nI (aM A).length ∧ zI M 4 (ad 10) = nI (aO A) ∧ aO A ≤ 1 ∧ (aO A = 1 → ∃ offs len, Bt ad M offs len ∧ offs.map (esp (zA M (ad 11))) = aS A) ∧ (aO A = 0 → aS A = [])) ∨
   (aF A = 1 ∧ Ofn ad M (aC A) n (600 * n) (aM A) ∧ (∃ v, zVw M (ad 13) (ad 14) v) ∧ aO A = 0 ∧ aS A = [] ∧ ∀ i, aN A i = none))
