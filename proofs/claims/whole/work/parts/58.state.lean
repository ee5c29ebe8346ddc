/-! ===== the store's state: on, off ===== -/
/-- bounds that always hold: where the next block is sought, the writer's counts, the blank row, the tables for none -/
def Msc (ad : Nat → Nat) (M : zM) : Prop := (∃ nx, nx ≤ 512 ∧ zI M 71 (ad 17) = nI nx) ∧ (∃ s f, s ≤ 4095 ∧ f ≤ 3500 ∧ zI M 326 (ad 26) = nI s ∧ zI M 327 (ad 26) = nI f) ∧ (∀ i, i < 512 → zA M (ad 3) i = 0) ∧ ∀ l, l < 3 → Tb ad M (256 + l) [] none
/-- the memory of a store that is on -/
def Om (ad : Nat → Nat) (M : zM) (E : List Nat) (Ls : Nat → List zF) (ar us to to2 g cm c : Nat) : Prop :=
  Sto ad M E Ls ∧ (∃ tk, Tk ad M tk ∧ tk.Perm (bks Ls 3)) ∧ (∃ uu, Us ad M uu ∧ uu.Perm (idn Ls)) ∧ Rt ad M [] ∧ Msc ad M ∧ zI M 163 (ad 15) = nI us ∧ zI M 164 (ad 15) = nI ar ∧ zI M 165 (ad 15) = nI to ∧ zI M 166 (ad 15) = nI to2 ∧ zI M 100 (ad 30) = nI g ∧ zI M 102 (ad 30) = nI cm ∧ zI M 366 (ad 0) = nI c ∧ to ≤ 36 ∧ to2 ≤ 36
/-- which bytes of the log's places are blank: fl 1: all behind its end -/
def Blk (D : Nat → Int32) (ar us to to2 fl : Nat) : Prop := (fl = 1 → ∀ p, us ≤ p → p < 18432 → D (4096 + ar * 18432 + p) = 0) ∧ (fl ≠ 1 → to = 36) ∧ us ≤ 512 * to ∧ ∀ p, 512 * to2 ≤ p → p < 18432 → D (4096 + (1 - ar) * 18432 + p) = 0
/-- the store is on -/
def Onn (ad : Nat → Nat) (M : zM) (E : List Nat) (Ls : Nat → List zF) (c n gm fl : Nat) (m : Mp) : Prop := ∃ (ar us to to2 g cm : Nat) (rs : List (List Nat)), Om ad M E Ls ar us to to2 g cm c ∧ Dur (zA M (ad 2)) g ar us cm c n gm Ls rs E m ∧ Blk (zA M (ad 2)) ar us to to2 fl
/-- the store is off: what lasts, and what load needs -/
def Ofn (ad : Nat → Nat) (M : zM) (c n gm : Nat) (m : Mp) : Prop := (∃ (g ar us cm : Nat) (Ls : Nat → List zF) (rs : List (List Nat)) (E : List Nat), Dur (zA M (ad 2)) g ar us cm c n gm Ls rs E m) ∧ Msc ad M ∧ zI M 366 (ad 0) = nI c
/-- all views see the same -/
def Vsm (D D' : Nat → Int32) (E E' : List Nat) (Ls Ls' : Nat → List zF) (v : Nat → Option Nat) : Prop := ∀ w, (w = 2147483647 ∨ ∃ i, i < 8 ∧ v i = some w) → ∀ k x, vw ((up E' Ls' 3).map (ent D')) w k x ↔ vw ((up E Ls 3).map (ent D)) w k x
theorem Vsm.refl (D : Nat → Int32) (E : List Nat) (Ls : Nat → List zF) (v : Nat → Option Nat) : Vsm D D E E Ls Ls v := fun _ _ _ _ => Iff.rfl
theorem Vsm.trans {D D' D'' : Nat → Int32} {E E' E'' : List Nat} {Ls Ls' Ls'' : Nat → List zF} {v : Nat → Option Nat} (h : Vsm D D' E E' Ls Ls' v) (g : Vsm D' D'' E' E'' Ls' Ls'' v) : Vsm D D'' E E'' Ls Ls'' v := fun w hw k x => (g w hw k x).trans (h w hw k x)
theorem Msc.fl {ad : Nat → Nat} {c : Nat} {LF LA LB : List Nat} {M M1 : zM} (h : Msc ad M) (hF : Fl ad c LF LA LB M M1) (h1 : 71 ∉ LF := by decide) (h2 : 326 ∉ LF := by decide) (h3 : 327 ∉ LF := by decide) (h4 : 258 ∉ LF := by decide) (h5 : 259 ∉ LF := by decide) (h6 : 3 ∉ LA := by decide) (h7 : 64 ∉ LA := by decide) : Msc ad M1 := by
  obtain ⟨⟨nx, a1, a2⟩, ⟨s, f, b1, b2, b3, b4⟩, c1, c2⟩ := h
  exact ⟨⟨nx, a1, (hF.rI h1 (by decide)).trans a2⟩, ⟨s, f, b1, b2, (hF.rI h2 (by decide)).trans b3, (hF.rI h3 (by decide)).trans b4⟩, fun i hi => (congrFun (hF.rA (i := 3) h6 (by decide)) i).trans (c1 i hi), fun l hl => (c2 l hl).fl hF (by omega) h4 h5 h7⟩
theorem Om.fl {ad : Nat → Nat} {k : Nat} {LF LA LB : List Nat} {M M1 : zM} {E : List Nat} {Ls : Nat → List zF} {ar us to to2 g cm c : Nat} (h : Om ad M E Ls ar us to to2 g cm c) (hF : Fl ad k LF LA LB M M1) (h1 : 162 ∉ LF ∧ 131 ∉ LF ∧ 258 ∉ LF ∧ 259 ∉ LF := by decide) (h2 : 2 ∉ LA ∧ 16 ∉ LA ∧ 64 ∉ LA := by decide) (h3 : 35 ∉ LB ∧ 36 ∉ LB ∧ 37 ∉ LB := by decide) (h4 : 68 ∉ LF ∧ 69 ∉ LF ∧ 70 ∉ LF ∧ 71 ∉ LF ∧ 260 ∉ LF ∧ 163 ∉ LF ∧ 164 ∉ LF ∧ 165 ∉ LF ∧ 166 ∉ LF ∧ 100 ∉ LF ∧ 102 ∉ LF ∧ 366 ∉ LF ∧ 18 ∉ LA ∧ 3 ∉ LA ∧ 21 ∉ LB := by decide) (hm : Msc ad M1) : Om ad M1 E Ls ar us to to2 g cm c := by
  obtain ⟨a1, ⟨tk, a2, a2'⟩, ⟨uu, a3, a3'⟩, a4, a5, b1, b2, b3, b4, b5, b6, b7, b8, b9⟩ := h
  obtain ⟨q1, q2, q3, q4, q5, q6, q7, q8, q9, q10, q11, q12, q13, q14, q15⟩ := h4
  exact ⟨a1.fl hF h1 h2 h3, ⟨tk, a2.fl hF q2 q13, a2'⟩, ⟨uu, a3.fl hF q3 q5, a3'⟩, a4.fl hF q1 q15, hm, (hF.rI q6 (by decide)).trans b1, (hF.rI q7 (by decide)).trans b2, (hF.rI q8 (by decide)).trans b3, (hF.rI q9 (by decide)).trans b4, (hF.rI q10 (by decide)).trans b5, (hF.rI q11 (by decide)).trans b6, (hF.rI q12 (by decide)).trans b7, b8, b9⟩
theorem idn_len (Ls : Nat → List zF) : (idn Ls).length = bks' Ls 3 := by
  unfold idn
  rw [List.length_map]
  show ((([] ++ Ls 0) ++ Ls 1) ++ Ls 2).length = 0 + (Ls 0).length + (Ls 1).length + (Ls 2).length
  simp only [List.length_append, List.length_nil]
theorem lv_len {Ls : Nat → List zF} {l : Nat} (hl : l < 3) : (Ls l).length ≤ bks' Ls 3 := by
  have e : bks' Ls 3 = 0 + (Ls 0).length + (Ls 1).length + (Ls 2).length := rfl
  rcases (show l = 0 ∨ l = 1 ∨ l = 2 by omega) with h | h | h <;> subst h <;> omega
theorem pkf_len {Ls : Nat → List zF} {lo hi : Nat → Nat} : ∀ (i : Nat), (pkf Ls lo hi i).length ≤ bks' Ls i
  | 0 => Nat.le_refl _
  | i + 1 => by
    have h := pkf_len (Ls := Ls) (lo := lo) (hi := hi) i
    show (pkf Ls lo hi i ++ ((Ls i).take (hi i)).drop (lo i)).length ≤ bks' Ls i + (Ls i).length
    rw [List.length_append, List.length_drop, List.length_take]
    omega
theorem cut_take {A : List zF} {lo hi : Nat} (h : lo ≤ A.length) : (A.take lo ++ A.drop hi).take lo = A.take lo := by
  rw [List.take_append_of_le_length (by rw [List.length_take]; omega), List.take_take, Nat.min_self]
theorem cut_drop {A : List zF} {lo hi : Nat} (h : lo ≤ A.length) : (A.take lo ++ A.drop hi).drop lo = A.drop hi := by
  have e : lo = (A.take lo).length := by rw [List.length_take]; omega
  conv => lhs; arg 1; rw [e]
  exact List.drop_left
/-- files are written: the memory then -/
def J4 (ad : Nat → Nat) (M M4 : zM) (on wh ct du cn0 : Nat) (Ls : Nat → List zF) (T tk uu : List Nat) (ns : List zF) (nbs : List Nat) : Prop :=
  Fl ad 0 [34, 35, 36, 39, 69, 70, 71, 227, 228, 258, 259, 260, 325, 326, 327] [2, 18, 24, 25, 27, 28, 64] [29] M M4 ∧ (∃ lf cn, Pw ad M4 on wh lf ct du cn ∧ (cn = 1 ↔ cn0 = 1)) ∧ Tk ad M4 (nbs ++ tk) ∧ Us ad M4 ((ns.map (·.1)).reverse ++ uu) ∧ Msc ad M4 ∧ (∀ (k : Nat) (f : zF), ns[k]? = some f → f.1 < 256 ∧ zB M4 (ad 29) k = some (ad (tA f.1)) ∧ Tb ad M4 f.1 f.2.1 (fE f).getLast?) ∧ zI M4 325 (ad 26) = nI ns.length ∧ WX (zA M (ad 2)) tk (zA M4 (ad 2)) ns [] [] nbs ∧ (lvE ns).map (ent (zA M4 (ad 2))) = T.map (ent (zA M (ad 2))) ∧ ∀ l, l < 3 → Lv ad M4 l (Ls l)
theorem lv_ids {Ls : Nat → List zF} {l : Nat} {f : zF} (hl : l < 3) (hf : f ∈ Ls l) : f.1 ∈ idn Ls := by
  unfold idn
  refine List.mem_map_of_mem ?_
  show f ∈ (([] ++ Ls 0) ++ Ls 1) ++ Ls 2
  rcases (show l = 0 ∨ l = 1 ∨ l = 2 by omega) with h | h | h <;> subst h <;> simp [hf]
theorem Lv.ot {ad : Nat → Nat} {M M' : zM} {l c : Nat} {fs : List zF} {uu LF LA LB : List Nat} (h : Lv ad M l fs) (hl : l < 3) (hF : Fl ad c LF LA LB M M') (hO : Ot ad uu M M') (hu : ∀ f ∈ fs, f.1 ∈ uu) (h1 : 131 ∉ LF := by decide) (h2 : 35 ∉ LB ∧ 36 ∉ LB ∧ 37 ∉ LB := by decide) : Lv ad M' l fs := by
  obtain ⟨a1, a2, a3, a4⟩ := h
  have hb : zB M' (ad (35 + l)) = zB M (ad (35 + l)) := by
    refine hF.rB ?_ (by omega)
    rcases (show l = 0 ∨ l = 1 ∨ l = 2 by omega) with e | e | e <;> subst e
    · exact h2.1
    · exact h2.2.1
    · exact h2.2.2
  refine ⟨(hF.rI h1 (by omega)).trans a1, a2, fun i f hf => ?_, hO _ _ _ (by omega) (Or.inr (by omega)) a4⟩
  obtain ⟨b1, b2, b3⟩ := a3 i f hf
  exact ⟨b1, by rw [hb]; exact b2, hO _ _ _ (by omega) (Or.inl (hu f (List.mem_of_getElem? hf))) b3⟩
theorem J4.of {ad : Nat → Nat} {M M3 M4 : zM} {E T tk uu : List Nat} {Ls : Nat → List zF} {ar us to to2 g cm c on wh ct du cn0 : Nat} (hO : Om ad M E Ls ar us to to2 g cm c) (huu : uu.Perm (idn Ls)) (hF : Fl ad 0 [227, 228, 326, 327] [24, 25] [] M M3) (h : WEnd ad M3 uu tk on wh ct du cn0 (zA M (ad 2)) T M4) : ∃ ns nbs, J4 ad M M4 on wh ct du cn0 Ls T tk uu ns nbs := by
  obtain ⟨ns, nbs, lf, cn, s, f, a1, a2, a3, a4, a5, a6, a7, a8, a9, b1, b2, b3, b4, b5, b6⟩ := h
  have hM := hO.2.2.2.2.1
  refine ⟨ns, nbs, hF.mono.trans0 a1.mono, ⟨lf, cn, a3, a4⟩, a5, a8, ⟨a6, ⟨s, f, b5, b6, b3, b4⟩, fun i hi => ?_, fun l hl => ?_⟩, fun k f hk => ⟨(a7 k f hk).2.1, (a7 k f hk).1, (a7 k f hk).2.2⟩, a9, b1, b2, fun l hl => ?_⟩
  · rw [a1.rA (i := 3) (by decide) (by decide), hF.rA (i := 3) (by decide) (by decide)]; exact hM.2.2.1 i hi
  · exact a2 _ _ _ (by omega) (Or.inr (by omega)) ((hM.2.2.2 l hl).fl hF (by omega))
  · exact ((hO.1.2.2.2 l hl).1.fl hF hl).ot hl a1 a2 (fun f hf => huu.mem_iff.mpr (lv_ids hl hf))
/-- while the levels are cut -/
def J5 (ad : Nat → Nat) (M4 M5 : zM) (Ls : Nat → List zF) (lo hi : Nat → Nat) (i : Nat) : Prop := Fl ad 0 [68, 131, 133] [] [21, 35, 36, 37] M4 M5 ∧ (∀ l, l < 3 → Lv ad M5 l (if l < i then cutL Ls lo hi l else Ls l)) ∧ Rt ad M5 ((pkf Ls lo hi i).map (·.1)) ∧ (∀ l, l < 3 → zI M5 132 (ad (32 + l)) = nI (lo l)) ∧ ∀ l, i ≤ l → l < 3 → Pk ad M5 l (lo l) (hi l)
theorem J5.step {ad : Nat → Nat} {M4 M5 M6 : zM} {Ls : Nat → List zF} {lo hi : Nat → Nat} {i : Nat} (hL : Lay ad M5) (h : J5 ad M4 M5 Ls lo hi i) (hi3 : i < 3) (h1 : Lv ad M6 i (cutL Ls lo hi i)) (h2 : Rt ad M6 ((pkf Ls lo hi i).map (·.1) ++ ids (Ls i) (lo i) (hi i))) (h4 : ∀ l' fs', l' < 3 → l' ≠ i → Lv ad M5 l' fs' → Lv ad M6 l' fs') (h5 : Fr ad 0 (fun f j => f = 68 ∨ ((f = 131 ∨ f = 133) ∧ j = 32 + i)) (fun _ => False) (fun j => j = 21 ∨ j = 35 + i) M5 M6) : J5 ad M4 M6 Ls lo hi (i + 1) := by
  obtain ⟨a1, a2, a3, a4, a5⟩ := h
  have hF : Fl ad 0 [68, 131, 133] [] [21, 35, 36, 37] M5 M6 := h5.mono (fun f j z => by rcases z with z | ⟨z | z, -⟩ <;> subst z <;> decide) (fun j z => z.elim) (fun j z => by
    rcases z with z | z
    · subst z; decide
    · rcases (show i = 0 ∨ i = 1 ∨ i = 2 by omega) with e | e | e <;> subst e <;> subst z <;> decide)
  refine ⟨a1.trans0 hF, fun l hl => ?_, ?_, fun l hl => (hF.rI (by decide) (by omega)).trans (a4 l hl), fun l hl hl3 => ⟨(hF.rI (by decide) (by omega)).trans (a5 l (by omega) hl3).1, ?_⟩⟩
  · by_cases e : l = i
    · subst e; rw [if_pos (by omega)]; exact h1
    · have := h4 l _ hl e (a2 l hl)
      by_cases e2 : l < i
      · rw [if_pos e2] at this; rw [if_pos (by omega)]; exact this
      · rw [if_neg e2] at this; rw [if_neg (by omega)]; exact this
  · show Rt ad M6 ((pkf Ls lo hi i ++ ((Ls i).take (hi i)).drop (lo i)).map (·.1))
    rw [List.map_append]; exact h2
  · refine (h5.rI 133 (32 + l) ?_ (by omega)).trans (a5 l (by omega) hl3).2
    rintro (z | ⟨-, z⟩)
    · cases z
    · omega
/-- the new files are in their level -/
def J6 (ad : Nat → Nat) (M4 M6 : zM) (Ls : Nat → List zF) (lo hi : Nat → Nat) (t : Nat) (ns : List zF) : Prop := Fl ad 0 [68, 131, 133] [] [21, 35, 36, 37] M4 M6 ∧ (∀ l, l < 3 → Lv ad M6 l (newL Ls lo hi t ns l)) ∧ Rt ad M6 ((pkf Ls lo hi 3).map (·.1))
theorem J6.of {ad : Nat → Nat} {M4 M5 M6 : zM} {Ls : Nat → List zF} {lo hi : Nat → Nat} {t : Nat} {ns : List zF} (h : J5 ad M4 M5 Ls lo hi 3) (ht : t < 3) (hlo : lo t ≤ (Ls t).length) (h1 : Lv ad M6 t ((cutL Ls lo hi t).take (lo t) ++ (ns ++ (cutL Ls lo hi t).drop (lo t)))) (h4 : ∀ l' fs', l' < 3 → l' ≠ t → Lv ad M5 l' fs' → Lv ad M6 l' fs') (h5 : Fr ad 0 (fun f j => f = 131 ∧ j = 32 + t) (fun _ => False) (fun j => j = 35 + t) M5 M6) : J6 ad M4 M6 Ls lo hi t ns := by
  obtain ⟨a1, a2, a3, a4, a5⟩ := h
  have hF : Fl ad 0 [131] [] [35, 36, 37] M5 M6 := h5.mono (fun f j z => by rw [z.1]; decide) (fun j z => z.elim) (fun j z => by
    rcases (show t = 0 ∨ t = 1 ∨ t = 2 by omega) with e | e | e <;> subst e <;> subst z <;> decide)
  refine ⟨a1.trans0 hF.mono, fun l hl => ?_, a3.fl hF⟩
  by_cases e : l = t
  · subst e
    rw [newL_t]
    unfold cutL at h1
    rw [cut_take hlo, cut_drop hlo] at h1
    exact h1
  · rw [newL_ne _ _ _ _ e]
    have := h4 l _ hl e (a2 l hl)
    rw [if_pos hl] at this
    exact this
