/-! ===== LsmStore$Head: load ===== -/
theorem Rc.mid {r : Nat → Int32} {X A B C : List Nat} (h : Rc r X) (e : X = A ++ (B ++ C)) : Rc (fun i => r (A.length + i)) B := by
  rw [e] at h
  exact h.right.left
theorem eLs_up {Ls : Nat → List zF} {l k : Nat} (h : l ≤ k) : ∃ C, eLs Ls k = eLs Ls l ++ C := by
  induction k with
  | zero => exact ⟨[], by rw [show l = 0 by omega, List.append_nil]⟩
  | succ k ih =>
    rcases Nat.lt_or_ge l (k + 1) with e | e
    · obtain ⟨C, hC⟩ := ih (by omega)
      exact ⟨C ++ eLv (Ls k), by show eLs Ls k ++ eLv (Ls k) = _; rw [hC, List.append_assoc]⟩
    · exact ⟨[], by rw [show l = k + 1 by omega, List.append_nil]⟩
theorem eLs_lv {Ls : Nat → List zF} {l : Nat} (h : l < 3) : ∃ C, eLs Ls 3 = eLs Ls l ++ (nb (Ls l).length 2 ++ C) := by
  obtain ⟨C, hC⟩ := eLs_up (Ls := Ls) (show l + 1 ≤ 3 by omega)
  refine ⟨((Ls l).map (fun f => eTb f.2.1)).flatten ++ C, ?_⟩
  rw [hC]
  show eLs Ls l ++ (nb (Ls l).length 2 ++ ((Ls l).map (fun f => eTb f.2.1)).flatten) ++ C = _
  simp only [List.append_assoc]
theorem eLs_tb {Ls : Nat → List zF} {l n : Nat} {f : zF} (h : l < 3) (hf : (Ls l)[n]? = some f) : ∃ C, eLs Ls 3 = eLs Ls l ++ (nb (Ls l).length 2 ++ ((((Ls l).take n).map (fun f => eTb f.2.1)).flatten ++ (eTb f.2.1 ++ C))) := by
  obtain ⟨C, hC⟩ := eLs_up (Ls := Ls) (show l + 1 ≤ 3 by omega)
  refine ⟨(((Ls l).drop (n + 1)).map (fun f => eTb f.2.1)).flatten ++ C, ?_⟩
  rw [hC]
  show eLs Ls l ++ (nb (Ls l).length 2 ++ ((Ls l).map (fun f => eTb f.2.1)).flatten) ++ C = _
  have e : ((Ls l).map (fun f => eTb f.2.1)).flatten = (((Ls l).take n).map (fun f => eTb f.2.1)).flatten ++ (eTb f.2.1 ++ (((Ls l).drop (n + 1)).map (fun f => eTb f.2.1)).flatten) := by
    rw [← List.append_assoc, ← tb_take hf, ← List.flatten_append, ← List.map_append, List.take_append_drop]
  rw [e]
  simp only [List.append_assoc]
/-- how many files the levels below have -/
def bks' (Ls : Nat → List zF) : Nat → Nat
  | 0 => 0
  | l + 1 => bks' Ls l + (Ls l).length
def LD (ad : Nat → Nat) (M0 M1 : zM) (Ls : Nat → List zF) (st l n : Nat) : Prop :=
  Fl ad 0 [69, 70, 99, 131, 258, 259, 260] [18, 64] [35, 36, 37] M0 M1 ∧ ∃ (Fs : Nat → List zF) (us tk : List Nat), (∀ k, k < 3 → Lv ad M1 k (Fs k)) ∧ Us ad M1 us ∧ Tk ad M1 tk ∧ tk.Perm (bks Ls l ++ bk ((Ls l).take n)) ∧ us.length = (bks' Ls l) + n ∧ (∀ k, k < 3 → ∀ f ∈ Fs k, f.1 ∈ us) ∧ (∀ k, k < l → (Fs k).map (·.2) = (Ls k).map (·.2)) ∧ (Fs l).map (·.2) = ((Ls l).take n).map (·.2) ∧ (∀ k, l < k → Fs k = []) ∧ (∀ a b, a < 3 → b < 3 → a ≠ b → ∀ f ∈ Fs a, ∀ g ∈ Fs b, f.1 ≠ g.1) ∧ ∀ k, k < 3 → ((Fs k).map (·.1)).Nodup
theorem bks'_le {Ls : Nat → List zF} {l k : Nat} (h : l ≤ k) : bks' Ls l ≤ bks' Ls k := by
  induction k with
  | zero => rw [show l = 0 by omega]; exact Nat.le_refl _
  | succ k ih =>
    rcases Nat.lt_or_ge l (k + 1) with e | e
    · exact Nat.le_trans (ih (by omega)) (Nat.le_add_right _ _)
    · rw [show l = k + 1 by omega]; exact Nat.le_refl _
theorem map2_len {A B : List zF} (h : A.map (·.2) = B.map (·.2)) : A.length = B.length := by
  have := congrArg List.length h
  rwa [List.length_map, List.length_map] at this
/-- a file more -/
theorem LD.add {ad : Nat → Nat} {M0 M1 M2 : zM} {Ls : Nat → List zF} {st l n cu : Nat} {f : zF} {Fs : Nat → List zF} {us tk : List Nat} (hF0 : Fl ad 0 [69, 70, 99, 131, 258, 259, 260] [18, 64] [35, 36, 37] M0 M1) (hl : l < 3) (hf : (Ls l)[n]? = some f) (a1 : ∀ k, k < 3 → Lv ad M1 k (Fs k)) (a4 : tk.Perm (bks Ls l ++ bk ((Ls l).take n))) (a5 : us.length = bks' Ls l + n) (a6 : ∀ k, k < 3 → ∀ f ∈ Fs k, f.1 ∈ us) (a7 : ∀ k, k < l → (Fs k).map (·.2) = (Ls k).map (·.2)) (a8 : (Fs l).map (·.2) = ((Ls l).take n).map (·.2)) (a9 : ∀ k, l < k → Fs k = []) (a10 : ∀ a b, a < 3 → b < 3 → a ≠ b → ∀ f ∈ Fs a, ∀ g ∈ Fs b, f.1 ≠ g.1) (a11 : ∀ k, k < 3 → ((Fs k).map (·.1)).Nodup) (h : RTok ad M1 M2 l cu us tk f.2.1 f.2.2 (Fs l)) : LD ad M0 M2 Ls st l (n + 1) := by
  obtain ⟨j, hj1, hj2, hF, hc, hTk, hU, hV, hO⟩ := h
  have hnj : ∀ k, k < 3 → ∀ g ∈ Fs k, g.1 ≠ j := fun k hk g hg e => hj1 (e ▸ a6 k hk g hg)
  refine ⟨hF0.trans0 (hF.mono (by decide) (by decide) (fun x hx => by
    rcases (show l = 0 ∨ l = 1 ∨ l = 2 by omega) with e | e | e <;> rw [e] at hx <;> rw [List.mem_singleton.mp hx] <;> decide)), fun k => if k = l then Fs l ++ [(j, f.2.1, f.2.2)] else Fs k, j :: us, f.2.1.reverse ++ tk, fun k hk => ?_, hU, hTk, ?_, by rw [List.length_cons, a5]; omega, fun k hk g hg => ?_, fun k hk => ?_, ?_, fun k hk => ?_, fun a b ha hb hab g hg g' hg' => ?_, fun k hk => ?_⟩
  · dsimp only
    by_cases e : k = l
    · rw [if_pos e, e]; exact hV
    · rw [if_neg e]; exact hO k (Fs k) hk e (hnj k hk) (a1 k hk)
  · rw [bk_take hf, ← List.append_assoc]
    exact ((List.reverse_perm f.2.1).append a4).trans List.perm_append_comm
  · dsimp only at hg
    by_cases e : k = l
    · rw [if_pos e] at hg
      rcases List.mem_append.mp hg with hg | hg
      · exact List.mem_cons_of_mem _ (a6 l hl g hg)
      · cases List.mem_singleton.mp hg; exact List.mem_cons_self
    · rw [if_neg e] at hg; exact List.mem_cons_of_mem _ (a6 k hk g hg)
  · show (if k = l then _ else Fs k).map _ = _
    rw [if_neg (by omega)]; exact a7 k hk
  · show (if l = l then _ else Fs l).map _ = _
    rw [if_pos rfl, List.map_append, a8, List.take_succ, hf, List.map_append]; rfl
  · show (if k = l then _ else Fs k) = _
    rw [if_neg (by omega)]; exact a9 k hk
  · dsimp only at hg hg'
    by_cases e1 : a = l
    · rw [if_pos e1] at hg
      rw [if_neg (by omega)] at hg'
      rcases List.mem_append.mp hg with hg | hg
      · exact a10 l b hl hb (by omega) g hg g' hg'
      · cases List.mem_singleton.mp hg; exact (hnj b hb g' hg').symm
    · rw [if_neg e1] at hg
      by_cases e2 : b = l
      · rw [if_pos e2] at hg'
        rcases List.mem_append.mp hg' with hg' | hg'
        · exact a10 a l ha hl (by omega) g hg g' hg'
        · cases List.mem_singleton.mp hg'; exact hnj a ha g hg
      · rw [if_neg e2] at hg'; exact a10 a b ha hb hab g hg g' hg'
  · show ((if k = l then _ else Fs k).map _).Nodup
    by_cases e : k = l
    · rw [if_pos e, List.map_append]
      exact List.nodup_append.mpr ⟨a11 l hl, List.pairwise_singleton _ _, fun x hx y hy e2 => by
        obtain ⟨g, hg, rfl⟩ := List.mem_map.mp hx
        cases List.mem_singleton.mp hy
        exact hnj l hl g hg e2⟩
    · rw [if_neg e]; exact a11 k hk
theorem LD.up {ad : Nat → Nat} {M0 M1 : zM} {Ls : Nat → List zF} {st l : Nat} (h : LD ad M0 M1 Ls st l (Ls l).length) : LD ad M0 M1 Ls st (l + 1) 0 := by
  obtain ⟨h1, Fs, us, tk, a1, a2, a3, a4, a5, a6, a7, a8, a9, a10, a11⟩ := h
  rw [List.take_length] at a4 a8
  refine ⟨h1, Fs, us, tk, a1, a2, a3, ?_, a5, a6, fun k hk => ?_, ?_, fun k hk => a9 k (by omega), a10, a11⟩
  · show tk.Perm ((bks Ls l ++ bk (Ls l)) ++ bk ((Ls (l + 1)).take 0))
    rw [List.take_zero]
    show tk.Perm ((bks Ls l ++ bk (Ls l)) ++ [])
    rw [List.append_nil]; exact a4
  · rcases Nat.lt_or_ge k l with e | e
    · exact a7 k e
    · rw [show k = l by omega]; exact a8
  · rw [a9 (l + 1) (by omega), List.take_zero]
set_option maxRecDepth 100000 in
set_option maxHeartbeats 4000000 in
theorem l_Head_load1 {G : zG} {ad : Nat → Nat} {d k0 n0 st g ar cm g1 g2 : Nat} {Ls : Nat → List zF} {M : zM} {Q : zOut → zM → Prop} (hd : 5 ≤ d) (hcb : zC M ≤ 600128 ∧ zS M ≤ 7301098) (hL : Lay ad M) (hst : st ≤ 2048) (hrc : Rc (fun i => (zA M (ad 2)) (st + i)) (hdB g ar cm Ls)) (hsz : (eLs Ls 3).length ≤ 1900) (hbr : Br (bks Ls 3)) (hT : ∀ l, l < 3 → ∀ f ∈ Ls l, TC (zA M (ad 2)) f.2.1 f.2.2) (hcn : bks' Ls 3 ≤ 200) {l : Nat} (hl : l < 3) (hk : ∀ M1 : zM, LD ad M M1 Ls st l (Ls l).length → zI M1 99 (ad 30) = nI (st + (11 + (eLs Ls (l + 1)).length)) → zw G mX3_load d k0 n0 Q 130 [some (.ref ((ad 30))), some (.ref ((ad 22))), some (.ref ((ad 17))), some (.int (nI g1)), some (.int (nI g2)), some (.int (nI l)), none, none] [] M1) : ∀ (m n : Nat) (M1 : zM), (Ls l).length - n = m → n ≤ (Ls l).length → LD ad M M1 Ls st l n → zI M1 99 (ad 30) = nI (st + (11 + ((eLs Ls l).length + (2 + (((Ls l).take n).map (fun f => eTb f.2.1)).flatten.length)))) → zw G mX3_load d k0 n0 Q 108 [some (.ref ((ad 30))), some (.ref ((ad 22))), some (.ref ((ad 17))), some (.int (nI g1)), some (.int (nI g2)), some (.int (nI l)), some (.int (nI ((Ls l).length))), some (.int (nI n))] [] M1 := by
  have hfu2 : bks' Ls l + (Ls l).length ≤ bks' Ls 3 := bks'_le (Ls := Ls) (show l + 1 ≤ 3 by omega)
  intro m
  induction m using Nat.strongRecOn with
  | _ m ih =>
    intro n M1 hm hn hD hcu1
    refine zr_iload dX3_load_108 rfl ?_
    refine zr_iload dX3_load_110 rfl ?_
    refine zr_icmp_geN 130 dX3_load_112 (by decide) (by omega) (by omega) (fun h112 => ?_) (fun h112 => ?_)
    · have e9 : n = (Ls l).length := by omega
      subst e9
      rw [List.take_length] at hcu1
      refine zr_drop 6 rfl ?_
      refine zr_drop 7 rfl ?_
      exact hk M1 hD (hcu1.trans (by congr 1; show _ = st + (11 + (eLs Ls l ++ (nb (Ls l).length 2 ++ ((Ls l).map (fun f => eTb f.2.1)).flatten)).length); rw [List.length_append, List.length_append, nb_len]))
    · obtain ⟨f, hf⟩ : ∃ f, (Ls l)[n]? = some f := ⟨_, List.getElem?_eq_getElem (by omega)⟩
      have hfm := List.mem_of_getElem? hf
      obtain ⟨hF1, Fs, us, tk, a1, a2, a3, a4, a5, a6, a7, a8, a9, a10, a11⟩ := id hD
      have hL1 := hF1.lay hL
      have hcb1 := hF1.cb hcb
      have eD1 : zA M1 (ad 2) = zA M (ad 2) := hF1.rA (by decide) (by decide)
      obtain ⟨C, hC⟩ := eLs_tb hl hf
      have hsz1 := congrArg List.length hC
      simp only [List.length_append, nb_len, eTb_len] at hsz1
      have hTC := hT l hl f hfm
      have h9 : f.2.1.length ≤ 9 := by have := hTC.1; have := hTC.2.2.1; omega
      have hful : bks' Ls l + (Ls l).length ≤ bks' Ls 3 := bks'_le (Ls := Ls) (show l + 1 ≤ 3 by omega)
      have hFl : (Fs l).length = n := by have := map2_len a8; rw [List.length_take] at this; omega
      have hbr9 : Br (f.2.1 ++ tk) := by
        have hsub : (bks Ls l ++ bk ((Ls l).take n) ++ f.2.1).Sublist (bks Ls 3) := by
          rw [List.append_assoc, ← bk_take hf]
          exact (List.Sublist.append (List.Sublist.refl _) (bk_sub _)).trans (bks_le (i := l + 1) (by omega))
        exact (hbr.sub hsub).perm (((a4.symm.append (List.Perm.refl _)).trans List.perm_append_comm))
      have hrc9 : Rc (fun i => zA M1 (ad 2) ((st + (11 + ((eLs Ls l).length + (2 + (((Ls l).take n).map (fun f => eTb f.2.1)).flatten.length)))) + i)) (eTb f.2.1) := by
        rw [eD1]
        refine (hrc.mid (A := nb g 4 ++ (nb (11 + (eLs Ls 3).length) 2 ++ (nb ar 1 ++ (nb cm 4 ++ (eLs Ls l ++ (nb (Ls l).length 2 ++ (((Ls l).take n).map (fun f => eTb f.2.1)).flatten)))))) (B := eTb f.2.1) (C := C ++ [165]) (by unfold hdB; rw [hC]; simp only [List.append_assoc])).congr (fun i _ => ?_)
        show zA M (ad 2) _ = zA M (ad 2) _
        congr 1
        simp only [List.length_append, nb_len]
        omega
      refine zr_aload_n dX3_load_115 rfl ?_
      refine zr_aload_n dX3_load_116 rfl ?_
      refine zr_iload dX3_load_117 rfl ?_
      refine zr_aaldK dX3_load_119 (Or.inl (hL1.K 22 18)) (hL1.N 22 3) (by omega) (by omega) (hL1.lv hl) ?_
      refine zr_aload_n dX3_load_120 rfl ?_
      refine zr_callV (md' := mX3_readTable) (As := [.ref ((ad (32 + l))), .ref ((ad 17))]) dX3_load_121 mlX3_92 okX3_readTable rfl inX3_readTable slX3_readTable (by decide) (hL1.K 30 4) rfl (by omega) (Nat.le_of_ble_eq_true rfl) hcb1 (c_Head_readTable (d := d - 1) (by omega) hcb1 hL1 hl (a1 l hl) (a6 l hl) (by omega) a2 (by omega) a3 hbr9 (by rw [eD1]; exact hTC) h9 hcu1 (by omega) hrc9) (fun k M9 h => by cases h.1) (fun v M2 hq => ?_)
      obtain ⟨e0, hRT⟩ := hq
      cases e0
      have hD2 := LD.add (st := st) hF1 hl hf a1 a4 a5 a6 a7 a8 a9 a10 a11 hRT
      have hcu2 : zI M2 99 (ad 30) = nI (st + (11 + ((eLs Ls l).length + (2 + (((Ls l).take (n + 1)).map (fun f => eTb f.2.1)).flatten.length)))) := by
        obtain ⟨_, _, _, _, hc, _⟩ := hRT
        rw [hc, tb_take hf, List.length_append]
        congr 1
        omega
      refine zr_iincN (n := 1) (lv' := [some (.ref ((ad 30))), some (.ref ((ad 22))), some (.ref ((ad 17))), some (.int (nI g1)), some (.int (nI g2)), some (.int (nI l)), some (.int (nI ((Ls l).length))), some (.int (nI (n + 1)))]) dX3_load_124 (Nat.le_of_ble_eq_true rfl) (Nat.le_of_ble_eq_true rfl) rfl rfl rfl ?_
      refine zr_goto 108 dX3_load_127 (by decide) ?_
      exact ih _ (by omega) (n + 1) M2 rfl (by omega) hD2 hcu2
set_option maxRecDepth 100000 in
set_option maxHeartbeats 4000000 in
theorem l_Head_load2 {G : zG} {ad : Nat → Nat} {d k0 n0 st g ar cm g1 g2 : Nat} {Ls : Nat → List zF} {M : zM} {Q : zOut → zM → Prop} (hd : 5 ≤ d) (hcb : zC M ≤ 600128 ∧ zS M ≤ 7301098) (hL : Lay ad M) (hst : st ≤ 2048) (hrc : Rc (fun i => (zA M (ad 2)) (st + i)) (hdB g ar cm Ls)) (hsz : (eLs Ls 3).length ≤ 1900) (hbr : Br (bks Ls 3)) (hT : ∀ l, l < 3 → ∀ f ∈ Ls l, TC (zA M (ad 2)) f.2.1 f.2.2) (hcn : bks' Ls 3 ≤ 200) (hq0 : ∀ M1 : zM, LD ad M M1 Ls st 3 0 → Q (.inl none) M1) : ∀ (m l : Nat) (M1 : zM), 3 - l = m → l ≤ 3 → LD ad M M1 Ls st l 0 → zI M1 99 (ad 30) = nI (st + (11 + (eLs Ls l).length)) → zw G mX3_load d k0 n0 Q 85 [some (.ref ((ad 30))), some (.ref ((ad 22))), some (.ref ((ad 17))), some (.int (nI g1)), some (.int (nI g2)), some (.int (nI l)), none, none] [] M1 := by
  intro m
  induction m using Nat.strongRecOn with
  | _ m ih =>
    intro l M1 hm hl3 hD hcu1
    have hF1 := hD.1
    have hL1 := hF1.lay hL
    have hcb1 := hF1.cb hcb
    refine zr_iload dX3_load_85 rfl ?_
    refine zr_aload_n dX3_load_87 rfl ?_
    refine zr_alenN dX3_load_88 (hL1.K 22 18) (by decide) (hL1.N 22 3) ?_
    refine zr_icmp_geN 136 dX3_load_89 (by decide) (by omega) (by omega) (fun h89 => ?_) (fun h89 => ?_)
    · refine zr_vret dX3_load_136 rfl ?_
      have e9 : l = 3 := by omega
      subst e9
      exact hq0 M1 hD
    · have hl : l < 3 := by omega
      have eD1 : zA M1 (ad 2) = zA M (ad 2) := hF1.rA (by decide) (by decide)
      obtain ⟨C, hC⟩ := eLs_lv (Ls := Ls) hl
      have hsz1 := congrArg List.length hC
      simp only [List.length_append, nb_len] at hsz1
      have hful : bks' Ls l + (Ls l).length ≤ bks' Ls 3 := bks'_le (Ls := Ls) (show l + 1 ≤ 3 by omega)
      have hn9 : nuN (zA M1 (ad 2)) (st + (11 + (eLs Ls l).length)) 2 = (Ls l).length := by
        rw [eD1]
        refine nuN_nb ((hrc.mid (A := nb g 4 ++ (nb (11 + (eLs Ls 3).length) 2 ++ (nb ar 1 ++ (nb cm 4 ++ eLs Ls l)))) (B := nb (Ls l).length 2) (C := C ++ [165]) (by unfold hdB; rw [hC]; simp only [List.append_assoc])).congr (fun i _ => ?_)) (by omega)
        show zA M (ad 2) _ = zA M (ad 2) _
        congr 1
        simp only [List.length_append, nb_len]
        omega
      refine zr_aload_n dX3_load_92 rfl ?_
      refine zr_iconst (v := nI 2) dX3_load_93 (by decide) ?_
      refine zr_callV (md' := mX3_read) (As := [.int (nI 2)]) dX3_load_94 mlX3_89 okX3_read rfl inX3_read slX3_read (by decide) (hL1.K 30 4) rfl (by omega) (Nat.le_of_ble_eq_true rfl) hcb1 (c_Head_read (d := d - 1) (by omega) hcb1 hL1 hcu1 (by omega) (by decide) (by rw [hn9]; omega)) (fun k M1 h => by cases h.1) (fun v M2 hq => ?_)
      obtain ⟨e0, e2⟩ := hq
      cases e0
      rw [hn9]
      have hF2 : Fl ad 0 [99] [] [] M1 M2 := by rw [e2]; exact (Fl.refl ad _ _ _ M1).put hL1 (f := 99) (i := 30)
      have hL2 := hF2.lay hL1
      have hcb2 := hF2.cb hcb1
      have hD2 : LD ad M M2 Ls st l 0 := by
        obtain ⟨x1, Fs, us, tk, a1, a2, a3, a4⟩ := hD
        exact ⟨x1.trans0 hF2.mono, Fs, us, tk, fun k hk => (a1 k hk).fl hF2 hk, a2.fl hF2, a3.fl hF2, a4⟩
      have hcu2 : zI M2 99 (ad 30) = nI (st + (11 + ((eLs Ls l).length + (2 + (((Ls l).take 0).map (fun f => eTb f.2.1)).flatten.length)))) := by
        rw [e2, List.take_zero]
        refine (zput_hit _ _ _ _).trans ?_
        congr 1
      refine zr_sipush (v := nI 256) dX3_load_97 (by decide) ?_
      refine zr_callS (md' := mJ9_min_7cf53) (As := [.int (nI ((Ls l).length)), .int (nI 256)]) dX3_load_100 mlX3_42 okJ9_min_7cf53 rfl stJ9_min_7cf53 rfl (by omega) (Nat.le_of_ble_eq_true rfl) hcb2 (c_min (d := d - 1) hcb2 (by omega) (by decide)) (fun k M1 h => by cases h.1) (fun v M9 hq => ?_)
      obtain ⟨e0, e9⟩ := hq
      cases e0
      rw [e9, Nat.min_eq_left (by omega)]
      refine zr_istore (lv' := [some (.ref ((ad 30))), some (.ref ((ad 22))), some (.ref ((ad 17))), some (.int (nI g1)), some (.int (nI g2)), some (.int (nI l)), some (.int (nI ((Ls l).length))), none]) dX3_load_103 (Nat.le_of_ble_eq_true rfl) (Nat.le_of_ble_eq_true rfl) rfl rfl ?_
      refine zr_iconst (v := nI 0) dX3_load_105 (by decide) ?_
      refine zr_istore (lv' := [some (.ref ((ad 30))), some (.ref ((ad 22))), some (.ref ((ad 17))), some (.int (nI g1)), some (.int (nI g2)), some (.int (nI l)), some (.int (nI ((Ls l).length))), some (.int (nI 0))]) dX3_load_106 (Nat.le_of_ble_eq_true rfl) (Nat.le_of_ble_eq_true rfl) rfl rfl ?_
      refine l_Head_load1 hd hcb hL hst hrc hsz hbr hT hcn hl (fun M3 hD3 hcu3 => ?_) _ 0 M2 rfl (by omega) hD2 hcu2
      refine zr_iincN (n := 1) (lv' := [some (.ref ((ad 30))), some (.ref ((ad 22))), some (.ref ((ad 17))), some (.int (nI g1)), some (.int (nI g2)), some (.int (nI (l + 1))), none, none]) dX3_load_130 (Nat.le_of_ble_eq_true rfl) (Nat.le_of_ble_eq_true rfl) rfl rfl rfl ?_
      refine zr_goto 85 dX3_load_133 (by decide) ?_
      exact ih _ (by omega) (l + 1) M3 rfl (by omega) hD3.up hcu3
set_option maxRecDepth 100000 in
set_option maxHeartbeats 4000000 in
theorem c_Head_load0 {G : zG} {ad : Nat → Nat} {d g1 g2 : Nat} {M : zM} (hd : 2 ≤ d) (hcb : zC M ≤ 600128 ∧ zS M ≤ 7301098) (hL : Lay ad M) (hg1 : gnA (zA M (ad 2)) 0 = g1) (hg2 : gnA (zA M (ad 2)) 2048 = g2) (hgb1 : g1 < 2 ^ 30) (hgb2 : g2 < 2 ^ 30) (hlt0 : nuN (zA M (ad 2)) 0 4 < 2 ^ 31) (hlt1 : nuN (zA M (ad 2)) 2048 4 < 2 ^ 31) (hz : g1 = 0 ∧ g2 = 0)  : zMet G mX3_load d [.ref ((ad 30)), .ref ((ad 22)), .ref ((ad 17))] M (fun o M' => o = .inl none ∧ M' = zput (zput (zput M 100 (ad 30) (nI 0)) 101 (ad 30) (nI 0)) 102 (ad 30) (nI 0)) := by
  refine zMet_of (by decide +kernel) (Nat.le_of_ble_eq_true rfl) rfl hcb ?_
  show zw G mX3_load d _ _ _ 0 [some (.ref ((ad 30))), some (.ref ((ad 22))), some (.ref ((ad 17))), none, none, none, none, none] [] M
  refine zr_aload_n dX3_load_0 rfl ?_
  refine zr_iconst (v := nI 0) dX3_load_1 (by decide) ?_
  refine zr_callV (md' := mX3_generationAt) (As := [.int (nI 0)]) dX3_load_2 mlX3_79 okX3_generationAt rfl inX3_generationAt slX3_generationAt (by decide) (hL.K 30 4) rfl (by omega) (Nat.le_of_ble_eq_true rfl) hcb (c_Head_generationAt (d := d - 1) (by omega) hcb hL (by decide) hlt0) (fun k M1 h => by cases h.1) (fun v M9 hq => ?_)
  obtain ⟨e0, e9⟩ := hq
  cases e0
  rw [e9]
  rw [hg1]
  refine zr_istore_n (lv' := [some (.ref ((ad 30))), some (.ref ((ad 22))), some (.ref ((ad 17))), some (.int (nI g1)), none, none, none, none]) dX3_load_5 (Nat.le_of_ble_eq_true rfl) (Nat.le_of_ble_eq_true rfl) rfl rfl ?_
  refine zr_aload_n dX3_load_6 rfl ?_
  refine zr_sipush (v := nI 2048) dX3_load_7 (by decide) ?_
  refine zr_callV (md' := mX3_generationAt) (As := [.int (nI 2048)]) dX3_load_10 mlX3_79 okX3_generationAt rfl inX3_generationAt slX3_generationAt (by decide) (hL.K 30 4) rfl (by omega) (Nat.le_of_ble_eq_true rfl) hcb (c_Head_generationAt (d := d - 1) (by omega) hcb hL (by decide) hlt1) (fun k M1 h => by cases h.1) (fun v M9 hq => ?_)
  obtain ⟨e0, e9⟩ := hq
  cases e0
  rw [e9]
  rw [hg2]
  refine zr_istore (lv' := [some (.ref ((ad 30))), some (.ref ((ad 22))), some (.ref ((ad 17))), some (.int (nI g1)), some (.int (nI g2)), none, none, none]) dX3_load_13 (Nat.le_of_ble_eq_true rfl) (Nat.le_of_ble_eq_true rfl) rfl rfl ?_
  refine zr_aload_n dX3_load_15 rfl ?_
  refine zr_iload_n dX3_load_16 rfl ?_
  refine zr_iload dX3_load_17 rfl ?_
  refine zr_callS (md' := mJ9_max_7cf53) (As := [.int (nI g1), .int (nI g2)]) dX3_load_19 mlX3_83 okJ9_max_7cf53 rfl stJ9_max_7cf53 rfl (by omega) (Nat.le_of_ble_eq_true rfl) hcb (c_max (d := d - 1) hcb (by omega) (by omega)) (fun k M1 h => by cases h.1) (fun v M9 hq => ?_)
  obtain ⟨e0, e9⟩ := hq
  cases e0
  rw [e9]
  refine zr_putI dX3_load_22 lkX3_23 (by decide) (by decide) rfl rfl (hL.K 30 4) ?_
  refine zr_aload_n dX3_load_25 rfl ?_
  refine zr_iconst (v := nI 0) dX3_load_26 (by decide) ?_
  refine zr_putI dX3_load_27 lkX3_49 (by decide) (by decide) rfl rfl (hL.K 30 4) ?_
  refine zr_aload_n dX3_load_30 rfl ?_
  refine zr_iconst (v := nI 0) dX3_load_31 (by decide) ?_
  refine zr_putI dX3_load_32 lkX3_52 (by decide) (by decide) rfl rfl (hL.K 30 4) ?_
  refine zr_aload_n dX3_load_35 rfl ?_
  refine zr_getI dX3_load_36 lkX3_23 (by decide) (by decide) rfl (hL.K 30 4) ?_
  refine zr_as (y := (nI (max g1 g2))) (zput_ms (by decide) (zput_ms (by decide) (zput_hit _ _ _ _))) ?_
  refine zr_if_neN 43 dX3_load_39 (by decide) (by omega) (fun h39 => ?_) (fun h39 => ?_)
  · exfalso; omega
  · refine zr_vret dX3_load_42 rfl ?_
    have e9 : max g1 g2 = 0 := by omega
    rw [e9]
    exact ⟨rfl, rfl⟩
set_option maxRecDepth 100000 in
set_option maxHeartbeats 4000000 in
theorem t_Head_load3 {G : zG} {ad : Nat → Nat} {d k0 n0 st g ar cm g1 g2 : Nat} {Ls : Nat → List zF} {M : zM} {Q : zOut → zM → Prop} {gg : Nat} {M2 : zM} (hd : 5 ≤ d) (hcb : zC M ≤ 600128 ∧ zS M ≤ 7301098) (hL : Lay ad M) (hst : st ≤ 2048) (hrc : Rc (fun i => (zA M (ad 2)) (st + i)) (hdB g ar cm Ls)) (hsz : (eLs Ls 3).length ≤ 1900) (hbr : Br (bks Ls 3)) (hT : ∀ l, l < 3 → ∀ f ∈ Ls l, TC (zA M (ad 2)) f.2.1 f.2.2) (hcn : bks' Ls 3 ≤ 200) (har : ar < 256) (hcmb : cm < 2 ^ 31) (hgb : g < 2 ^ 31) (hU : Us ad M []) (hTk : Tk ad M []) (hV0 : ∀ l, l < 3 → Lv ad M l []) (hF2 : Fl ad 0 [99, 100, 101, 102] [] [] M M2) (hcu2 : zI M2 99 (ad 30) = nI (st + 6)) (h2g : zI M2 100 (ad 30) = nI gg) (hq0 : ∀ M6 M5 : zM, Fl ad 0 [99, 100, 101, 102] [] [] M M5 → LD ad M5 M6 Ls st 3 0 → zI M6 100 (ad 30) = nI gg → zI M6 101 (ad 30) = nI ar → zI M6 102 (ad 30) = nI cm → Q (.inl none) M6) : zw G mX3_load d k0 n0 Q 64 [some (.ref ((ad 30))), some (.ref ((ad 22))), some (.ref ((ad 17))), some (.int (nI g1)), some (.int (nI g2)), none, none, none] [] M2 := by
  have hL2 := hF2.lay hL
  have hcb2 := hF2.cb hcb
  have eD2 : zA M2 (ad 2) = zA M (ad 2) := hF2.rA (by decide) (by decide)
  have hnar : nuN (zA M2 (ad 2)) (st + 6) 1 = ar := by
    rw [eD2]
    refine nuN_nb ((hrc.mid (A := nb g 4 ++ nb (11 + (eLs Ls 3).length) 2) (B := nb ar 1) (C := nb cm 4 ++ (eLs Ls 3 ++ [165])) (by unfold hdB; simp only [List.append_assoc])).congr (fun i _ => ?_)) (by omega)
    show zA M (ad 2) _ = zA M (ad 2) _
    congr 1
    simp only [List.length_append, nb_len]
    omega
  have hncm : ∀ {M3 : zM}, zA M3 (ad 2) = zA M2 (ad 2) → nuN (zA M3 (ad 2)) (st + 6 + 1) 4 = cm := fun e => by
    rw [e, eD2]
    refine nuN_nb ((hrc.mid (A := nb g 4 ++ (nb (11 + (eLs Ls 3).length) 2 ++ nb ar 1)) (B := nb cm 4) (C := eLs Ls 3 ++ [165]) (by unfold hdB; simp only [List.append_assoc])).congr (fun i _ => ?_)) (Nat.lt_trans hcmb (by decide))
    show zA M (ad 2) _ = zA M (ad 2) _
    congr 1
    simp only [List.length_append, nb_len]
    omega
  refine zr_aload_n dX3_load_64 rfl ?_
  refine zr_aload_n dX3_load_65 rfl ?_
  refine zr_iconst (v := nI 1) dX3_load_66 (by decide) ?_
  refine zr_callV (md' := mX3_read) (As := [.int (nI 1)]) dX3_load_67 mlX3_89 okX3_read rfl inX3_read slX3_read (by decide) (hL2.K 30 4) rfl (by omega) (Nat.le_of_ble_eq_true rfl) hcb2 (c_Head_read (d := d - 1) (by omega) hcb2 hL2 hcu2 (by omega) (by decide) (by rw [hnar]; omega)) (fun k M1 h => by cases h.1) (fun v M3 hq => ?_)
  obtain ⟨e0, e3⟩ := hq
  cases e0
  rw [hnar]
  have hF3 : Fl ad 0 [99] [] [] M2 M3 := by rw [e3]; exact (Fl.refl ad _ _ _ M2).put hL2 (f := 99) (i := 30)
  have hL3 := hF3.lay hL2
  have hcb3 := hF3.cb hcb2
  have hcu3 : zI M3 99 (ad 30) = nI (st + 6 + 1) := by rw [e3]; exact zput_hit _ _ _ _
  refine zr_putI dX3_load_70 lkX3_49 (by decide) (by decide) rfl rfl (hL3.K 30 4) ?_
  refine zr_aload_n dX3_load_73 rfl ?_
  refine zr_aload_n dX3_load_74 rfl ?_
  refine zr_iconst (v := nI 4) dX3_load_75 (by decide) ?_
  refine zr_callV (md' := mX3_read) (As := [.int (nI 4)]) dX3_load_76 mlX3_89 okX3_read rfl inX3_read slX3_read (by decide) (hL3.K 30 4) rfl (by omega) (Nat.le_of_ble_eq_true rfl) hcb3 (c_Head_read (d := d - 1) (M := zput M3 101 (ad 30) (nI ar)) (by omega) hcb3 hL3 (zput_ms (by decide) hcu3) (by omega) (by decide) (by rw [show nuN (zA (zput M3 101 (ad 30) (nI ar)) (ad 2)) (st + 6 + 1) 4 = cm from hncm (M3 := M3) (hF3.rA (by decide) (by decide))]; exact hcmb)) (fun k M1 h => by cases h.1) (fun v M4 hq => ?_)
  obtain ⟨e0, e4⟩ := hq
  cases e0
  rw [show nuN (zA (zput M3 101 (ad 30) (nI ar)) (ad 2)) (st + 6 + 1) 4 = cm from hncm (M3 := M3) (hF3.rA (by decide) (by decide))]
  have hF4 : Fl ad 0 [99, 101] [] [] M3 M4 := by rw [e4]; exact ((Fl.refl ad _ _ _ M3).put hL3 (f := 101) (i := 30)).put hL3 (f := 99) (i := 30)
  have hL4 := hF4.lay hL3
  have hcb4 := hF4.cb hcb3
  refine zr_putI dX3_load_79 lkX3_52 (by decide) (by decide) rfl rfl (hL4.K 30 4) ?_
  refine zr_iconst (v := nI 0) dX3_load_82 (by decide) ?_
  refine zr_istore (lv' := [some (.ref ((ad 30))), some (.ref ((ad 22))), some (.ref ((ad 17))), some (.int (nI g1)), some (.int (nI g2)), some (.int (nI 0)), none, none]) dX3_load_83 (Nat.le_of_ble_eq_true rfl) (Nat.le_of_ble_eq_true rfl) rfl rfl ?_
  obtain ⟨M5, e5⟩ : ∃ M5, M5 = zput M4 102 (ad 30) (nI cm) := ⟨_, rfl⟩
  rw [← e5]
  have hF5 : Fl ad 0 [102] [] [] M4 M5 := by rw [e5]; exact (Fl.refl ad _ _ _ M4).put hL4 (f := 102) (i := 30)
  have hFa : Fl ad 0 [99, 100, 101, 102] [] [] M M5 := ((hF2.trans0 hF3.mono).trans0 hF4.mono).trans0 hF5.mono
  have hL5 := hFa.lay hL
  have hcb5 := hFa.cb hcb
  have eD5 : zA M5 (ad 2) = zA M (ad 2) := hFa.rA (by decide) (by decide)
  have h100 : zI M5 100 (ad 30) = nI gg := by rw [e5, zput_I, if_neg (fun z => absurd z.1 (by decide))]; rw [hF4.rI (by decide) (by decide), hF3.rI (by decide) (by decide)]; exact h2g
  have h101 : zI M5 101 (ad 30) = nI ar := by rw [e5, zput_I, if_neg (fun z => absurd z.1 (by decide)), e4]; exact zput_ms (f := 99) (by decide) (zput_hit _ _ _ _)
  have h102 : zI M5 102 (ad 30) = nI cm := by rw [e5]; exact zput_hit _ _ _ _
  refine l_Head_load2 (M := M5) (g := g) (ar := ar) (cm := cm) hd hcb5 hL5 hst (by rw [eD5]; exact hrc) hsz hbr (by rw [eD5]; exact hT) hcn (fun M6 hD6 => ?_) _ 0 M5 rfl (by omega) ?_ ?_
  · have hx := hD6.1
    exact hq0 M6 M5 hFa hD6 ((hx.rI (by decide) (by decide)).trans h100) ((hx.rI (by decide) (by decide)).trans h101) ((hx.rI (by decide) (by decide)).trans h102)
  · refine ⟨Fl.refl _ _ _ _ _, fun _ => [], [], [], fun k hk => (hV0 k hk).fl hFa hk, hU.fl hFa, hTk.fl hFa, ?_, rfl, fun k _ f hf => (by cases hf), fun k hk => (by omega), ?_, fun k _ => rfl, fun a b _ _ _ f hf => (by cases hf), fun k _ => List.nodup_nil⟩
    · rw [List.take_zero]; exact List.Perm.refl _
    · rw [List.take_zero]
  · rw [e5, zput_I, if_neg (fun z => absurd z.1 (by decide)), e4]
    exact (zput_hit _ _ _ _).trans (by congr 1)
set_option maxRecDepth 100000 in
set_option maxHeartbeats 4000000 in
theorem c_Head_load {G : zG} {ad : Nat → Nat} {d st g ar cm g1 g2 : Nat} {Ls : Nat → List zF} {M : zM} (hd : 5 ≤ d) (hcb : zC M ≤ 600128 ∧ zS M ≤ 7301098) (hL : Lay ad M) (hst : st ≤ 2048) (hrc : Rc (fun i => (zA M (ad 2)) (st + i)) (hdB g ar cm Ls)) (hsz : (eLs Ls 3).length ≤ 1900) (hbr : Br (bks Ls 3)) (hT : ∀ l, l < 3 → ∀ f ∈ Ls l, TC (zA M (ad 2)) f.2.1 f.2.2) (hcn : bks' Ls 3 ≤ 200) (hg1 : gnA (zA M (ad 2)) 0 = g1) (hg2 : gnA (zA M (ad 2)) 2048 = g2) (hgb1 : g1 < 2 ^ 30) (hgb2 : g2 < 2 ^ 30) (hlt0 : nuN (zA M (ad 2)) 0 4 < 2 ^ 31) (hlt1 : nuN (zA M (ad 2)) 2048 4 < 2 ^ 31) (hse : st = if g1 < g2 then 2048 else 0) (hgp : 1 ≤ max g1 g2) (har : ar < 256) (hcmb : cm < 2 ^ 31) (hgb : g < 2 ^ 31) (hU : Us ad M []) (hTk : Tk ad M []) (hV0 : ∀ l, l < 3 → Lv ad M l [])  : zMet G mX3_load d [.ref ((ad 30)), .ref ((ad 22)), .ref ((ad 17))] M (fun o M' => o = .inl none ∧ ∃ M5, Fl ad 0 [99, 100, 101, 102] [] [] M M5 ∧ LD ad M5 M' Ls st 3 0 ∧ zI M' 100 (ad 30) = nI (max g1 g2) ∧ zI M' 101 (ad 30) = nI ar ∧ zI M' 102 (ad 30) = nI cm) := by
  refine zMet_of (by decide +kernel) (Nat.le_of_ble_eq_true rfl) rfl hcb ?_
  show zw G mX3_load d _ _ _ 0 [some (.ref ((ad 30))), some (.ref ((ad 22))), some (.ref ((ad 17))), none, none, none, none, none] [] M
  refine zr_aload_n dX3_load_0 rfl ?_
  refine zr_iconst (v := nI 0) dX3_load_1 (by decide) ?_
  refine zr_callV (md' := mX3_generationAt) (As := [.int (nI 0)]) dX3_load_2 mlX3_79 okX3_generationAt rfl inX3_generationAt slX3_generationAt (by decide) (hL.K 30 4) rfl (by omega) (Nat.le_of_ble_eq_true rfl) hcb (c_Head_generationAt (d := d - 1) (by omega) hcb hL (by decide) hlt0) (fun k M1 h => by cases h.1) (fun v M9 hq => ?_)
  obtain ⟨e0, e9⟩ := hq
  cases e0
  rw [e9]
  rw [hg1]
  refine zr_istore_n (lv' := [some (.ref ((ad 30))), some (.ref ((ad 22))), some (.ref ((ad 17))), some (.int (nI g1)), none, none, none, none]) dX3_load_5 (Nat.le_of_ble_eq_true rfl) (Nat.le_of_ble_eq_true rfl) rfl rfl ?_
  refine zr_aload_n dX3_load_6 rfl ?_
  refine zr_sipush (v := nI 2048) dX3_load_7 (by decide) ?_
  refine zr_callV (md' := mX3_generationAt) (As := [.int (nI 2048)]) dX3_load_10 mlX3_79 okX3_generationAt rfl inX3_generationAt slX3_generationAt (by decide) (hL.K 30 4) rfl (by omega) (Nat.le_of_ble_eq_true rfl) hcb (c_Head_generationAt (d := d - 1) (by omega) hcb hL (by decide) hlt1) (fun k M1 h => by cases h.1) (fun v M9 hq => ?_)
  obtain ⟨e0, e9⟩ := hq
  cases e0
  rw [e9]
  rw [hg2]
  refine zr_istore (lv' := [some (.ref ((ad 30))), some (.ref ((ad 22))), some (.ref ((ad 17))), some (.int (nI g1)), some (.int (nI g2)), none, none, none]) dX3_load_13 (Nat.le_of_ble_eq_true rfl) (Nat.le_of_ble_eq_true rfl) rfl rfl ?_
  refine zr_aload_n dX3_load_15 rfl ?_
  refine zr_iload_n dX3_load_16 rfl ?_
  refine zr_iload dX3_load_17 rfl ?_
  refine zr_callS (md' := mJ9_max_7cf53) (As := [.int (nI g1), .int (nI g2)]) dX3_load_19 mlX3_83 okJ9_max_7cf53 rfl stJ9_max_7cf53 rfl (by omega) (Nat.le_of_ble_eq_true rfl) hcb (c_max (d := d - 1) hcb (by omega) (by omega)) (fun k M1 h => by cases h.1) (fun v M9 hq => ?_)
  obtain ⟨e0, e9⟩ := hq
  cases e0
  rw [e9]
  refine zr_putI dX3_load_22 lkX3_23 (by decide) (by decide) rfl rfl (hL.K 30 4) ?_
  refine zr_aload_n dX3_load_25 rfl ?_
  refine zr_iconst (v := nI 0) dX3_load_26 (by decide) ?_
  refine zr_putI dX3_load_27 lkX3_49 (by decide) (by decide) rfl rfl (hL.K 30 4) ?_
  refine zr_aload_n dX3_load_30 rfl ?_
  refine zr_iconst (v := nI 0) dX3_load_31 (by decide) ?_
  refine zr_putI dX3_load_32 lkX3_52 (by decide) (by decide) rfl rfl (hL.K 30 4) ?_
  refine zr_aload_n dX3_load_35 rfl ?_
  refine zr_getI dX3_load_36 lkX3_23 (by decide) (by decide) rfl (hL.K 30 4) ?_
  refine zr_as (y := (nI (max g1 g2))) (zput_ms (by decide) (zput_ms (by decide) (zput_hit _ _ _ _))) ?_
  refine zr_if_neN 43 dX3_load_39 (by decide) (by omega) (fun h39 => ?_) (fun h39 => ?_)
  · refine zr_aload_n dX3_load_43 rfl ?_
    refine zr_iload dX3_load_44 rfl ?_
    refine zr_iload_n dX3_load_46 rfl ?_
    refine zr_icmp_leN 56 dX3_load_47 (by decide) (by omega) (by omega) (fun h47 => ?_) (fun h47 => ?_)
    · refine zr_iconst (v := nI 0) dX3_load_56 (by decide) ?_
      refine zr_iconst (v := nI 4) dX3_load_57 (by decide) ?_
      refine zr_iaddN dX3_load_58 ?_
      refine zr_iconst (v := nI 2) dX3_load_59 (by decide) ?_
      refine zr_iaddN dX3_load_60 ?_
      refine zr_putI dX3_load_61 lkX3_86 (by decide) (by decide) rfl rfl (hL.K 30 4) ?_
      obtain ⟨M2, e2⟩ : ∃ M2, M2 = (zput (zput (zput (zput M 100 (ad 30) (nI (max g1 g2))) 101 (ad 30) (nI 0)) 102 (ad 30) (nI 0)) 99 (ad 30) (nI ((0 + 4) + 2))) := ⟨_, rfl⟩
      rw [← e2]
      have e9 : st = 0 := by rw [hse]; first | exact if_pos (by omega) | exact if_neg (by omega)
      subst e9
      refine t_Head_load3 (gg := max g1 g2) hd hcb hL hst hrc hsz hbr hT hcn har hcmb hgb hU hTk hV0 ?_ ?_ ?_ (fun M6 M5 y1 y2 y3 y4 y5 => ⟨rfl, M5, y1, y2, y3, y4, y5⟩)
      · rw [e2]; exact ((((Fl.refl ad _ _ _ M).put hL (f := 100) (i := 30)).put hL (f := 101) (i := 30)).put hL (f := 102) (i := 30)).put hL (f := 99) (i := 30)
      · rw [e2]; exact zput_hit _ _ _ _
      · rw [e2]; exact zput_ms (f := 99) (by decide) (zput_ms (f := 102) (by decide) (zput_ms (f := 101) (by decide) (zput_hit _ _ _ _)))
    · refine zr_sipush (v := nI 2048) dX3_load_50 (by decide) ?_
      refine zr_goto 57 dX3_load_53 (by decide) ?_
      refine zr_iconst (v := nI 4) dX3_load_57 (by decide) ?_
      refine zr_iaddN dX3_load_58 ?_
      refine zr_iconst (v := nI 2) dX3_load_59 (by decide) ?_
      refine zr_iaddN dX3_load_60 ?_
      refine zr_putI dX3_load_61 lkX3_86 (by decide) (by decide) rfl rfl (hL.K 30 4) ?_
      obtain ⟨M2, e2⟩ : ∃ M2, M2 = (zput (zput (zput (zput M 100 (ad 30) (nI (max g1 g2))) 101 (ad 30) (nI 0)) 102 (ad 30) (nI 0)) 99 (ad 30) (nI ((2048 + 4) + 2))) := ⟨_, rfl⟩
      rw [← e2]
      have e9 : st = 2048 := by rw [hse]; first | exact if_pos (by omega) | exact if_neg (by omega)
      subst e9
      refine t_Head_load3 (gg := max g1 g2) hd hcb hL hst hrc hsz hbr hT hcn har hcmb hgb hU hTk hV0 ?_ ?_ ?_ (fun M6 M5 y1 y2 y3 y4 y5 => ⟨rfl, M5, y1, y2, y3, y4, y5⟩)
      · rw [e2]; exact ((((Fl.refl ad _ _ _ M).put hL (f := 100) (i := 30)).put hL (f := 101) (i := 30)).put hL (f := 102) (i := 30)).put hL (f := 99) (i := 30)
      · rw [e2]; exact zput_hit _ _ _ _
      · rw [e2]; exact zput_ms (f := 99) (by decide) (zput_ms (f := 102) (by decide) (zput_ms (f := 101) (by decide) (zput_hit _ _ _ _)))
  · refine zr_vret dX3_load_42 rfl ?_
    exfalso; omega
