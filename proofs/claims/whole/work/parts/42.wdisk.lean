/-! ===== new files under way: the disk's part ===== -/
/-- done: whole files; bl, css: the blocks and entries of the one under way; nbs: all new blocks -/
def WX (D0 : Nat → Int32) (tk : List Nat) (D : Nat → Int32) (done : List zF) (bl : List Nat) (css : List (List Nat)) (nbs : List Nat) : Prop :=
  (∀ p, p / 512 ∉ nbs → D p = D0 p) ∧ nbs.Perm (bk done ++ bl) ∧ (∀ f ∈ done, TF D f ∧ f.1 < 256) ∧ done.Pairwise (fun f g => ∀ p ∈ fE f, ∀ q ∈ fE g, klt (eky D p) (eky D q)) ∧ bl.length = css.length ∧
  (∀ (k b : Nat) (c : List Nat), bl[k]? = some b → css[k]? = some c → ∃ ps, c = b * 512 :: ps ∧ Cb D (b * 512) ps ∧ c.length ≤ 64) ∧ (∀ q ∈ css.flatten, q < 303096 ∧ Wi D q) ∧ (∀ p ∈ lvE done, ∀ q ∈ css.flatten, klt (eky D p) (eky D q)) ∧ Br (nbs ++ tk)
theorem bk_mem {fs : List zF} {f : zF} {b : Nat} (hf : f ∈ fs) (hb : b ∈ f.2.1) : b ∈ bk fs := List.mem_flatten.mpr ⟨f.2.1, List.mem_map.mpr ⟨f, hf, rfl⟩, hb⟩
theorem lvE_get {fs : List zF} {f : zF} {q : Nat} (hf : f ∈ fs) (hq : q ∈ fE f) : q ∈ lvE fs := List.mem_flatten.mpr ⟨fE f, List.mem_map.mpr ⟨f, hf, rfl⟩, hq⟩
theorem lvE_cases {fs : List zF} {q : Nat} (h : q ∈ lvE fs) : ∃ f ∈ fs, q ∈ fE f := by
  obtain ⟨c, hc, hq⟩ := List.mem_flatten.mp h
  obtain ⟨f, hf, rfl⟩ := List.mem_map.mp hc
  exact ⟨f, hf, hq⟩
theorem css_blk {D : Nat → Int32} {bl : List Nat} {css : List (List Nat)} (hl : bl.length = css.length) (h : ∀ (k b : Nat) (c : List Nat), bl[k]? = some b → css[k]? = some c → ∃ ps, c = b * 512 :: ps ∧ Cb D (b * 512) ps ∧ c.length ≤ 64) {q : Nat} (hq : q ∈ css.flatten) : q / 512 ∈ bl := by
  obtain ⟨c, hc, hq⟩ := List.mem_flatten.mp hq
  obtain ⟨k, hk⟩ := List.getElem?_of_mem hc
  have := (List.getElem?_eq_some_iff.mp hk).1
  obtain ⟨b, hb⟩ : ∃ b, bl[k]? = some b := ⟨_, List.getElem?_eq_getElem (by omega)⟩
  obtain ⟨ps, e, hC, -⟩ := h k b c hb hk
  rw [e] at hq
  rw [hC.blk q hq, Nat.mul_div_cancel _ (by decide)]
  exact List.mem_of_getElem? hb
/-- a change outside the new blocks -/
theorem WX.keep {D0 D D' : Nat → Int32} {tk : List Nat} {done : List zF} {bl : List Nat} {css : List (List Nat)} {nbs : List Nat} {b : Nat} (h : WX D0 tk D done bl css nbs) (hb : b ∉ nbs) (hD : ∀ p, p / 512 ≠ b → D' p = D p) :
    (∀ q ∈ lvE done ++ css.flatten, ent D' q = ent D q) ∧ (∀ f ∈ done, TF D' f ∧ f.1 < 256) ∧ (∀ (k b : Nat) (c : List Nat), bl[k]? = some b → css[k]? = some c → ∃ ps, c = b * 512 :: ps ∧ Cb D' (b * 512) ps ∧ c.length ≤ 64) ∧ ∀ q ∈ css.flatten, q < 303096 ∧ Wi D' q := by
  obtain ⟨h1, h2, h3, h4, h5, h6, h7, h8, h9⟩ := h
  have hn : ∀ x, x ∈ bk done ++ bl → x ≠ b := fun x hx e => hb (by rw [← e]; exact h2.mem_iff.mpr hx)
  have hf : ∀ f ∈ done, ∀ p, p / 512 ∈ f.2.1 → D' p = D p := fun f hf p hp => hD p (hn _ (List.mem_append_left _ (bk_mem hf hp)))
  have hc : ∀ q ∈ css.flatten, ∀ p, p / 512 = q / 512 → D' p = D p := fun q hq p hp => hD p (by rw [hp]; exact hn _ (List.mem_append_right _ (css_blk h5 h6 hq)))
  refine ⟨fun q hq => ?_, fun f hff => ⟨(h3 f hff).1.loc (hf f hff), (h3 f hff).2⟩, fun k x c hk hk2 => ?_, fun q hq => ⟨(h7 q hq).1, (h7 q hq).2.loc (hc q hq)⟩⟩
  · rcases List.mem_append.mp hq with hq | hq
    · obtain ⟨f, hff, hq⟩ := lvE_cases hq
      exact (h3 f hff).1.ents (hf f hff) q hq
    · exact ((h7 q hq).2.all (hc q hq)).en
  · obtain ⟨ps, e, hC, hl⟩ := h6 k x c hk hk2
    have hin : ∀ q ∈ c, q ∈ css.flatten := fun q hq => List.mem_flatten.mpr ⟨c, List.mem_of_getElem? hk2, hq⟩
    exact ⟨ps, e, hC.loc (fun q hq => (h7 q (hin q (by rw [e]; exact hq))).2) (hc (x * 512) (hin _ (by rw [e]; exact List.mem_cons_self))), hl⟩
theorem eky_of {D D' : Nat → Int32} {p q : Nat} (h : ent D' q = ent D p) : eky D' q = eky D p := congrArg (·.1) h
theorem flatten_snoc (css : List (List Nat)) (c : List Nat) : (css ++ [c]).flatten = css.flatten ++ c := by rw [List.flatten_append]; simp
/-- a block is written -/
theorem WX.block {D0 D D' buf : Nat → Int32} {tk : List Nat} {done : List zF} {bl : List Nat} {css : List (List Nat)} {nbs offs os : List Nat} {b f : Nat} (h : WX D0 tk D done bl css nbs) (hb : b ∉ nbs ++ tk) (hb1 : 80 ≤ b) (hb2 : b < 592) (hD : ∀ p, p / 512 ≠ b → D' p = D p) (hB : ∀ k, k < 512 → D' (b * 512 + k) = buf k) (ho : offs = 0 :: os) (hch : Chn buf 0 offs f) (hf : f ≤ 512) (hz : f < 512 → buf f = 0) (hw : ∀ o ∈ offs, Ewf buf o) (hx : ∀ p ∈ lvE done, ∀ o ∈ offs, klt (eky D p) (eky buf o)) :
    WX D0 tk D' done (bl ++ [b]) (css ++ [offs.map (b * 512 + ·)]) (b :: nbs) ∧ (lvE done ++ (css ++ [offs.map (b * 512 + ·)]).flatten).map (ent D') = (lvE done ++ css.flatten).map (ent D) ++ offs.map (ent buf) := by
  have hbn : b ∉ nbs := fun z => hb (List.mem_append_left _ z)
  obtain ⟨k1, k2, k3, k4⟩ := h.keep hbn hD
  obtain ⟨h1, h2, h3, h4, h5, h6, h7, h8, h9⟩ := h
  have hle := hch.le
  have hen : ∀ o ∈ offs, ent D' (b * 512 + o) = ent buf o := fun o ho => (Ecp (D := buf) (D' := D') (x := o) (y := b * 512 + o) (fun k hk => by rw [Nat.add_assoc]; exact hB _ (by have := (hle.2 o ho).2; omega))).2.2
  have hwn : ∀ q ∈ offs.map (b * 512 + ·), Ewf D' q ∧ q < 303096 ∧ Wi D' q ∧ ∃ o ∈ offs, eky D' q = eky buf o := fun q hq => by
    obtain ⟨o, ho, rfl⟩ := List.mem_map.mp hq
    have e := hen o ho
    have hw1 := hw o ho
    have hl := (ent_len e).2.2
    have h10 := (hle.2 o ho).2
    have h11 := hw1.len
    refine ⟨ent_wf e hw1, ?_, ?_, o, ho, eky_of e⟩
    · show b * 512 + o < 303096
      omega
    · show Wi D' (b * 512 + o)
      unfold Wi
      rw [hl]
      omega
  obtain ⟨s0, hs0⟩ : ∃ s0, s0 = b * 512 := ⟨_, rfl⟩
  have hcc : Chn D' (b * 512) (offs.map (b * 512 + ·)) (b * 512 + f) := by
    have := hch.shift (D := D') (s := s0) (fun j h1 h2 => by rw [hs0]; exact hB j (by omega))
    rw [Nat.add_zero] at this
    rw [hs0] at this
    exact this
  constructor
  · refine ⟨fun p hp => ?_, ?_, k2, ?_, by rw [List.length_append, List.length_append, h5]; rfl, fun k x c hk hc => ?_, fun q hq => ?_, fun p hp q hq => ?_, ?_⟩
    · exact (hD p (fun e => hp (List.mem_cons.mpr (Or.inl e)))).trans (h1 p (fun e => hp (List.mem_cons.mpr (Or.inr e))))
    · refine (h2.cons b).trans ?_
      rw [← List.append_assoc]
      exact (List.perm_append_singleton b (bk done ++ bl)).symm
    · refine List.Pairwise.imp_of_mem ?_ h4
      intro f g hf hg hfg p hp q hq
      rw [eky_of (k1 p (List.mem_append_left _ (lvE_get hf hp))), eky_of (k1 q (List.mem_append_left _ (lvE_get hg hq)))]
      exact hfg p hp q hq
    · rcases Nat.lt_or_ge k css.length with e | e
      · rw [List.getElem?_append_left (by omega)] at hk
        rw [List.getElem?_append_left e] at hc
        exact k3 k x c hk hc
      · rw [List.getElem?_append_right (by omega)] at hk
        rw [List.getElem?_append_right e] at hc
        have e0 : k - css.length = 0 := by
          have := (List.getElem?_eq_some_iff.mp hc).1
          simp at this
          omega
        rw [h5, e0] at hk
        rw [e0] at hc
        cases hk
        cases hc
        refine ⟨os.map (b * 512 + ·), by rw [ho, List.map_cons, Nat.add_zero], ?_, ?_⟩
        · refine Chn.cb (b := b) (e := b * 512 + f) (by omega) (fun z => (hB f (by omega)).trans (hz (by omega))) ?_ (Nat.le_refl _) (fun q hq => (hwn q (by rw [ho, List.map_cons, Nat.add_zero]; exact hq)).1)
          rw [ho, List.map_cons, Nat.add_zero] at hcc
          exact hcc
        · have := hch.cnt
          rw [List.length_map]
          omega
    · rw [flatten_snoc] at hq
      rcases List.mem_append.mp hq with hq | hq
      · exact k4 q hq
      · exact ⟨(hwn q hq).2.1, (hwn q hq).2.2.1⟩
    · rw [flatten_snoc] at hq
      rw [eky_of (k1 p (List.mem_append_left _ hp))]
      rcases List.mem_append.mp hq with hq | hq
      · rw [eky_of (k1 q (List.mem_append_right _ hq))]
        exact h8 p hp q hq
      · obtain ⟨-, -, -, o, ho, e⟩ := hwn q hq
        rw [e]
        exact hx p hp o ho
    · refine ⟨fun x hx => ?_, List.nodup_cons.mpr ⟨hb, h9.2⟩⟩
      rcases List.mem_cons.mp hx with rfl | hx
      · exact ⟨hb1, hb2⟩
      · exact h9.1 x hx
  · rw [flatten_snoc, ← List.append_assoc, List.map_append, List.map_map]
    congr 1
    · exact List.map_congr_left k1
    · exact List.map_congr_left hen
theorem bk_snoc (done : List zF) (f : zF) : bk (done ++ [f]) = bk done ++ f.2.1 := by unfold bk; rw [List.map_append, List.flatten_append]; simp
theorem lvE_snoc (done : List zF) (f : zF) : lvE (done ++ [f]) = lvE done ++ fE f := by unfold lvE; rw [List.map_append, List.flatten_append]; simp
/-- the filter is written, the file is whole -/
theorem WX.close {D0 D D' flt : Nat → Int32} {tk : List Nat} {done : List zF} {bl : List Nat} {css : List (List Nat)} {nbs : List Nat} {b j : Nat} (h : WX D0 tk D done bl css nbs) (hb : b ∉ nbs ++ tk) (hb1 : 80 ≤ b) (hb2 : b < 592) (hj : j < 256) (hD : ∀ p, p / 512 ≠ b → D' p = D p) (hB : ∀ k, k < 512 → D' (b * 512 + k) = flt k) (hc1 : 1 ≤ css.length) (hc8 : css.length ≤ 8) (hcm : ∀ q ∈ css.flatten, ecm D q < 2 ^ 31) (hw : ∀ q ∈ css.flatten, Ewf D q) (hs : css.flatten.Pairwise (pre D)) (hF : ∀ q ∈ css.flatten, Fil flt 0 (eky D q)) :
    WX D0 tk D' (done ++ [(j, bl ++ [b], css)]) [] [] (b :: nbs) ∧ (lvE (done ++ [(j, bl ++ [b], css)]) ++ ([] : List (List Nat)).flatten).map (ent D') = (lvE done ++ css.flatten).map (ent D) := by
  have hbn : b ∉ nbs := fun z => hb (List.mem_append_left _ z)
  obtain ⟨k1, k2, k3, k4⟩ := h.keep hbn hD
  obtain ⟨h1, h2, h3, h4, h5, h6, h7, h8, h9⟩ := h
  have hkc : ∀ q ∈ css.flatten, ent D' q = ent D q := fun q hq => k1 q (List.mem_append_right _ hq)
  have hbr : Br (bl ++ [b]) := by
    refine ⟨fun x hx => ?_, List.nodup_append.mpr ⟨?_, List.pairwise_singleton _ _, fun x hx y hy e => ?_⟩⟩
    · rcases List.mem_append.mp hx with hx | hx
      · exact h9.1 x (List.mem_append_left _ (h2.mem_iff.mpr (List.mem_append_right _ hx)))
      · cases List.mem_singleton.mp hx; exact ⟨hb1, hb2⟩
    · exact (List.nodup_append.mp (h2.nodup_iff.mp (List.nodup_append.mp h9.2).1)).2.1
    · cases List.mem_singleton.mp hy
      exact hbn (h2.mem_iff.mpr (List.mem_append_right _ (e ▸ hx)))
  have hTF : TF D' (j, bl ++ [b], css) := by
    refine ⟨⟨by rw [List.length_append, h5]; rfl, hc1, hc8, hbr, fun i x c hi hc => ?_, fun q hq => ⟨(k4 q hq).1, ?_⟩, fun q hq => ent_wf (hkc q hq) (hw q hq), map_pw (List.map_congr_left hkc) hs, fun x hx q hq => ?_⟩, fun q hq => (k4 q hq).2⟩
    · have : i < css.length := (List.getElem?_eq_some_iff.mp hc).1
      rw [List.getElem?_append_left (by omega)] at hi
      exact k3 i x c hi hc
    · have e : ecm D' q = ecm D q := congrArg (·.2.1) (hkc q hq)
      rw [e]; exact hcm q hq
    · have hx : (bl ++ [b])[css.length]? = some x := hx
      rw [List.getElem?_append_right (by omega), h5, Nat.sub_self] at hx
      cases hx
      rw [eky_of (hkc q hq)]
      intro i hi
      have := hF q hq i hi
      unfold fbit at *
      rw [Nat.zero_add] at this
      rw [hB _ (by have := plc_lt (prb (hsh (eky D q)) i); omega)]
      exact this
  have hll : ∀ q ∈ lvE done, ent D' q = ent D q := fun q hq => k1 q (List.mem_append_left _ hq)
  constructor
  · refine ⟨fun p hp => ?_, ?_, fun f hf => ?_, ?_, rfl, fun k x c hk => (by simp at hk), fun q hq => (by cases hq), fun p hp q hq => (by cases hq), ?_⟩
    · exact (hD p (fun e => hp (List.mem_cons.mpr (Or.inl e)))).trans (h1 p (fun e => hp (List.mem_cons.mpr (Or.inr e))))
    · rw [bk_snoc, List.append_nil, ← List.append_assoc]
      exact (h2.cons b).trans (List.perm_append_singleton b (bk done ++ bl)).symm
    · rcases List.mem_append.mp hf with hf | hf
      · exact k2 f hf
      · cases List.mem_singleton.mp hf; exact ⟨hTF, hj⟩
    · refine List.pairwise_append.mpr ⟨?_, List.pairwise_singleton _ _, fun f hf g hg p hp q hq => ?_⟩
      · refine List.Pairwise.imp_of_mem ?_ h4
        intro f g hf hg hfg p hp q hq
        rw [eky_of (hll p (lvE_get hf hp)), eky_of (hll q (lvE_get hg hq))]
        exact hfg p hp q hq
      · cases List.mem_singleton.mp hg
        rw [eky_of (hll p (lvE_get hf hp)), eky_of (hkc q hq)]
        exact h8 p (lvE_get hf hp) q hq
    · refine ⟨fun x hx => ?_, List.nodup_cons.mpr ⟨hb, h9.2⟩⟩
      rcases List.mem_cons.mp hx with rfl | hx
      · exact ⟨hb1, hb2⟩
      · exact h9.1 x hx
  · rw [lvE_snoc, List.append_assoc, show fE (j, bl ++ [b], css) = css.flatten from rfl, show ([] : List (List Nat)).flatten = [] from rfl, List.append_nil]
    exact List.map_congr_left k1
