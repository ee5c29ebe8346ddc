/-! ===== files put together: the disk behind it, and where power failed ===== -/
set_option maxHeartbeats 4000000 in
theorem jn_Z {D0 D4 Z : Nat → Int32} {ar to2 r : Nat} {tk nbs : List Nat} {Ls : Nat → List zF} {ns : List zF} (htk : tk.Perm (bks Ls 3)) (hX : WX D0 tk D4 ns [] [] nbs) (har : ar ≤ 1) (hto : to2 ≤ 36) (hr : r ≤ 512 * to2) (hZ : Z = zer D4 (4096 + (1 - ar) * 18432) r) : (∀ p, p < 4096 → Z p = D0 p) ∧ (∀ p, 4096 + ar * 18432 ≤ p → p < 4096 + ar * 18432 + 18432 → Z p = D0 p) ∧ (∀ p, p / 512 ∈ nbs ++ tk → Z p = D4 p ∧ 40960 ≤ p) ∧ (∀ p, p / 512 ∈ bks Ls 3 → Z p = D0 p) ∧ ∀ p, p < 40960 → D4 p = D0 p := by
  have hbr : Br (nbs ++ tk) := hX.2.2.2.2.2.2.2.2
  have h4 : ∀ p, p < 40960 → D4 p = D0 p := fun p hp => hX.1 p (fun z => by have := (hbr.1 _ (List.mem_append_left _ z)).1; omega)
  have h3 : ∀ p, p / 512 ∈ nbs ++ tk → Z p = D4 p ∧ 40960 ≤ p := fun p hp => by
    have := (hbr.1 _ hp).1
    refine ⟨?_, by omega⟩
    rw [hZ]
    unfold zer
    exact if_neg (by omega)
  refine ⟨fun p hp => ?_, fun p h1 h2 => ?_, h3, fun p hp => ?_, h4⟩
  · rw [← h4 p (by omega), hZ]
    unfold zer
    exact if_neg (by omega)
  · rw [← h4 p (by omega), hZ]
    unfold zer
    exact if_neg (by omega)
  · have hp' := htk.mem_iff.mpr hp
    rw [(h3 p (List.mem_append_right _ hp')).1]
    exact hX.1 p (fun z => (List.nodup_append.mp hbr.2).2.2 _ z _ hp' rfl)
set_option maxHeartbeats 4000000 in
theorem jn_old {D0 D4 Z : Nat → Int32} {c n us ar g cm gm to2 r : Nat} {E tk nbs : List Nat} {Ls : Nat → List zF} {ns : List zF} {rs : List (List Nat)} {m : Mp} (hU : Dur D0 g ar us cm c n gm Ls rs E m) (hn : n ≤ 64) (htk : tk.Perm (bks Ls 3)) (hX : WX D0 tk D4 ns [] [] nbs) (har : ar ≤ 1) (hto : to2 ≤ 36) (hr : r ≤ 512 * to2) (hZ : Z = zer D4 (4096 + (1 - ar) * 18432) r) : Dur Z g ar us cm c n gm Ls rs E m := by
  obtain ⟨z1, z2, z3, z4, z5⟩ := jn_Z htk hX har hto hr hZ
  exact hU.keep hn z1 z2 z4
set_option maxHeartbeats 4000000 in
theorem jn_oldH {Z D' : Nat → Int32} {c n us ar g cm gm : Nat} {E : List Nat} {Ls : Nat → List zF} {rs : List (List Nat)} {m : Mp} (hU : Dur Z g ar us cm c n gm Ls rs E m) (hn : n ≤ 64) (hD8 : ∀ p, (p < ((g + 1) % 2 * 2048) ∨ ((g + 1) % 2 * 2048) + 2048 ≤ p) → D' p = Z p) (hH : HdS D' g ar cm Ls) : Dur D' g ar us cm c n gm Ls rs E m := by
  obtain ⟨a1, a2, a3, a4, a5, a6, a7⟩ := hU
  have hm := Nat.mod_lt (g + 1) (show 2 > 0 by decide)
  obtain ⟨b1, b2⟩ := a2.keep (D' := D') (fun p hp => hD8 p (by have := (a2.2.1 _ hp).1; omega))
  obtain ⟨c1, c2⟩ := a3.keep (D' := D') hn (fun p h1 h2 => hD8 p (by omega))
  exact ⟨hH, b1, c1, a4.keep (fun p hp => (up_mem.mp hp).elim (c2 p) (fun ⟨l, hl, z⟩ => b2 l hl p z)), a5, a6, a7⟩
set_option maxHeartbeats 4000000 in
theorem jn_sz1 {D0 D4 Z : Nat → Int32} {t low c n us ar g cm gm to2 r : Nat} {E P T tk nbs : List Nat} {Ls : Nat → List zF} {lo hi : Nat → Nat} {ns : List zF} {rs : List (List Nat)} {m : Mp} {v : Nat → Option Nat} (hU : Dur D0 g ar us cm c n gm Ls rs E m) (hn : n ≤ 64) (ht : t < 3) (hlh : ∀ l, l < 3 → lo l ≤ hi l) (hPs : P.Pairwise (pre D0)) (hPp : P.Perm (pks 1 E Ls lo hi 3)) (hT : Thn D0 P v low T) (hlow : low = 1 → t = 2) (hok : Pok D0 Ls lo hi t P) (htk : tk.Perm (bks Ls 3)) (hX : WX D0 tk D4 ns [] [] nbs) (hent : (lvE ns).map (ent D4) = T.map (ent D0)) (har : ar ≤ 1) (hto : to2 ≤ 36) (hr : r ≤ 512 * to2) (hZ : Z = zer D4 (4096 + (1 - ar) * 18432) r) : (eLs (newL Ls lo hi t ns) 3).length ≤ 1900 ∧ Br (bks (newL Ls lo hi t ns) 3) := by
  obtain ⟨z1, z2, z3, z4, z5⟩ := jn_Z htk hX har hto hr hZ
  obtain ⟨p1, p2, p3⟩ := join_pure (D' := Z) hU.2.1 hU.2.2.1 hU.2.2.2.1 hn ht (by decide) hlh hPs hPp hT hlow hok htk hX hent (fun p hp => (z3 p hp).1) (fun _ => z2)
  obtain ⟨a, b, c, d⟩ := up_cnt (E := (if 1 = 1 then [] else E)) (fun l hl => (p1.1 l hl).1)
  have := p2.2.2.2.1
  exact ⟨by omega, p1.2⟩
set_option maxHeartbeats 4000000 in
theorem jn_new1 {D0 D4 Z D' : Nat → Int32} {t low c n us ar g cm gm to to2 fl r : Nat} {E P T tk nbs : List Nat} {Ls : Nat → List zF} {lo hi : Nat → Nat} {ns : List zF} {rs : List (List Nat)} {m : Mp} {v : Nat → Option Nat} (hU : Dur D0 g ar us cm c n gm Ls rs E m) (hn : n ≤ 64) (ht : t < 3) (hlh : ∀ l, l < 3 → lo l ≤ hi l) (hPs : P.Pairwise (pre D0)) (hPp : P.Perm (pks 1 E Ls lo hi 3)) (hT : Thn D0 P v low T) (hlow : low = 1 → t = 2) (hok : Pok D0 Ls lo hi t P) (htk : tk.Perm (bks Ls 3)) (hX : WX D0 tk D4 ns [] [] nbs) (hent : (lvE ns).map (ent D4) = T.map (ent D0)) (hB : Blk D0 ar us to to2 fl) (hgm : gm ≤ 2 ^ 28) (har : ar ≤ 1) (hto : to2 ≤ 36) (hr : r ≤ 512 * to2) (hZ : Z = zer D4 (4096 + (1 - ar) * 18432) r) (hr1 : r = 512 * to2) (hD8 : ∀ p, (p < ((g + 1) % 2 * 2048) ∨ ((g + 1) % 2 * 2048) + 2048 ≤ p) → D' p = Z p) (hR : Rc (fun i => D' (((g + 1) % 2 * 2048) + i)) (hdB (g + 1) (1 - ar) c (newL Ls lo hi t ns))) : Dur D' (g + 1) (1 - ar) 0 c c n (gm + 1) (newL Ls lo hi t ns) [] [] m ∧ Vsm D0 D' E [] Ls (newL Ls lo hi t ns) v ∧ Blk D' (1 - ar) 0 0 to 1 := by
  obtain ⟨z1, z2, z3, z4, z5⟩ := jn_Z htk hX har hto hr hZ
  have hsz := jn_sz1 hU hn ht hlh hPs hPp hT hlow hok htk hX hent har hto hr hZ
  have hm := Nat.mod_lt (g + 1) (show 2 > 0 by decide)
  have hUZ := jn_old hU hn htk hX har hto hr hZ
  obtain ⟨p1, p2, p3⟩ := join_pure (D' := D') hU.2.1 hU.2.2.1 hU.2.2.2.1 hn ht (by decide) hlh hPs hPp hT hlow hok htk hX hent (fun p hp => (hD8 p (by have := (z3 p hp).2; omega)).trans (z3 p hp).1) (fun _ p h1 h2 => (hD8 p (by omega)).trans (z2 p h1 h2))
  obtain ⟨a1, a2, a3, a4, a5, a6, a7⟩ := hUZ
  have hH := a1.next (hU.sz hn).1 hsz.1 (by omega) (by omega) hD8 hR
  have hbl : ∀ p, p < 18432 → D' (4096 + (1 - ar) * 18432 + p) = 0 := fun p hp => by
    rw [hD8 _ (by omega), hZ]
    unfold zer
    by_cases hh : p < r
    · exact if_pos (by omega)
    · rw [if_neg (by omega), z5 _ (by omega)]
      exact hB.2.2.2 p (by omega) hp
  refine ⟨⟨hH, p1, ⟨rfl, Stop.blank (by decide) (fun p h1 h2 => ?_), fun ps hps => (by cases hps), rfl, Nat.zero_le _, Nat.zero_le _, Nat.zero_le _⟩, p2, rfl, a6, by omega⟩, p3, ⟨fun _ p _ hp => hbl p hp, fun z => absurd rfl z, Nat.zero_le _, fun p h1 h2 => ?_⟩⟩
  · have := hbl (p - (4096 + (1 - ar) * 18432)) (by omega)
    rw [show 4096 + (1 - ar) * 18432 + (p - (4096 + (1 - ar) * 18432)) = p by omega] at this
    exact this
  · rw [show 1 - (1 - ar) = ar by omega, hD8 _ (by omega), z2 _ (by omega) (by omega)]
    by_cases hf : fl = 1
    · exact hB.1 hf p (by have := hB.2.2.1; omega) h2
    · have := hB.2.1 hf
      omega
set_option maxHeartbeats 4000000 in
theorem jn_sz0 {D0 D4 Z : Nat → Int32} {t low c n us ar g cm gm to2 r : Nat} {E P T tk nbs : List Nat} {Ls : Nat → List zF} {lo hi : Nat → Nat} {ns : List zF} {rs : List (List Nat)} {m : Mp} {v : Nat → Option Nat} (hU : Dur D0 g ar us cm c n gm Ls rs E m) (hn : n ≤ 64) (ht : t < 3) (hlh : ∀ l, l < 3 → lo l ≤ hi l) (hPs : P.Pairwise (pre D0)) (hPp : P.Perm (pks 0 E Ls lo hi 3)) (hT : Thn D0 P v low T) (hlow : low = 1 → t = 2) (hok : Pok D0 Ls lo hi t P) (htk : tk.Perm (bks Ls 3)) (hX : WX D0 tk D4 ns [] [] nbs) (hent : (lvE ns).map (ent D4) = T.map (ent D0)) (har : ar ≤ 1) (hto : to2 ≤ 36) (hr : r ≤ 512 * to2) (hZ : Z = zer D4 (4096 + (1 - ar) * 18432) r) : (eLs (newL Ls lo hi t ns) 3).length ≤ 1900 ∧ Br (bks (newL Ls lo hi t ns) 3) := by
  obtain ⟨z1, z2, z3, z4, z5⟩ := jn_Z htk hX har hto hr hZ
  obtain ⟨p1, p2, p3⟩ := join_pure (D' := Z) hU.2.1 hU.2.2.1 hU.2.2.2.1 hn ht (by decide) hlh hPs hPp hT hlow hok htk hX hent (fun p hp => (z3 p hp).1) (fun _ => z2)
  obtain ⟨a, b, c, d⟩ := up_cnt (E := (if 0 = 1 then [] else E)) (fun l hl => (p1.1 l hl).1)
  have := p2.2.2.2.1
  exact ⟨by omega, p1.2⟩
set_option maxHeartbeats 4000000 in
theorem jn_new0 {D0 D4 Z D' : Nat → Int32} {t low c n us ar g cm gm to to2 fl r : Nat} {E P T tk nbs : List Nat} {Ls : Nat → List zF} {lo hi : Nat → Nat} {ns : List zF} {rs : List (List Nat)} {m : Mp} {v : Nat → Option Nat} (hU : Dur D0 g ar us cm c n gm Ls rs E m) (hn : n ≤ 64) (ht : t < 3) (hlh : ∀ l, l < 3 → lo l ≤ hi l) (hPs : P.Pairwise (pre D0)) (hPp : P.Perm (pks 0 E Ls lo hi 3)) (hT : Thn D0 P v low T) (hlow : low = 1 → t = 2) (hok : Pok D0 Ls lo hi t P) (htk : tk.Perm (bks Ls 3)) (hX : WX D0 tk D4 ns [] [] nbs) (hent : (lvE ns).map (ent D4) = T.map (ent D0)) (hB : Blk D0 ar us to to2 fl) (hgm : gm ≤ 2 ^ 28) (har : ar ≤ 1) (hto : to2 ≤ 36) (hr : r ≤ 512 * to2) (hZ : Z = zer D4 (4096 + (1 - ar) * 18432) r) (hr1 : r = 0) (hD8 : ∀ p, (p < ((g + 1) % 2 * 2048) ∨ ((g + 1) % 2 * 2048) + 2048 ≤ p) → D' p = Z p) (hR : Rc (fun i => D' (((g + 1) % 2 * 2048) + i)) (hdB (g + 1) ar cm (newL Ls lo hi t ns))) : Dur D' (g + 1) ar us cm c n (gm + 1) (newL Ls lo hi t ns) rs E m ∧ Vsm D0 D' E E Ls (newL Ls lo hi t ns) v ∧ Blk D' ar us to to2 fl := by
  obtain ⟨z1, z2, z3, z4, z5⟩ := jn_Z htk hX har hto hr hZ
  have hsz := jn_sz0 hU hn ht hlh hPs hPp hT hlow hok htk hX hent har hto hr hZ
  have hm := Nat.mod_lt (g + 1) (show 2 > 0 by decide)
  have hUZ := jn_old hU hn htk hX har hto hr hZ
  obtain ⟨p1, p2, p3⟩ := join_pure (D' := D') hU.2.1 hU.2.2.1 hU.2.2.2.1 hn ht (by decide) hlh hPs hPp hT hlow hok htk hX hent (fun p hp => (hD8 p (by have := (z3 p hp).2; omega)).trans (z3 p hp).1) (fun _ p h1 h2 => (hD8 p (by omega)).trans (z2 p h1 h2))
  obtain ⟨a1, a2, a3, a4, a5, a6, a7⟩ := hUZ
  have hH := a1.next (hU.sz hn).1 hsz.1 (by omega) (by omega) hD8 hR
  obtain ⟨c1, c2⟩ := a3.keep (D' := D') hn (fun p h1 h2 => hD8 p (by omega))
  refine ⟨⟨hH, p1, c1, p2, a5, a6, by omega⟩, p3, ⟨fun hf p h1 h2 => ?_, hB.2.1, hB.2.2.1, fun p h1 h2 => ?_⟩⟩
  · rw [hD8 _ (by omega), z2 _ (by omega) (by omega)]
    exact hB.1 hf p h1 h2
  · rw [hD8 _ (by omega), hZ, hr1, zer_0, z5 _ (by omega)]
    exact hB.2.2.2 p h1 h2
