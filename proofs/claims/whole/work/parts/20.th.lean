/-! ===== words of the throws ===== -/
def zps : List Nat := [74, 89, 90, 0, 476, 477, 478, 479, 480, 481, 482, 483, 484, 485, 486, 487, 488, 489, 490, 491, 492, 493, 494, 495, 496, 497, 498, 499, 500, 501, 502, 503, 504, 505, 506, 507, 508, 509, 510, 511, 512, 513, 514, 515, 516, 518, 519, 520, 521, 522, 523, 524, 525, 526, 527, 528, 529, 531, 532, 533, 534, 535, 536, 537, 538, 539, 540, 541, 542, 568, 569, 570, 571, 572, 573, 574, 575, 577, 578, 579, 580, 581, 582, 755, 756, 757, 758, 759, 760, 761, 762, 764, 765, 766, 767, 768, 769, 1070, 1071, 1072, 1073, 1074, 1075, 1076, 1077, 1079, 1080, 1081, 1082, 1083, 1084, 1565]
def zpw : List Cond := zps.filterMap (fun i => lw_tbl[i]?)
theorem zpw_mem {w : Cond} (h : w ∈ zpw) : w ∈ lw_tbl := by
  obtain ⟨i, -, h2⟩ := List.mem_filterMap.mp h
  exact List.mem_of_getElem? h2
def zcov (L : List Cond) : Bool := L.all (fun w => decide (w ∈ zpw) && zgw w && vx_ot w)
theorem zcov_spec {L : List Cond} (h : zcov L = true) : ∀ w ∈ L, (w ∈ lw_tbl ∧ zgw w = true) ∧ vx_ot w = true := by
  intro w hw
  have h1 := List.all_eq_true.mp h w hw
  simp only [Bool.and_eq_true, decide_eq_true_eq] at h1
  exact ⟨⟨zpw_mem h1.1.1, h1.1.2⟩, h1.2⟩
theorem zth_of {own : String} {ik ic k : Nat} (h1 : Cond.classLink own ik (zex k) ∈ lw_tbl) (h2 : Cond.initialized (zex k) ∈ lw_tbl) (h3 : vx_ot (Cond.classLink own ik (zex k)) = true) (h4 : vx_ot (Cond.initialized (zex k)) = true) (h5 : zcov (vx_atS own ic (zex k) zNs) = true) : zthOk own ik ic k :=
  ⟨h1, h2, fun w hw => (zcov_spec h5 w hw).1, fun w hw => by
    rcases List.mem_cons.mp hw with rfl | hw
    · exact h3
    · rcases List.mem_cons.mp hw with rfl | hw
      · exact h4
      · exact (zcov_spec h5 w hw).2⟩
set_option maxRecDepth 100000 in
set_option maxHeartbeats 4000000 in
theorem thX1_2 : zthOk RX1 42 46 2 := zth_of clX1_42 (zat_tbl 80 (by decide +kernel)) rfl rfl (by decide +kernel)
set_option maxRecDepth 100000 in
set_option maxHeartbeats 4000000 in
theorem thX11_1 : zthOk RX11 95 99 1 := zth_of clX11_95 (zat_tbl 77 (by decide +kernel)) rfl rfl (by decide +kernel)
set_option maxRecDepth 100000 in
set_option maxHeartbeats 4000000 in
theorem thX11_0 : zthOk RX11 115 119 0 := zth_of clX11_115 (zat_tbl 78 (by decide +kernel)) rfl rfl (by decide +kernel)
