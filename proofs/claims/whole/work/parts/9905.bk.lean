/-! ===== the memory behind the constructors, place by place ===== -/
def psx : List (Nat × Nat) := [(34, 1), (35, 1), (69, 17), (70, 17), (401, 38), (258, 576), (259, 576), (258, 578), (259, 578), (258, 580), (259, 580)]
theorem bk_K : ∀ i, i < 582 → zK b17 i = kd i := by decide +kernel
theorem bk_N : ∀ i, i < 582 → 14 ≤ kd i → zN b17 i = ln i := by decide +kernel
theorem bk_R : ∀ q ∈ rfs, zR b17 q.1 q.2.1 = some q.2.2 := by decide +kernel
theorem bk_T : ∀ j, j < 259 → zR b17 256 (tA j) = some 1 ∧ zR b17 257 (tA j) = some (tB j) := by decide +kernel
theorem bk_L : ∀ l, l < 3 → zR b17 128 (32 + l) = some 1 ∧ zR b17 129 (32 + l) = some (tA (256 + l)) ∧ zR b17 130 (32 + l) = some (35 + l) := by decide +kernel
theorem bk_B : ∀ l, l < 3 → zB b17 22 l = some (32 + l) := by decide +kernel
theorem bk_P : ∀ j, j < 256 → zB b17 20 j = some (tA j) := by decide +kernel
theorem bk_I : ∀ q ∈ psx, zI b17 q.1 q.2 = ivl q.1 q.2 := by decide +kernel
theorem bk_A : ∀ j, j < 8 → zA b17 14 j = -1 := by decide +kernel
theorem bk_C : zC b17 + 65 ≤ 600128 ∧ zS b17 + 390 ≤ 7301098 := by decide +kernel
theorem kd_gap : ∀ i, i < 582 → kd i = 0 → 47 ≤ i ∧ i < 64 := by decide +kernel
theorem kd_gap2 : ∀ i, i < 582 → 47 ≤ i → i < 64 → kd i = 0 := by decide +kernel
theorem kd_odd : ∀ i, i < 582 → 576 ≤ i → kd i < 14 → i = 576 ∨ i = 578 ∨ i = 580 := by decide +kernel
theorem kd_rf : ∀ q ∈ rfs, q.2.1 < 582 ∧ kd q.2.1 ≠ 0 ∧ kd q.2.1 < 14 := by decide +kernel
