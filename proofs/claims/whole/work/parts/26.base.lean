theorem nf_0 : ∀ j, j < 8 → defaultValue (x_ty 0 j) = vp_V [.null, .null, .null, .null, .null, .null, .null, .null] j := by
  intro j hj
  have hk : j = 0 ∨ j = 1 ∨ j = 2 ∨ j = 3 ∨ j = 4 ∨ j = 5 ∨ j = 6 ∨ j = 7 := by omega
  rcases hk with rfl | rfl | rfl | rfl | rfl | rfl | rfl | rfl <;> rfl
theorem nf_1 : ∀ j, j < 3 → defaultValue (x_ty 1 j) = vp_V [.int (nI 0), .null, .int (nI 0)] j := by
  intro j hj
  have hk : j = 0 ∨ j = 1 ∨ j = 2 := by omega
  rcases hk with rfl | rfl | rfl <;> rfl
theorem nf_2 : ∀ j, j < 2 → defaultValue (x_ty 2 j) = vp_V [.null, .int (nI 0)] j := by
  intro j hj
  have hk : j = 0 ∨ j = 1 := by omega
  rcases hk with rfl | rfl <;> rfl
theorem nf_3 : ∀ j, j < 2 → defaultValue (x_ty 3 j) = vp_V [.int (nI 0), .null] j := by
  intro j hj
  have hk : j = 0 ∨ j = 1 := by omega
  rcases hk with rfl | rfl <;> rfl
theorem nf_4 : ∀ j, j < 5 → defaultValue (x_ty 4 j) = vp_V [.int (nI 0), .int (nI 0), .int (nI 0), .int (nI 0), .int (nI 0)] j := by
  intro j hj
  have hk : j = 0 ∨ j = 1 ∨ j = 2 ∨ j = 3 ∨ j = 4 := by omega
  rcases hk with rfl | rfl | rfl | rfl | rfl <;> rfl
theorem nf_5 : ∀ j, j < 6 → defaultValue (x_ty 5 j) = vp_V [.int (nI 0), .int (nI 0), .int (nI 0), .null, .long 0, .null] j := by
  intro j hj
  have hk : j = 0 ∨ j = 1 ∨ j = 2 ∨ j = 3 ∨ j = 4 ∨ j = 5 := by omega
  rcases hk with rfl | rfl | rfl | rfl | rfl | rfl <;> rfl
theorem nf_6 : ∀ j, j < 3 → defaultValue (x_ty 6 j) = vp_V [.int (nI 0), .int (nI 0), .null] j := by
  intro j hj
  have hk : j = 0 ∨ j = 1 ∨ j = 2 := by omega
  rcases hk with rfl | rfl | rfl <;> rfl
theorem nf_7 : ∀ j, j < 2 → defaultValue (x_ty 7 j) = vp_V [.int (nI 0), .null] j := by
  intro j hj
  have hk : j = 0 ∨ j = 1 := by omega
  rcases hk with rfl | rfl <;> rfl
theorem nf_8 : ∀ j, j < 3 → defaultValue (x_ty 8 j) = vp_V [.null, .int (nI 0), .int (nI 0)] j := by
  intro j hj
  have hk : j = 0 ∨ j = 1 ∨ j = 2 := by omega
  rcases hk with rfl | rfl | rfl <;> rfl
theorem nf_9 : ∀ j, j < 32 → defaultValue (x_ty 9 j) = vp_V [.int (nI 0), .null, .null, .null, .null, .null, .int (nI 0), .int (nI 0), .null, .null, .null, .null, .int (nI 0), .null, .null, .int (nI 0), .null, .null, .null, .null, .null, .int (nI 0), .null, .null, .null, .int (nI 0), .null, .null, .null, .int (nI 0), .null, .null] j := by
  intro j hj
  have hk : j = 0 ∨ j = 1 ∨ j = 2 ∨ j = 3 ∨ j = 4 ∨ j = 5 ∨ j = 6 ∨ j = 7 ∨ j = 8 ∨ j = 9 ∨ j = 10 ∨ j = 11 ∨ j = 12 ∨ j = 13 ∨ j = 14 ∨ j = 15 ∨ j = 16 ∨ j = 17 ∨ j = 18 ∨ j = 19 ∨ j = 20 ∨ j = 21 ∨ j = 22 ∨ j = 23 ∨ j = 24 ∨ j = 25 ∨ j = 26 ∨ j = 27 ∨ j = 28 ∨ j = 29 ∨ j = 30 ∨ j = 31 := by omega
  rcases hk with rfl | rfl | rfl | rfl | rfl | rfl | rfl | rfl | rfl | rfl | rfl | rfl | rfl | rfl | rfl | rfl | rfl | rfl | rfl | rfl | rfl | rfl | rfl | rfl | rfl | rfl | rfl | rfl | rfl | rfl | rfl | rfl <;> rfl
