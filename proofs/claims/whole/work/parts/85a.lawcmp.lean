/-! pure: no share is NaN -/
theorem cq2 : ∀ r : Fin 12, Op.cmpValue (FP.dcmp (shN 2 (r.1 + 1)) (shN 2 (r.1 + 1))) .l = 0 := by decide +kernel
theorem cq3 : ∀ r : Fin 33, Op.cmpValue (FP.dcmp (shN 3 (r.1 + 1)) (shN 3 (r.1 + 1))) .l = 0 := by decide +kernel
theorem cq4 : ∀ r : Fin 72, Op.cmpValue (FP.dcmp (shN 4 (r.1 + 1)) (shN 4 (r.1 + 1))) .l = 0 := by decide +kernel
theorem cq5 : ∀ r : Fin 135, Op.cmpValue (FP.dcmp (shN 5 (r.1 + 1)) (shN 5 (r.1 + 1))) .l = 0 := by decide +kernel
theorem cq6 : ∀ r : Fin 228, Op.cmpValue (FP.dcmp (shN 6 (r.1 + 1)) (shN 6 (r.1 + 1))) .l = 0 := by decide +kernel
theorem cq7 : ∀ r : Fin 357, Op.cmpValue (FP.dcmp (shN 7 (r.1 + 1)) (shN 7 (r.1 + 1))) .l = 0 := by decide +kernel
theorem cq8 : ∀ r : Fin 528, Op.cmpValue (FP.dcmp (shN 8 (r.1 + 1)) (shN 8 (r.1 + 1))) .l = 0 := by decide +kernel
theorem cqAll {n r : Nat} (hn2 : 2 ≤ n) (hn : n ≤ 8) (h1 : 1 ≤ r) (h2 : r ≤ (2 + n * n) * n) : Op.cmpValue (FP.dcmp (shN n r) (shN n r)) .l = 0 := by
  obtain ⟨q, rfl⟩ : ∃ q, r = q + 1 := ⟨r - 1, by omega⟩
  have : n = 2 ∨ n = 3 ∨ n = 4 ∨ n = 5 ∨ n = 6 ∨ n = 7 ∨ n = 8 := by omega
  rcases this with rfl | rfl | rfl | rfl | rfl | rfl | rfl
  · exact cq2 ⟨q, by omega⟩
  · exact cq3 ⟨q, by omega⟩
  · exact cq4 ⟨q, by omega⟩
  · exact cq5 ⟨q, by omega⟩
  · exact cq6 ⟨q, by omega⟩
  · exact cq7 ⟨q, by omega⟩
  · exact cq8 ⟨q, by omega⟩
theorem o_roomShare2 {z v w : Nat → Int32} {n a m : Nat} (h : MR z v w n a m) (lD : Int32) (lS lF lG lR : Nat → Int32) : ∃ s t, f_X7_roomShare (nI n) (nI a) (nI m) v lD lS lF lG lR = some (s, t) ∧ f_X8_roomShare z = some (s, 0) ∧ Op.cmpValue (FP.dcmp s s) .l = 0 := by
  obtain ⟨t, ht⟩ := p_share h.1.1 h.1.2.1 h.2.2.1 (nI m) v lD lS lF lG lR
  refine ⟨_, t, ht, ?_, ?_⟩
  · unfold f_X8_roomShare
    rw [p8_share h.1 h.2.1 h.2.2.1, h.2.2.2.1]
    rfl
  · obtain ⟨r, h1, h2, h3⟩ := rBy_le2 h.1.1 v a (nI m)
    unfold shrV
    rw [h1]
    exact cqAll h.1.1 h.1.2.1 h2 h3
