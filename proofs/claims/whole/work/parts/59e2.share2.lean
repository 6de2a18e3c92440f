/-! pure: roomShare, both sides -/
/-- the share of a cube, as both sides answer it -/
def shrV (v : Nat → Int32) (n a : Nat) (m : Int32) : UInt64 := FP.ddiv (FP.i2d (rBy v n a m)) (FP.i2d (nI (n * (1 + n * n))))
theorem shrV_ok {n : Nat} (hn2 : 2 ≤ n) (hn : n ≤ 8) (v : Nat → Int32) (a : Nat) (m : Int32) : shrV v n a m &&& 0x7fffffffffffffff ≤ 0x7ff0000000000000 ∧ ∃ b, f_X7_bitsOf (shrV v n a m) = some b ∧ f_X8_bitsOf (shrV v n a m) = some b := by
  obtain ⟨r, h1, h2, h3⟩ := rBy_le2 hn2 v a m
  have := okB_of (okAll hn2 hn h2 h3)
  unfold shrV
  rw [h1]
  exact this
theorem p_share {n a : Nat} (hn2 : 2 ≤ n) (hn : n ≤ 8) (ha : a < 3) (m : Int32) (v : Nat → Int32) (lD : Int32) (lS lF lG lR : Nat → Int32) : ∃ t, f_X7_roomShare (nI n) (nI a) m v lD lS lF lG lR = some (shrV v n a m, t) := by
  obtain ⟨h1, h2⟩ := p_den hn2 hn
  unfold f_X7_roomShare
  rw [if_neg h2, p_roomBy hn2 hn ha, h1]
  exact ⟨_, if_pos (shrV_ok hn2 hn v a m).1⟩
theorem p8_share {z v : Nat → Int32} {n a : Nat} (h : MC z v n) (h1 : z 1 = nI a) (ha : a < 3) : f_X8_share z = some (shrV v n a (z 2)) := by
  obtain ⟨g1, _⟩ := p_den h.1 h.2.1
  unfold f_X8_share
  rw [p8_room h h1 ha, p8_offsets h, h.2.2.1, show (1 : Int32) + nI (n * n) = 1 + nI n * nI n by rw [pk_mul], g1]
  exact if_pos (shrV_ok h.1 h.2.1 v a (z 2)).1
theorem o_roomShare {z v w : Nat → Int32} {n a m : Nat} (h : MR z v w n a m) (lD : Int32) (lS lF lG lR : Nat → Int32) : ∃ s t, f_X7_roomShare (nI n) (nI a) (nI m) v lD lS lF lG lR = some (s, t) ∧ f_X8_roomShare z = some (s, 0) := by
  obtain ⟨t, ht⟩ := p_share h.1.1 h.1.2.1 h.2.2.1 (nI m) v lD lS lF lG lR
  refine ⟨_, t, ht, ?_⟩
  unfold f_X8_roomShare
  rw [p8_share h.1 h.2.1 h.2.2.1, h.2.2.2.1]
  rfl
