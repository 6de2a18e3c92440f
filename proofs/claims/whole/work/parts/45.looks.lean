/-! pure: the looks agree -/
theorem g_coord {z : Nat → Int32} {n : Nat} (h : z 0 = nI n) (p : Int32) : f_X8_isCoordinate p z = f_X5_hasCoordinate p (nI n) := by
  unfold f_X8_isCoordinate f_X5_hasCoordinate
  rw [h]
  rfl
theorem g_coord_of {n : Nat} {p : Int32} (hn : n < 2 ^ 31) (h : ¬ f_X5_hasCoordinate p (nI n) = 0) : ∃ i, i < n ∧ p = nI i := by
  rcases pk_ix p hn with h1 | h1 | h1
  · refine absurd ?_ h
    unfold f_X5_hasCoordinate
    rw [if_pos h1]
    rfl
  · refine absurd ?_ h
    unfold f_X5_hasCoordinate
    split
    · rfl
    · try rw [if_pos h1]
      rfl
  · exact h1
theorem g_point {z : Nat → Int32} {n : Nat} (h : z 0 = nI n) (p q r : Int32) : f_X8_isPoint p q r z = f_X5_hasPoint p q r (nI n) := by
  unfold f_X8_isPoint f_X5_hasPoint
  rw [g_coord h, g_coord h, g_coord h]
  split
  · rfl
  · split
    · rfl
    · split <;> rfl
theorem g_point_of {n : Nat} {p q r : Int32} (hn : n < 2 ^ 31) (h : ¬ f_X5_hasPoint p q r (nI n) = 0) : ∃ x y w, x < n ∧ y < n ∧ w < n ∧ p = nI x ∧ q = nI y ∧ r = nI w := by
  unfold f_X5_hasPoint at h
  by_cases h1 : f_X5_hasCoordinate p (nI n) = 0
  · rw [if_pos h1] at h; exact absurd rfl h
  · rw [if_neg h1] at h
    by_cases h2 : f_X5_hasCoordinate q (nI n) = 0
    · rw [if_pos h2] at h; exact absurd rfl h
    · rw [if_neg h2] at h
      by_cases h3 : f_X5_hasCoordinate r (nI n) = 0
      · rw [if_pos h3] at h; exact absurd rfl h
      · obtain ⟨x, a1, a2⟩ := g_coord_of hn h1
        obtain ⟨y, b1, b2⟩ := g_coord_of hn h2
        obtain ⟨w, c1, c2⟩ := g_coord_of hn h3
        exact ⟨x, y, w, a1, b1, c1, a2, b2, c2⟩
theorem g_point_in {n x y w : Nat} (hn : n < 2 ^ 31) (hx : x < n) (hy : y < n) (hw : w < n) : f_X5_hasPoint (nI x) (nI y) (nI w) (nI n) = 1 := by
  have hc : ∀ i, i < n → f_X5_hasCoordinate (nI i) (nI n) = 1 := fun i hi => by
    unfold f_X5_hasCoordinate
    rw [if_neg (nI_pos (by omega)), if_neg (nI_ge hi hn)]
  unfold f_X5_hasPoint
  rw [hc x hx, hc y hy, hc w hw, if_neg (by decide), if_neg (by decide), if_neg (by decide)]
theorem g_in (p : Int32) (a b : Int32) : f_X8_in p a b = if a ≤ p ∧ p ≤ b then 1 else 0 := by
  unfold f_X8_in f_X8_in_J14
  by_cases h1 : p < a
  · rw [if_pos h1, if_neg (fun q => Int32.not_le.mpr h1 q.1)]
  · rw [if_neg h1]
    by_cases h2 : b < p
    · rw [if_pos h2, if_neg (fun q => Int32.not_le.mpr h2 q.2)]
    · rw [if_neg h2, if_pos ⟨Int32.not_lt.mp h1, Int32.not_lt.mp h2⟩]
theorem g_axis (p : Int32) : f_X8_isAxis p = f_X7_isAxis p := by
  unfold f_X8_isAxis f_X7_isAxis f_X8_in f_X8_in_J14 f_X7_isAxis_J13
  by_cases h1 : p < 0
  · rw [if_pos h1, if_pos h1]
  · rw [if_neg h1, if_neg h1]
    by_cases h2 : 2 < p
    · rw [if_pos h2, if_pos (by rw [Int32.lt_iff_toInt_lt] at h2; rw [Int32.le_iff_toInt_le]; have e2 : (2 : Int32).toInt = 2 := rfl; have e3 : (3 : Int32).toInt = 3 := rfl; omega)]
    · rw [if_neg h2, if_neg (by rw [Int32.lt_iff_toInt_lt] at h2; rw [Int32.le_iff_toInt_le]; have e2 : (2 : Int32).toInt = 2 := rfl; have e3 : (3 : Int32).toInt = 3 := rfl; omega)]
theorem g_axis_of {p : Int32} (h : ¬ f_X7_isAxis p = 0) : ∃ a, a < 3 ∧ p = nI a := by
  rcases pk_ix p (n := 3) (by decide) with h1 | h1 | h1
  · refine absurd ?_ h
    unfold f_X7_isAxis
    rw [if_pos h1]
    rfl
  · refine absurd ?_ h
    unfold f_X7_isAxis
    split
    · rfl
    · rw [if_pos (show (3 : Int32) ≤ p from h1)]
      rfl
  · exact h1
theorem g_number (p : Int32) : f_X8_isNumber p = f_X7_isNumber p := rfl
theorem o_line {z v : Nat → Int32} {n : Nat} (h : MC z v n) (p q r : Int32) : (f_X7_line p q r (nI n) v = some (.inl 1) ∧ f_X8_line p q r z = some (0, 1)) ∨ (f_X7_line p q r (nI n) v = some (.inl 2) ∧ f_X8_line p q r z = some (0, 2)) ∨ ∃ s, f_X7_line p q r (nI n) v = some (.inr s) ∧ f_X8_line p q r z = some (s, 0) := by
  have hn := h.2.1
  unfold f_X7_line f_X8_line f_X8_line_J17 f_X8_line_J33
  rw [g_coord h.2.2.1, g_coord h.2.2.1, g_axis]
  by_cases h1 : f_X5_hasCoordinate q (nI n) = 0
  · rw [if_pos h1, if_pos h1, if_neg (by decide)]
    exact Or.inl ⟨rfl, rfl⟩
  · rw [if_neg h1, if_neg h1]
    by_cases h2 : f_X5_hasCoordinate r (nI n) = 0
    · rw [if_pos h2, if_pos h2, if_neg (by decide)]
      exact Or.inl ⟨rfl, rfl⟩
    · rw [if_neg h2, if_neg h2]
      by_cases h3 : f_X7_isAxis p = 0
      · rw [if_pos h3, if_pos h3, if_neg (by decide)]
        exact Or.inr (Or.inl ⟨rfl, rfl⟩)
      · rw [if_neg h3, if_neg h3, if_pos (by decide)]
        obtain ⟨a, ha, rfl⟩ := g_axis_of h3
        obtain ⟨f, hf, rfl⟩ := g_coord_of (by omega) h1
        obtain ⟨l, hl, rfl⟩ := g_coord_of (by omega) h2
        rw [p_lineSum hn ha hf hl, p8_lineSum h ha hf hl]
        exact Or.inr (Or.inr ⟨_, rfl, rfl⟩)
/-- what a slice is told as, on both sides -/
theorem o_slice {z v : Nat → Int32} {n : Nat} (h : MC z v n) (p q r : Int32) (lS lF lG lR : Nat → Int32) : (f_X7_slice p q r (nI n) (z 2) v lS lF lG lR = some (.inl 1) ∧ f_X8_slice p q r z = some (0, 1)) ∨ (f_X7_slice p q r (nI n) (z 2) v lS lF lG lR = some (.inl 2) ∧ f_X8_slice p q r z = some (0, 2)) ∨ ∃ s t, f_X7_slice p q r (nI n) (z 2) v lS lF lG lR = some (.inr (s, t)) ∧ f_X8_slice p q r z = some (s, 0) := by
  have hn := h.2.1
  unfold f_X7_slice f_X8_slice f_X8_slice_J33 f_X8_slice_J34
  rw [g_coord h.2.2.1, g_axis]
  by_cases h1 : f_X5_hasCoordinate q (nI n) = 0
  · rw [if_pos h1, if_pos h1, if_neg (by decide)]
    exact Or.inl ⟨rfl, rfl⟩
  · rw [if_neg h1, if_neg h1]
    by_cases h3 : f_X7_isAxis p = 0
    · rw [if_pos h3, if_pos h3, if_neg (by decide)]
      exact Or.inr (Or.inl ⟨rfl, rfl⟩)
    · rw [if_neg h3, if_neg h3]
      unfold f_X8_in f_X8_in_J14
      by_cases h4 : r < 0
      · rw [if_pos h4, if_pos h4, if_pos rfl, if_neg (by decide)]
        exact Or.inr (Or.inl ⟨rfl, rfl⟩)
      · rw [if_neg h4, if_neg h4]
        by_cases h5 : r ≤ 4
        · rw [if_pos h5, if_neg (Int32.not_lt.mpr h5), if_neg (by decide), if_pos (by decide)]
          obtain ⟨a, ha, rfl⟩ := g_axis_of h3
          obtain ⟨i, hi, rfl⟩ := g_coord_of (by omega) h1
          rw [p_lookAt h.1 hn ha hi, p8_toldSlice h ha hi]
          simp only [Option.bind_some]
          rw [p_told hn hi (v := v) (a := a) (by unfold upd; rw [if_pos rfl]; rfl) (by unfold upd; rw [if_pos rfl]; rfl) (by unfold upd; rw [if_pos rfl]; rfl) (by unfold upd; rw [if_pos rfl]; rfl)]
          exact Or.inr (Or.inr ⟨_, _, rfl, rfl⟩)
        · rw [if_neg h5, if_pos (Int32.not_le.mp h5), if_pos rfl, if_neg (by decide)]
          exact Or.inr (Or.inl ⟨rfl, rfl⟩)
theorem p_place (n x y w : Nat) : f_X5_place (nI x) (nI y) (nI w) (nI n) = nI (idN n x y w) := by
  unfold f_X5_place idN
  rw [pk_mul, nI_add, pk_mul, nI_add]
theorem idN_512 {n x y w : Nat} (hn : n ≤ 8) (hx : x < n) (hy : y < n) (hw : w < n) : idN n x y w < 512 := Nat.lt_of_lt_of_le (idN_lt hx hy hw) (cube_le hn)
theorem o_at {z v : Nat → Int32} {n : Nat} (h : MC z v n) (p q r : Int32) : (f_X7_at p q r (nI n) v = .inl 1 ∧ f_X8_at p q r z = some (0, 1)) ∨ ∃ s, f_X7_at p q r (nI n) v = .inr s ∧ f_X8_at p q r z = some (s, 0) := by
  have hn := h.2.1
  unfold f_X7_at f_X8_at f_X8_at_J16
  rw [g_point h.2.2.1]
  by_cases h1 : f_X5_hasPoint p q r (nI n) = 0
  · rw [if_pos h1, if_pos h1, if_neg (by decide)]
    exact Or.inl ⟨rfl, rfl⟩
  · rw [if_neg h1, if_neg h1, if_pos (by decide)]
    obtain ⟨x, y, w, hx, hy, hw, rfl, rfl, rfl⟩ := g_point_of (by omega) h1
    rw [p_place, p_num v (idN_512 hn hx hy hw), p8_place, i3, dz_in_nI _ (by omega) (by decide), nI_clamp (by omega), h.2.2.2 x y w hx hy hw]
    exact Or.inr ⟨_, rfl, rfl⟩
theorem p_roomBy {n a : Nat} (hn2 : 2 ≤ n) (hn : n ≤ 8) (ha : a < 3) (m : Int32) (v : Nat → Int32) (lD : Int32) (lS lF lG lR : Nat → Int32) : f_X7_roomBy (nI a) (nI n) m v lD lS lF lG lR = some (rBy v n a m, nI n, uTo lS (vS v n a) n, uTo lF (vF v n a) n, uTo lG (vG v n a) n, uTo lR (vR v n a) n) := by
  unfold f_X7_roomBy
  rw [p_look hn2 hn ha]
  simp only [Option.bind_some]
  rw [p_roomOfAll hn (uTo_sees n _ _) (uTo_sees n _ _)]
  rfl
theorem o_ifKept {z v : Nat → Int32} {n : Nat} (h : MC z v n) (p : Int32) (lD : Int32) (lS lF lG lR : Nat → Int32) : (f_X7_ifKept p (nI n) (z 2) v lD lS lF lG lR = some (.inl 2) ∧ f_X8_ifKept p z = some (0, 1)) ∨ ∃ s t, f_X7_ifKept p (nI n) (z 2) v lD lS lF lG lR = some (.inr (s, t)) ∧ f_X8_ifKept p z = some (s, 0) := by
  unfold f_X7_ifKept f_X8_ifKept f_X8_ifKept_J13
  rw [g_axis]
  by_cases h3 : f_X7_isAxis p = 0
  · rw [if_pos h3, if_pos h3, if_neg (by decide)]
    exact Or.inl ⟨rfl, rfl⟩
  · rw [if_neg h3, if_neg h3, if_pos (by decide)]
    obtain ⟨a, ha, rfl⟩ := g_axis_of h3
    rw [p_roomBy h.1 h.2.1 ha, p8_roomBy h ha]
    exact Or.inr ⟨_, _, rfl, rfl⟩
theorem o_difference {z v w : Nat → Int32} {n a m : Nat} (h : MR z v w n a m) (p : Int32) : (f_X7_difference p (nI n) v w = some (.inl 2) ∧ f_X8_difference p z = some (0, 1)) ∨ ∃ s t, f_X7_difference p (nI n) v w = some (.inr (s, t)) ∧ f_X8_difference p z = some (s, 0) := by
  unfold f_X7_difference f_X8_difference f_X8_difference_J15 f_X8_in f_X8_in_J14
  by_cases h4 : p < 0
  · rw [if_pos h4, if_pos h4, if_pos rfl, if_neg (by decide)]
    exact Or.inl ⟨rfl, rfl⟩
  · rw [if_neg h4, if_neg h4]
    by_cases h5 : p ≤ 3
    · rw [if_pos h5, if_neg (Int32.not_lt.mpr h5), if_neg (by decide), if_pos (by decide), p_dlook h.1.2.1, p8_dtold h]
      exact Or.inr ⟨_, _, rfl, rfl⟩
    · rw [if_neg h5, if_pos (Int32.not_le.mp h5), if_pos rfl, if_neg (by decide)]
      exact Or.inl ⟨rfl, rfl⟩
/-- what is counted -/
def cTold (v : Nat → Int32) (n a : Nat) (m s : Int32) (k : Nat) : Int32 := if k = 0 then nI n else if k = 1 then nI a else if k = 2 then sCnt v (n * n * n) else if k = 3 then sSum v (n * n * n) else if k = 4 then rBy v n a m else if k = 8 then s else sSum (fun i => if sForm m (vF v n a i) = nI (k - 5) then 1 else 0) n
theorem p8_room {z v : Nat → Int32} {n a : Nat} (h : MC z v n) (h1 : z 1 = nI a) (ha : a < 3) : f_X8_room z = some (rBy v n a (z 2)) := by
  unfold f_X8_room
  rw [h1, p8_roomBy h ha]
  rfl
theorem p8_counted {z v w : Nat → Int32} {n a m : Nat} (h : MR z v w n a m) (s : Int32) {k : Nat} (hk : k < 9) : f_X8_counted (nI k) z s = some (cTold v n a (nI m) s k) := by
  have h1 := h.2.1
  have h2 := h.2.2.1
  have h3 := h.2.2.2.1
  have hal := p8_all h
  have hs : ∀ k, f_X8_slicesOf k z = _ := fun k => p8_slicesOf h.1 h1 h2 k
  unfold f_X8_counted f_X8_counted_J62 f_X8_counted_J73 f_X8_counted_J82
  rw [p8_room h.1 h1 h2, hal.1, hal.2, hs, h1, h.1.2.2.1, h3]
  rcases (show k = 0 ∨ k = 1 ∨ k = 2 ∨ k = 3 ∨ k = 4 ∨ k = 5 ∨ k = 6 ∨ k = 7 ∨ k = 8 by omega) with rfl | rfl | rfl | rfl | rfl | rfl | rfl | rfl | rfl <;> rfl
theorem p7_count {n a k : Nat} (hn2 : 2 ≤ n) (hn : n ≤ 8) (ha : a < 3) (hk : k < 9) (m s : Int32) (v : Nat → Int32) (lD : Int32) (lS lF lG lR : Nat → Int32) : ∃ t, f_X7_count (nI k) (nI n) (nI a) m v s lD lS lF lG lR = some (.inr (cTold v n a m s k, t)) := by
  unfold f_X7_count f_X7_count_J124
  rw [if_neg (nI_pos (by omega)), if_pos (show nI k ≤ 8 from nI_le (b := 8) (by omega) (by decide)), p_filled hn, p_sum hn, p_roomBy hn2 hn ha, p_look hn2 hn ha]
  simp only [Option.bind_some]
  rw [p_countOfForm hn (uTo_sees n _ _)]
  simp only [Option.bind_some]
  rcases (show k = 0 ∨ k = 1 ∨ k = 2 ∨ k = 3 ∨ k = 4 ∨ k = 5 ∨ k = 6 ∨ k = 7 ∨ k = 8 by omega) with rfl | rfl | rfl | rfl | rfl | rfl | rfl | rfl | rfl <;> exact ⟨_, rfl⟩
theorem o_count {z v w : Nat → Int32} {n a m : Nat} (h : MR z v w n a m) (s p : Int32) (lD : Int32) (lS lF lG lR : Nat → Int32) : (f_X7_count p (nI n) (nI a) (nI m) v s lD lS lF lG lR = some (.inl 2) ∧ f_X8_count p z s = some (0, 1)) ∨ ∃ r t, f_X7_count p (nI n) (nI a) (nI m) v s lD lS lF lG lR = some (.inr (r, t)) ∧ f_X8_count p z s = some (r, 0) := by
  unfold f_X8_count f_X8_count_J16 f_X8_in f_X8_in_J14
  by_cases h4 : p < 0
  · rw [if_pos h4, if_pos rfl, if_neg (by decide)]
    refine Or.inl ⟨?_, rfl⟩
    unfold f_X7_count
    rw [if_pos h4]
  · rw [if_neg h4]
    by_cases h5 : p ≤ 8
    · rw [if_neg (Int32.not_lt.mpr h5), if_neg (by decide), if_pos (by decide)]
      obtain ⟨k, hk, rfl⟩ := nI_of2 (n := 8) rfl h4 h5
      rw [p8_counted h s (by omega)]
      obtain ⟨t, ht⟩ := p7_count h.1.1 h.1.2.1 h.2.2.1 (show k < 9 by omega) (nI m) s v lD lS lF lG lR
      exact Or.inr ⟨_, t, ht, rfl⟩
    · rw [if_pos (Int32.not_le.mp h5), if_pos rfl, if_neg (by decide)]
      refine Or.inl ⟨?_, rfl⟩
      unfold f_X7_count
      rw [if_neg h4, if_neg h5]
