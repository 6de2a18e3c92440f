/-! pure: a number put, and what it would bring -/
theorem idN_mod {n x y w : Nat} (hx : x < n) : idN n x y w % n = x := by
  unfold idN
  rw [Nat.add_mul_mod_self_left, Nat.mod_eq_of_lt hx]
theorem idN_div {n x y w : Nat} (hx : x < n) : idN n x y w / n = y + n * w := by
  unfold idN
  rw [Nat.add_mul_div_left _ _ (by omega), Nat.div_eq_of_lt hx, Nat.zero_add]
theorem idN_dm {n x y w : Nat} (hx : x < n) (hy : y < n) : idN n x y w / n % n = y := by
  rw [idN_div hx, Nat.add_mul_mod_self_left, Nat.mod_eq_of_lt hy]
theorem idN_dd {n x y w : Nat} (hx : x < n) (hy : y < n) : idN n x y w / (n * n) = w := by
  rw [← Nat.div_div_eq_div_mul, idN_div hx, Nat.add_mul_div_left _ _ (by omega), Nat.div_eq_of_lt hy, Nat.zero_add]
theorem idN_inj {n x y w x' y' w' : Nat} (hx : x < n) (hy : y < n) (hx' : x' < n) (hy' : y' < n) (h : idN n x y w = idN n x' y' w') : x = x' ∧ y = y' ∧ w = w' := by
  refine ⟨?_, ?_, ?_⟩
  · rw [← idN_mod (y := y) (w := w) hx, h, idN_mod hx']
  · rw [← idN_dm (w := w) hx hy, h, idN_dm hx' hy']
  · rw [← idN_dd (w := w) hx hy, h, idN_dd hx' hy']
theorem MC.put {z v : Nat → Int32} {n x y w : Nat} (h : MC z v n) (hx : x < n) (hy : y < n) (hw : w < n) (c : Int32) : MC (upd z (3 + (x + 8 * y + 64 * w)) c) (upd v (idN n x y w) c) n := by
  obtain ⟨h1, h2, h3, h4⟩ := h
  refine ⟨h1, h2, ?_, fun x' y' w' hx' hy' hw' => ?_⟩
  · unfold upd
    rw [if_neg (by omega)]
    exact h3
  · unfold upd
    by_cases e : x' = x ∧ y' = y ∧ w' = w
    · obtain ⟨rfl, rfl, rfl⟩ := e
      rw [if_pos rfl, if_pos rfl]
    · rw [if_neg (fun q => e (by omega)), if_neg (fun q => e (idN_inj hx' hy' hx hy q)), h4 x' y' w' hx' hy' hw']
theorem upd_upd (f : Nat → Int32) (k : Nat) (a b : Int32) : upd (upd f k a) k b = upd f k b := by
  funext j
  unfold upd
  split <;> rfl
theorem upd_self (f : Nat → Int32) (k : Nat) : upd f k (f k) = f := by
  funext j
  unfold upd
  split
  · rename_i h; rw [h]
  · rfl
def cdN (a x y w : Nat) : Nat := if a = 0 then x else if a = 1 then y else w
theorem p_coord {n a x y w : Nat} (hn2 : 2 ≤ n) (hn : n ≤ 8) (ha : a < 3) (hx : x < n) (hy : y < n) (hw : w < n) : f_X5_coordinate (nI (idN n x y w)) (nI a) (nI n) = some (nI (cdN a x y w)) := by
  have h512 := idN_512 hn hx hy hw
  have hnn : n * n ≤ 64 := Nat.mul_le_mul hn hn
  have hst : 0 < stN n a ∧ stN n a ≤ 64 := by
    unfold stN
    split
    · omega
    · split
      · omega
      · exact ⟨Nat.mul_pos (by omega) (by omega), hnn⟩
  unfold f_X5_coordinate
  rw [p_step n ha, if_neg (nI_nle hst.1 (by omega)), if_neg (nI_nle (by omega) (by omega)), dz_nz_nI _ hst.1 (by omega), dz_nz_nI _ (by omega) (by omega), pk_div (by omega) hst.1 (by omega), pk_rem (Nat.lt_of_le_of_lt (Nat.div_le_self _ _) (by omega)) (by omega) (by omega)]
  congr 2
  refine a3 (P := fun a => idN n x y w / stN n a % n = cdN a x y w) ?_ ?_ ?_ ha
  · show idN n x y w / 1 % n = x
    rw [Nat.div_one, idN_mod hx]
  · show idN n x y w / n % n = y
    rw [idN_dm hx hy]
  · show idN n x y w / (n * n) % n = w
    rw [idN_dd hx hy, Nat.mod_eq_of_lt hw]
theorem cdN_lt {n a x y w : Nat} (hx : x < n) (hy : y < n) (hw : w < n) : cdN a x y w < n := by
  unfold cdN
  split
  · exact hx
  · split
    · exact hy
    · exact hw
/-- what would be, with a number put -/
def iTold (v : Nat → Int32) (n a : Nat) (m : Int32) (x y w : Nat) (c k : Int32) : Int32 := if k = 0 then rBy (upd v (idN n x y w) c) n a m else sForm m (vF (upd v (idN n x y w) c) n a (cdN a x y w))
theorem p8_wouldPut {z v : Nat → Int32} {n a x y w : Nat} (h : MC z v n) (h1 : z 1 = nI a) (ha : a < 3) (hx : x < n) (hy : y < n) (hw : w < n) (c k : Int32) : f_X8_wouldPut (nI x) (nI y) (nI w) c k z = some (iTold v n a (z 2) x y w c k, z) := by
  have hn := h.2.1
  have hp := h.put hx hy hw c
  have e1 : (upd z (3 + (x + 8 * y + 64 * w)) c) 1 = nI a := by unfold upd; rw [if_neg (by omega), h1]
  have e2 : (upd z (3 + (x + 8 * y + 64 * w)) c) 2 = z 2 := by unfold upd; rw [if_neg (by omega)]
  have hJ : ∀ s, f_X8_wouldPut_J84 (nI x) (nI y) (nI w) c z s = some (s, z) := by
    intro s
    unfold f_X8_wouldPut_J84
    rw [p8_place, i3, dz_in_nI _ (by omega) (by decide), nI_clamp (by omega), upd_upd, upd_self]
  have hK : f_X8_wouldPut_J58 (nI x) (nI y) (nI w) c k z (nI (cdN a x y w)) = some (iTold v n a (z 2) x y w c k, z) := by
    unfold f_X8_wouldPut_J58 iTold
    rw [p8_place, i3, nI_clamp (by omega), p8_room hp e1 ha, e1, p8_form hp ha (cdN_lt hx hy hw), e2]
    simp only [Option.bind_some]
    rw [hJ, hJ]
    split <;> rfl
  unfold f_X8_wouldPut
  rw [p8_place, i3, dz_in_nI _ (by omega) (by decide), dz_in_nI _ (by omega) (by decide), nI_clamp (by omega), e1]
  rw [← hK]
  refine a3 (P := fun a => (if nI a = 0 then f_X8_wouldPut_J58 (nI x) (nI y) (nI w) c k z (nI x) else if nI a = 1 then f_X8_wouldPut_J58 (nI x) (nI y) (nI w) c k z (nI y) else f_X8_wouldPut_J58 (nI x) (nI y) (nI w) c k z (nI w)) = f_X8_wouldPut_J58 (nI x) (nI y) (nI w) c k z (nI (cdN a x y w))) ?_ ?_ ?_ ha
  · rfl
  · rfl
  · rw [if_neg (by decide), if_neg (by decide)]
    rfl
theorem p7_ifPut {v : Nat → Int32} {n a x y w : Nat} (hn2 : 2 ≤ n) (hn : n ≤ 8) (ha : a < 3) (hx : x < n) (hy : y < n) (hw : w < n) (c k m : Int32) (hc : ¬ f_X7_isNumber c = 0) (hk1 : ¬ k < 0) (hk2 : k ≤ 1) (lD : Int32) (lS lF lG lR : Nat → Int32) : ∃ t, f_X7_ifPut (nI x) (nI y) (nI w) c k (nI n) (nI a) m v lD lS lF lG lR = some (.inr (iTold v n a m x y w c k, v, t)) := by
  have h512 := idN_512 hn hx hy hw
  unfold f_X7_ifPut iTold
  rw [g_point_in (by omega) hx hy hw, if_neg (by decide), if_neg hc, if_neg hk1, if_pos hk2, p_place, p_write _ _ h512, p_num _ h512, p_write _ _ h512, upd_upd, upd_self, p_look hn2 hn ha, p_coord hn2 hn ha hx hy hw]
  simp only [Option.bind_some]
  rw [p_roomOfAll hn (uTo_sees n _ _) (uTo_sees n _ _), p_form hn (cdN_lt hx hy hw) (uTo_sees n _ _)]
  simp only [Option.bind_some]
  split
  · exact ⟨_, rfl⟩
  · exact ⟨_, rfl⟩
theorem o_ifPut {z v : Nat → Int32} {n a : Nat} (h : MC z v n) (h1 : z 1 = nI a) (ha : a < 3) (p q r c k : Int32) (lD : Int32) (lS lF lG lR : Nat → Int32) : (f_X7_ifPut p q r c k (nI n) (nI a) (z 2) v lD lS lF lG lR = some (.inl 1) ∧ f_X8_ifPut p q r c k z = some (0, 1, z)) ∨ (f_X7_ifPut p q r c k (nI n) (nI a) (z 2) v lD lS lF lG lR = some (.inl 2) ∧ f_X8_ifPut p q r c k z = some (0, 2, z)) ∨ ∃ s t, f_X7_ifPut p q r c k (nI n) (nI a) (z 2) v lD lS lF lG lR = some (.inr (s, v, t)) ∧ f_X8_ifPut p q r c k z = some (s, 0, z) := by
  have hn := h.2.1
  unfold f_X8_ifPut f_X8_ifPut_J37 f_X8_ifPut_J38
  rw [g_point h.2.2.1, g_number]
  by_cases h1' : f_X5_hasPoint p q r (nI n) = 0
  · rw [if_pos h1', if_neg (by decide)]
    refine Or.inl ⟨?_, rfl⟩
    unfold f_X7_ifPut
    rw [if_pos h1']
  · rw [if_neg h1']
    by_cases h2 : f_X7_isNumber c = 0
    · rw [if_pos h2, if_neg (by decide)]
      refine Or.inr (Or.inl ⟨?_, rfl⟩)
      unfold f_X7_ifPut
      rw [if_neg h1', if_pos h2]
    · rw [if_neg h2]
      unfold f_X8_in f_X8_in_J14
      by_cases h4 : k < 0
      · rw [if_pos h4, if_pos rfl, if_neg (by decide)]
        refine Or.inr (Or.inl ⟨?_, rfl⟩)
        unfold f_X7_ifPut
        rw [if_neg h1', if_neg h2, if_pos h4]
      · rw [if_neg h4]
        by_cases h5 : k ≤ 1
        · rw [if_neg (Int32.not_lt.mpr h5), if_neg (by decide), if_pos (by decide)]
          obtain ⟨x, y, w, hx, hy, hw, rfl, rfl, rfl⟩ := g_point_of (by omega) h1'
          obtain ⟨t, ht⟩ := p7_ifPut h.1 hn ha hx hy hw c k (z 2) h2 h4 h5 lD lS lF lG lR
          rw [p8_wouldPut h h1 ha hx hy hw]
          exact Or.inr (Or.inr ⟨_, t, ht, rfl⟩)
        · rw [if_pos (Int32.not_le.mp h5), if_pos rfl, if_neg (by decide)]
          refine Or.inr (Or.inl ⟨?_, rfl⟩)
          unfold f_X7_ifPut
          rw [if_neg h1', if_neg h2, if_neg h4, if_neg h5]
