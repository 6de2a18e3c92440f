/-! pure: tools -/
theorem dz_iter_count {σ ε : Type} {b : σ → Option (σ ⊕ ε)} (seq : Nat → σ) (N : Nat) {e : ε} (hs : ∀ i, i < N → b (seq i) = some (.inl (seq (i + 1)))) (he : b (seq N) = some (.inr e)) : ∀ (k i n : Nat), i + k = N → k < n → dz_iter n b (seq i) = some e := by
  intro k
  induction k with
  | zero =>
    intro i n h hn
    obtain ⟨m, rfl⟩ : ∃ m, n = m + 1 := ⟨n - 1, by omega⟩
    have hi : i = N := by omega
    subst hi
    unfold dz_iter
    rw [he]
  | succ k ih =>
    intro i n h hn
    obtain ⟨m, rfl⟩ : ∃ m, n = m + 1 := ⟨n - 1, by omega⟩
    unfold dz_iter
    rw [hs i (by omega)]
    exact ih (i + 1) m (by omega) (by omega)
/-- a loop that goes by the states seq 0, seq 1 .. up to the turn N, in which it ends with e -/
theorem dz_it_count {σ ε : Type} {b : σ → Option (σ ⊕ ε)} {s : σ} (seq : Nat → σ) (N : Nat) {e : ε} (h0 : s = seq 0) (hN : N < 10000000) (hs : ∀ i, i < N → b (seq i) = some (.inl (seq (i + 1)))) (he : b (seq N) = some (.inr e)) : dz_it b s = some e := by
  subst h0
  unfold dz_it
  rw [dz_fuel_eq]
  exact dz_iter_count seq N hs he N 0 _ (by omega) hN
theorem p_cell {N k : Nat} (f : Nat → Int32) (hk : k < N) (hN : N < 2 ^ 31) : f_X7_cell N f (nI k) = f k := by
  unfold f_X7_cell
  rw [show Int32.ofNat N = nI N from rfl, if_neg (nI_pos (by omega)), if_neg (nI_ge hk hN), nI_clamp (by omega)]
theorem p_setCell {N k : Nat} (f : Nat → Int32) (x : Int32) (hk : k < N) (hN : N < 2 ^ 31) : f_X7_setCell N f (nI k) x = upd f k x := by
  unfold f_X7_setCell
  rw [show Int32.ofNat N = nI N from rfl, if_neg (nI_pos (by omega)), if_neg (nI_ge hk hN), nI_clamp (by omega)]
theorem p_num {k : Nat} (f : Nat → Int32) (hk : k < 512) : f_X5_number (nI k) f = f k := p_cell f hk (by decide)
theorem p_write {k : Nat} (f : Nat → Int32) (x : Int32) (hk : k < 512) : f_X5_write (nI k) x f = upd f k x := p_setCell f x hk (by decide)
theorem p_points (n : Nat) : f_X5_points (nI n) = nI (n * n * n) := by
  unfold f_X5_points
  simp only [pk_mul]
/-- how far apart neighbours along an axis lie in a row of the side n -/
def stN (n a : Nat) : Nat := if a = 0 then 1 else if a = 1 then n else n * n
def foN (a : Nat) : Nat := if a = 0 then 1 else 0
def laN (a : Nat) : Nat := if a = 2 then 1 else 2
/-- the place by a coordinate on an axis, and the other two in their order -/
def ixN (n a i f l : Nat) : Nat := i * stN n a + l * stN n (laN a) + f * stN n (foN a)
theorem a3 {P : Nat → Prop} (h0 : P 0) (h1 : P 1) (h2 : P 2) {a : Nat} (ha : a < 3) : P a := by
  rcases (show a = 0 ∨ a = 1 ∨ a = 2 by omega) with rfl | rfl | rfl
  · exact h0
  · exact h1
  · exact h2
theorem p_step {a : Nat} (n : Nat) (ha : a < 3) : f_X5_step (nI a) (nI n) = nI (stN n a) := by
  refine a3 (P := fun a => f_X5_step (nI a) (nI n) = nI (stN n a)) ?_ ?_ ?_ ha
  · rfl
  · rfl
  · show (if nI 2 = 0 then (1 : Int32) else if nI 2 = 1 then nI n else nI n * nI n) = nI (n * n)
    rw [if_neg (by decide), if_neg (by decide), pk_mul]
theorem p_former {a : Nat} (ha : a < 3) : f_X7_formerOf (nI a) = nI (foN a) := by
  refine a3 (P := fun a => f_X7_formerOf (nI a) = nI (foN a)) ?_ ?_ ?_ ha <;> decide
theorem p_latter {a : Nat} (ha : a < 3) : f_X7_latterOf (nI a) = nI (laN a) := by
  refine a3 (P := fun a => f_X7_latterOf (nI a) = nI (laN a)) ?_ ?_ ?_ ha <;> decide
theorem foN_lt (a : Nat) : foN a < 3 := by unfold foN; split <;> decide
theorem laN_lt (a : Nat) : laN a < 3 := by unfold laN; split <;> decide
theorem p_lineStart {a : Nat} (n f l : Nat) (ha : a < 3) : f_X5_lineStart (nI a) (nI f) (nI l) (nI n) = nI (ixN n a 0 f l) := by
  unfold f_X5_lineStart
  rw [p_former ha, p_latter ha, p_step n (foN_lt a), p_step n (laN_lt a), pk_mul, pk_mul, nI_add]
  congr 1
  unfold ixN
  omega
theorem p_rowStart {a : Nat} (n i l : Nat) (ha : a < 3) : f_X5_rowStart (nI a) (nI i) (nI l) (nI n) = nI (ixN n a i 0 l) := by
  unfold f_X5_rowStart
  rw [p_latter ha, p_step n ha, p_step n (laN_lt a), pk_mul, pk_mul, nI_add]
  congr 1
  unfold ixN
  omega
/-- the place of a point x, y, z -/
def idN (n x y z : Nat) : Nat := x + n * (y + n * z)
theorem idN_lt {n x y z : Nat} (hx : x < n) (hy : y < n) (hz : z < n) : idN n x y z < n * n * n := by
  unfold idN
  have h1 : y + n * z < n * n := by
    have : n * z + n ≤ n * n := by rw [← Nat.mul_succ]; exact Nat.mul_le_mul_left n hz
    omega
  have h2 : n * (y + n * z) + n ≤ n * (n * n) := by rw [← Nat.mul_succ]; exact Nat.mul_le_mul_left n h1
  have h3 : n * (n * n) = n * n * n := by rw [Nat.mul_assoc]
  omega
theorem cube_le {n : Nat} (hn : n ≤ 8) : n * n * n ≤ 512 := by
  have h1 : n * n ≤ 8 * 8 := Nat.mul_le_mul hn hn
  exact Nat.mul_le_mul h1 hn
theorem ix0 (n i f l : Nat) : ixN n 0 i f l = idN n i f l := by
  simp only [ixN, idN, stN, laN, foN]
  grind
theorem ix1 (n i f l : Nat) : ixN n 1 i f l = idN n f i l := by
  simp only [ixN, idN, stN, laN, foN]
  grind
theorem ix2 (n i f l : Nat) : ixN n 2 i f l = idN n f l i := by
  simp only [ixN, idN, stN, laN, foN]
  grind
theorem ixN_lt {n a i f l : Nat} (ha : a < 3) (hi : i < n) (hf : f < n) (hl : l < n) (hn : n ≤ 8) : ixN n a i f l < 512 := by
  refine Nat.lt_of_lt_of_le ?_ (cube_le hn)
  refine a3 (P := fun a => ixN n a i f l < n * n * n) ?_ ?_ ?_ ha
  · rw [ix0]; exact idN_lt hi hf hl
  · rw [ix1]; exact idN_lt hf hi hl
  · rw [ix2]; exact idN_lt hf hl hi
/-- sums -/
def sSum (g : Nat → Int32) : Nat → Int32
  | 0 => 0
  | k + 1 => sSum g k + g k
def sCnt (g : Nat → Int32) (k : Nat) : Int32 := sSum (fun i => if g i = 0 then 0 else 1) k
theorem sSum_congr {g h : Nat → Int32} {k : Nat} (e : ∀ i, i < k → g i = h i) : sSum g k = sSum h k := by
  induction k with
  | zero => rfl
  | succ k ih =>
    show sSum g k + g k = sSum h k + h k
    rw [ih (fun i hi => e i (by omega)), e k (by omega)]
theorem p_filled {n : Nat} (hn : n ≤ 8) (f : Nat → Int32) : f_X5_filled (nI n) f = some (sCnt f (n * n * n)) := by
  have h512 := cube_le hn
  refine dz_it_count (fun i => (sCnt f i, nI i)) (n * n * n) rfl (by omega) (fun i hi => ?_) ?_
  · show f_X5_filled_L4 (nI n) f (sCnt f i) (nI i) = _
    unfold f_X5_filled_L4 f_X5_filled_J23
    rw [p_points, if_neg (nI_ge hi (by omega)), p_num f (by omega), nI_1]
    by_cases h : f i = 0
    · rw [if_pos h]
      show _ = some (Sum.inl (sCnt f i + (if f i = 0 then 0 else 1), nI (i + 1)))
      rw [if_pos h, Int32.add_zero]
    · rw [if_neg h]
      show _ = some (Sum.inl (sCnt f i + (if f i = 0 then 0 else 1), nI (i + 1)))
      rw [if_neg h]
  · show f_X5_filled_L4 (nI n) f (sCnt f (n * n * n)) (nI (n * n * n)) = _
    unfold f_X5_filled_L4
    rw [p_points, if_pos (nI_le (Nat.le_refl _) (by omega))]
theorem p_sum {n : Nat} (hn : n ≤ 8) (f : Nat → Int32) : f_X5_sum (nI n) f = some (sSum f (n * n * n)) := by
  have h512 := cube_le hn
  refine dz_it_count (fun i => (sSum f i, nI i)) (n * n * n) rfl (by omega) (fun i hi => ?_) ?_
  · show f_X5_sum_L4 (nI n) f (sSum f i) (nI i) = _
    unfold f_X5_sum_L4
    rw [p_points, if_neg (nI_ge hi (by omega)), p_num f (by omega), nI_1]
    rfl
  · show f_X5_sum_L4 (nI n) f (sSum f (n * n * n)) (nI (n * n * n)) = _
    unfold f_X5_sum_L4
    rw [p_points, if_pos (nI_le (Nat.le_refl _) (by omega))]
theorem p_lineSum {n a f l : Nat} (hn : n ≤ 8) (ha : a < 3) (hf : f < n) (hl : l < n) (v : Nat → Int32) : f_X5_lineSum (nI a) (nI f) (nI l) (nI n) v = some (sSum (fun i => v (ixN n a i f l)) n) := by
  unfold f_X5_lineSum
  refine dz_it_count (fun i => (sSum (fun i => v (ixN n a i f l)) i, nI (ixN n a i f l), nI i)) n ?_ (by omega) (fun i hi => ?_) ?_
  · rw [p_lineStart n f l ha]; rfl
  · show f_X5_lineSum_L22 (nI a) (nI n) v _ (nI (ixN n a i f l)) (nI i) = _
    unfold f_X5_lineSum_L22
    rw [if_neg (nI_ge hi (by omega)), p_num v (ixN_lt ha hi hf hl hn), p_step n ha, nI_add, nI_1]
    have e : ixN n a i f l + stN n a = ixN n a (i + 1) f l := by
      unfold ixN
      rw [Nat.add_mul]
      omega
    rw [e]
    rfl
  · show f_X5_lineSum_L22 (nI a) (nI n) v _ (nI (ixN n a n f l)) (nI n) = _
    unfold f_X5_lineSum_L22
    rw [if_pos (nI_le (Nat.le_refl _) (by omega))]
