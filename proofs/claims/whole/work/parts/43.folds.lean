/-! pure: folds over all places, of the class and of the model -/
def fN {σ : Type} (st : σ → Nat → σ) (s : σ) : Nat → σ
  | 0 => s
  | k + 1 => st (fN st s k) k
theorem fN_congr {σ : Type} {st st' : σ → Nat → σ} {s : σ} : ∀ {k : Nat}, (∀ s i, i < k → st s i = st' s i) → fN st s k = fN st' s k := by
  intro k
  induction k with
  | zero => intro _; rfl
  | succ k ih =>
    intro h
    show st (fN st s k) k = st' (fN st' s k) k
    rw [ih (fun s i hi => h s i (by omega)), h _ k (by omega)]
theorem fN_add {σ : Type} (st : σ → Nat → σ) (s : σ) (a : Nat) : ∀ b, fN st s (a + b) = fN (fun s j => st s (a + j)) (fN st s a) b := by
  intro b
  induction b with
  | zero => rfl
  | succ b ih =>
    show st (fN st s (a + b)) (a + b) = st (fN (fun s j => st s (a + j)) (fN st s a) b) (a + b)
    rw [ih]
theorem fN_mul {σ : Type} (st : σ → Nat → σ) (s : σ) (b : Nat) : ∀ a, fN st s (a * b) = fN (fun s i => fN (fun s j => st s (i * b + j)) s b) s a := by
  intro a
  induction a with
  | zero => rw [Nat.zero_mul]; rfl
  | succ a ih =>
    rw [Nat.succ_mul, fN_add, ih]
    rfl
theorem fN_id {σ : Type} {st : σ → Nat → σ} (s : σ) : ∀ {k : Nat}, (∀ s i, i < k → st s i = s) → fN st s k = s := by
  intro k
  induction k with
  | zero => intro _; rfl
  | succ k ih =>
    intro h
    show st (fN st s k) k = s
    rw [h _ k (by omega), ih (fun s i hi => h s i (by omega))]
theorem fN_trunc {σ : Type} {st : σ → Nat → σ} {s : σ} {n m : Nat} (hn : n ≤ m) (h : ∀ s i, n ≤ i → i < m → st s i = s) : fN st s m = fN st s n := by
  obtain ⟨d, rfl⟩ : ∃ d, m = n + d := ⟨m - n, by omega⟩
  rw [fN_add]
  exact fN_id _ (fun s i hi => h s (n + i) (by omega) (by omega))
/-- a place of the model's row that is a point of the side n -/
def inN (n k : Nat) : Prop := k % 8 < n ∧ k / 8 % 8 < n ∧ k / 64 < n
/-- the model's row gone through, and the class's: the same, where places outside change nothing -/
theorem fN_grid {σ : Type} {st st' : σ → Nat → σ} {n : Nat} (hn : n ≤ 8) (s : σ) (ho : ∀ s k, k < 512 → ¬ inN n k → st s k = s) (hi : ∀ s x y w, x < n → y < n → w < n → st s (x + 8 * y + 64 * w) = st' s (idN n x y w)) : fN st s 512 = fN st' s (n * n * n) := by
  rw [show (512 : Nat) = 8 * 64 from rfl, fN_mul, show n * n * n = n * (n * n) from Nat.mul_assoc n n n, fN_mul]
  rw [fN_trunc hn (fun s i h1 h2 => fN_id s (fun s j hj => ho s (i * 64 + j) (by omega) (fun q => by have := q.2.2; omega)))]
  refine fN_congr (fun s w hw => ?_)
  rw [show (64 : Nat) = 8 * 8 from rfl, fN_mul, fN_mul]
  rw [fN_trunc hn (fun s i h1 h2 => fN_id s (fun s j hj => ho s (w * (8 * 8) + (i * 8 + j)) (by omega) (fun q => by have := q.2.1; omega)))]
  refine fN_congr (fun s y hy => ?_)
  rw [fN_trunc hn (fun s i h1 h2 => ho s (w * (8 * 8) + (y * 8 + i)) (by omega) (fun q => by have := q.1; omega))]
  refine fN_congr (fun s x hx => ?_)
  rw [show w * (8 * 8) + (y * 8 + x) = x + 8 * y + 64 * w by omega, hi s x y w hx hy hw]
  congr 1
  unfold idN
  grind
theorem sSum_fold (g : Nat → Int32) : ∀ k, sSum g k = fN (fun s i => s + g i) 0 k := by
  intro k
  induction k with
  | zero => rfl
  | succ k ih =>
    show sSum g k + g k = fN (fun s i => s + g i) 0 k + g k
    rw [ih]
/-- the whole relation of a cube's model to the class's -/
def MR (z v w : Nat → Int32) (n a m : Nat) : Prop := MC z v n ∧ z 1 = nI a ∧ a < 3 ∧ z 2 = nI m ∧ 1 ≤ m ∧ m ≤ 64 ∧ (∀ x y u, x < n → y < n → u < n → z (515 + (x + 8 * y + 64 * u)) = w (idN n x y u)) ∧ ∀ k, k < 512 → ¬ inN n k → z (3 + k) = 0 ∧ z (515 + k) = 0
theorem sSum_grid {g h : Nat → Int32} {n : Nat} (hn : n ≤ 8) (ho : ∀ k, k < 512 → ¬ inN n k → g k = 0) (hi : ∀ x y w, x < n → y < n → w < n → g (x + 8 * y + 64 * w) = h (idN n x y w)) : sSum g 512 = sSum h (n * n * n) := by
  rw [sSum_fold, sSum_fold]
  exact fN_grid hn 0 (fun s k hk hk2 => by rw [ho k hk hk2, Int32.add_zero]) (fun s x y w hx hy hw => by rw [hi x y w hx hy hw])
theorem p8_all {z v w : Nat → Int32} {n a m : Nat} (h : MR z v w n a m) : f_X8_all 0 z = some (sSum v (n * n * n)) ∧ f_X8_all 1 z = some (sCnt v (n * n * n)) := by
  obtain ⟨h1, -, -, -, -, -, -, h8⟩ := h
  have hn := h1.2.1
  constructor
  · rw [← sSum_grid (g := fun k => z (3 + k)) hn (fun k hk hk2 => (h8 k hk hk2).1) (fun x y w hx hy hw => h1.2.2.2 x y w hx hy hw)]
    refine dz_it_count (fun i => (sSum (fun k => z (3 + k)) i, nI i)) 512 rfl (by omega) (fun i hi => ?_) ?_
    · show f_X8_all_L4 0 z _ (nI i) = _
      unfold f_X8_all_L4 f_X8_all_J43
      rw [if_neg (show ¬ (512 : Int32) ≤ nI i from nI_ge (b := 512) hi (by decide)), if_pos rfl, i3, dz_in_nI _ (by omega) (by decide), nI_clamp (by omega), nI_1]
      rfl
    · show f_X8_all_L4 0 z _ (nI 512) = _
      unfold f_X8_all_L4
      rw [if_pos (by decide)]
  · unfold sCnt
    rw [← sSum_grid (g := fun k => if z (3 + k) = 0 then 0 else 1) hn (fun k hk hk2 => if_pos (h8 k hk hk2).1) (fun x y w hx hy hw => by rw [h1.2.2.2 x y w hx hy hw])]
    refine dz_it_count (fun i => (sSum (fun k => if z (3 + k) = 0 then 0 else 1) i, nI i)) 512 rfl (by omega) (fun i hi => ?_) ?_
    · show f_X8_all_L4 1 z _ (nI i) = _
      unfold f_X8_all_L4 f_X8_all_J43
      rw [if_neg (show ¬ (512 : Int32) ≤ nI i from nI_ge (b := 512) hi (by decide)), if_neg (by decide), i3, dz_in_nI _ (by omega) (by decide), nI_clamp (by omega), nI_1]
      show _ = some (Sum.inl (sSum (fun k => if z (3 + k) = 0 then 0 else 1) i + (if z (3 + i) = 0 then 0 else 1), nI (i + 1)))
      split <;> rfl
    · show f_X8_all_L4 1 z _ (nI 512) = _
      unfold f_X8_all_L4
      rw [if_pos (by decide)]
/-! differences -/
def jsz (x : Int32) : Int32 := if 0 ≤ x then x else -x
theorem jabs_eq (x : Int32) : jabs x = jsz x := by
  unfold jabs jsz
  rw [Int32.zero_sub]
def gMx (g : Nat → Int32) (k : Nat) : Int32 := fN (fun s i => if g i = 0 then s else jmax s (jsz (g i))) 0 k
def gCn (g : Nat → Int32) (k : Nat) : Nat := fN (fun s i => if g i = 0 then s else s + 1) 0 k
def gFi (g : Nat → Int32) (r : Nat → Nat) (k : Nat) : Option Nat := fN (fun s i => match s with | some x => some x | none => if g i = 0 then none else some (r i)) none k
theorem gCn_le (g : Nat → Int32) : ∀ k, gCn g k ≤ k := by
  intro k
  induction k with
  | zero => exact Nat.le_refl _
  | succ k ih =>
    show (if g k = 0 then gCn g k else gCn g k + 1) ≤ k + 1
    split <;> omega
theorem sCnt_gCn (g : Nat → Int32) : ∀ k, sCnt g k = nI (gCn g k) := by
  intro k
  induction k with
  | zero => rfl
  | succ k ih =>
    rw [sCnt_step, ih]
    show _ = nI (if g k = 0 then gCn g k else gCn g k + 1)
    split
    · rfl
    · rw [nI_1]
theorem gFi_none (g : Nat → Int32) (r : Nat → Nat) : ∀ k, gFi g r k = none ↔ gCn g k = 0 := by
  intro k
  induction k with
  | zero => exact ⟨fun _ => rfl, fun _ => rfl⟩
  | succ k ih =>
    show (match gFi g r k with | some x => some x | none => if g k = 0 then none else some (r k)) = none ↔ (if g k = 0 then gCn g k else gCn g k + 1) = 0
    cases hq : gFi g r k with
    | none =>
      have h0 := ih.mp hq
      by_cases e : g k = 0
      · simp [e, h0]
      · simp [e]
    | some x =>
      have h0 : gCn g k ≠ 0 := fun q => by rw [ih.mpr q] at hq; cases hq
      by_cases e : g k = 0
      · simp [e, h0]
      · simp [e]
def oI (o : Option Nat) : Int32 := match o with
  | none => -1
  | some p => nI p
/-- what is told of differences -/
def dTold (g : Nat → Int32) (N : Nat) (w : Int32) : Int32 := if w = 0 then sCnt g N else if w = 1 then sSum g N else if w = 2 then gMx g N else oI (gFi g id N)
theorem p_dlook {n : Nat} (hn : n ≤ 8) (v w : Nat → Int32) : f_X0_look (nI n) v w = some (sCnt (fun k => v k - w k) (n * n * n), sSum (fun k => v k - w k) (n * n * n), gMx (fun k => v k - w k) (n * n * n), oI (gFi (fun k => v k - w k) id (n * n * n))) := by
  have h512 := cube_le hn
  obtain ⟨g, hg⟩ : ∃ g : Nat → Int32, g = fun k => v k - w k := ⟨_, rfl⟩
  rw [← hg]
  refine dz_it_count (fun i => (nI i, sCnt g i, sSum g i, gMx g i, oI (gFi g id i))) (n * n * n) rfl (by omega) (fun i hi => ?_) ?_
  · show f_X0_look_L22 (nI n) v w (nI i) _ _ _ _ = _
    have hv : f_X5_number (nI i) v - f_X7_cell 512 w (nI i) = g i := by rw [p_num v (by omega), p_cell w (by omega) (by decide), hg]
    unfold f_X0_look_L22 f_X0_look_J61 f_X0_look_J96
    rw [p_points, if_neg (nI_ge hi (by omega)), hv, nI_1, jabs_eq]
    show _ = some (Sum.inl (nI (i + 1), sCnt g (i + 1), sSum g i + g i, (if g i = 0 then gMx g i else jmax (gMx g i) (jsz (g i))), oI (match gFi g id i with | some x => some x | none => if g i = 0 then none else some (id i))))
    rw [sCnt_step]
    dsimp only
    by_cases e : g i = 0
    · rw [if_pos e, if_pos e, if_pos e, if_pos e, e, Int32.add_zero]
      cases gFi g id i <;> rfl
    · rw [if_neg e, if_neg e, if_neg e, if_neg e]
      have hc := sCnt_gCn g i
      have hle := gCn_le g i
      cases hq : gFi g id i with
      | none =>
        have h0 := (gFi_none g id i).mp hq
        rw [hc, h0, if_pos (by rfl)]
        rfl
      | some x =>
        have h0 : gCn g i ≠ 0 := fun q => by rw [(gFi_none g id i).mpr q] at hq; cases hq
        rw [hc, if_neg (nI_ne0 (by omega) (by omega))]
  · show f_X0_look_L22 (nI n) v w (nI (n * n * n)) _ _ _ _ = _
    unfold f_X0_look_L22
    rw [p_points, if_pos (nI_le (Nat.le_refl _) (by omega))]
theorem p_dtold (g : Nat → Int32) (N : Nat) (w : Int32) : f_X0_told w (sCnt g N) (sSum g N) (gMx g N) (oI (gFi g id N)) = dTold g N w := rfl
