/-! pure: differences of the model -/
theorem jmax_ge (x y : Int32) : x ≤ jmax x y := by
  unfold jmax
  split
  · rename_i h
    exact Int32.le_of_lt h
  · exact Int32.le_refl x
theorem jsub0 {a b : Int32} : a - b = 0 ↔ a = b := by rw [Int32.sub_eq_iff_eq_add, Int32.zero_add]
theorem gMx_pos (g : Nat → Int32) : ∀ k, 0 ≤ gMx g k := by
  intro k
  induction k with
  | zero => exact Int32.le_refl 0
  | succ k ih =>
    show 0 ≤ (if g k = 0 then gMx g k else jmax (gMx g k) (jsz (g k)))
    split
    · exact ih
    · exact Int32.le_trans ih (jmax_ge _ _)
/-- the differences of the model's row -/
def zD (z : Nat → Int32) (k : Nat) : Int32 := z (3 + k) - z (515 + k)
theorem p8_dat {z : Nat → Int32} {k : Nat} (hk : k < 512) : f_X8_differenceAt (nI k) z = some (zD z k) := by
  unfold f_X8_differenceAt
  rw [i3, i515, dz_in_nI _ (by omega) (by decide), dz_in_nI _ (by omega) (by decide), nI_clamp (by omega), nI_clamp (by omega)]
  rfl
theorem p8_differences (z : Nat → Int32) : f_X8_differences z = some (sCnt (zD z) 512) := by
  refine dz_it_count (fun i => (sCnt (zD z) i, nI i)) 512 rfl (by omega) (fun i hi => ?_) ?_
  · show f_X8_differences_L4 z _ (nI i) = _
    unfold f_X8_differences_L4 f_X8_differences_J38
    rw [if_neg (show ¬ (512 : Int32) ≤ nI i from nI_ge (b := 512) hi (by decide)), i3, i515, dz_in_nI _ (by omega) (by decide), dz_in_nI _ (by omega) (by decide), nI_clamp (by omega), nI_clamp (by omega), nI_1]
    show _ = some (Sum.inl (sCnt (zD z) i + (if z (3 + i) - z (515 + i) = 0 then 0 else 1), nI (i + 1)))
    by_cases e : z (3 + i) = z (515 + i)
    · rw [if_pos e, if_pos (jsub0.mpr e)]
    · rw [if_neg e, if_neg (fun q => e (jsub0.mp q))]
  · show f_X8_differences_L4 z _ (nI 512) = _
    unfold f_X8_differences_L4
    rw [if_pos (by decide)]
theorem p8_allDiff (z : Nat → Int32) (b : Int32) : f_X8_allDifferences b z = some (if b = 0 then sSum (zD z) 512 else gMx (zD z) 512) := by
  refine dz_it_count (fun i => (sSum (zD z) i, gMx (zD z) i, nI i)) 512 rfl (by omega) (fun i hi => ?_) ?_
  · show f_X8_allDifferences_L7 b z _ _ (nI i) = _
    unfold f_X8_allDifferences_L7 f_X8_allDifferences_J36 f_X8_allDifferences_J55
    rw [if_neg (show ¬ (512 : Int32) ≤ nI i from nI_ge (b := 512) hi (by decide)), p8_dat hi, Option.bind_some, nI_1]
    show _ = some (Sum.inl (sSum (zD z) i + zD z i, (if zD z i = 0 then gMx (zD z) i else jmax (gMx (zD z) i) (jsz (zD z i))), nI (i + 1)))
    rw [jmax_le]
    have hp := gMx_pos (zD z) i
    dsimp only
    unfold jsz
    by_cases e : zD z i = 0
    · rw [if_pos e, e, if_pos (by decide), if_pos hp]
    · rw [if_neg e]
      split
      · split <;> rfl
      · split <;> rfl
  · show f_X8_allDifferences_L7 b z _ _ (nI 512) = _
    unfold f_X8_allDifferences_L7
    rw [if_pos (by decide)]
    split <;> rfl
/-- the rank of a place of the model's row -/
def rkN (n k : Nat) : Nat := k % 8 + n * (k / 8 % 8) + n * n * (k / 64)
theorem gFi_stop {g : Nat → Int32} {r : Nat → Nat} {K x : Nat} (hx : gFi g r K = some x) : ∀ d, gFi g r (K + d) = some x := by
  intro d
  induction d with
  | zero => exact hx
  | succ d ih =>
    show (match gFi g r (K + d) with | some x => some x | none => if g (K + d) = 0 then none else some (r (K + d))) = some x
    rw [ih]
theorem p8_first {z v : Nat → Int32} {n : Nat} (h : MC z v n) : f_X8_firstDifference z = some (oI (gFi (zD z) (rkN n) 512)) := by
  have hn := h.2.1
  have hnn : n * n ≤ 64 := Nat.mul_le_mul hn hn
  have hb : ∀ i, i < 512 → f_X8_firstDifference_L2 z (nI i) = if zD z i = 0 then some (.inl (nI (i + 1))) else some (.inr (nI (rkN n i))) := by
    intro i hi
    unfold f_X8_firstDifference_L2
    rw [if_neg (show ¬ (512 : Int32) ≤ nI i from nI_ge (b := 512) hi (by decide)), p8_dat hi, Option.bind_some, nI_1, h.2.2.1, p8_offsets h]
    have e8 : (8 : Int32) = nI 8 := rfl
    have e64 : (64 : Int32) = nI 64 := rfl
    rw [e8, e64, pk_rem (a := i) (d := 8) (by omega) (by omega) (by omega), pk_div (a := i) (d := 8) (by omega) (by omega) (by omega), pk_rem (a := i / 8) (d := 8) (by omega) (by omega) (by omega), pk_div (a := i) (d := 64) (by omega) (by omega) (by omega), pk_mul, pk_mul, nI_add, nI_add]
    rfl
  have key : ∀ K, K ≤ 512 → gFi (zD z) (rkN n) K = none → ∀ i, i < K → zD z i = 0 := by
    intro K
    induction K with
    | zero => intro _ _ i hi; omega
    | succ K ih =>
      intro hK hq i hi
      have hq2 : (match gFi (zD z) (rkN n) K with | some x => some x | none => if zD z K = 0 then none else some (rkN n K)) = none := hq
      cases hg : gFi (zD z) (rkN n) K with
      | some x => rw [hg] at hq2; cases hq2
      | none =>
        rw [hg] at hq2
        by_cases e : zD z K = 0
        · rcases Nat.lt_or_ge i K with h1 | h1
          · exact ih (by omega) hg i h1
          · rw [show i = K by omega]; exact e
        · simp [e] at hq2
  by_cases hall : ∀ i, i < 512 → zD z i = 0
  · have hN : ∀ K, K ≤ 512 → gFi (zD z) (rkN n) K = none := by
      intro K
      induction K with
      | zero => intro _; rfl
      | succ K ih =>
        intro hK
        show (match gFi (zD z) (rkN n) K with | some x => some x | none => if zD z K = 0 then none else some (rkN n K)) = none
        rw [ih (by omega)]
        simp [hall K (by omega)]
    rw [hN 512 (Nat.le_refl _)]
    refine dz_it_count (fun i => nI i) 512 rfl (by omega) (fun i hi => ?_) ?_
    · show f_X8_firstDifference_L2 z (nI i) = _
      rw [hb i hi, if_pos (hall i hi)]
    · show f_X8_firstDifference_L2 z (nI 512) = _
      unfold f_X8_firstDifference_L2
      rw [if_pos (by decide)]
      rfl
  · obtain ⟨K, hK⟩ : ∃ K, K < 512 ∧ ¬ zD z K = 0 := by
      refine Classical.byContradiction fun q => hall fun i hi => Classical.byContradiction fun q2 => q ⟨i, hi, q2⟩
    obtain ⟨K, ⟨hK1, hK2⟩, hmin⟩ := pk_least (fun K => K < 512 ∧ ¬ zD z K = 0) ⟨K, hK⟩
    have hz : ∀ i, i < K → zD z i = 0 := fun i hi => Classical.byContradiction fun q => hmin i hi ⟨by omega, q⟩
    have hN : ∀ j, j ≤ K → gFi (zD z) (rkN n) j = none := by
      intro j
      induction j with
      | zero => intro _; rfl
      | succ j ih =>
        intro hj
        show (match gFi (zD z) (rkN n) j with | some x => some x | none => if zD z j = 0 then none else some (rkN n j)) = none
        rw [ih (by omega)]
        simp [hz j (by omega)]
    have hs : gFi (zD z) (rkN n) (K + 1) = some (rkN n K) := by
      show (match gFi (zD z) (rkN n) K with | some x => some x | none => if zD z K = 0 then none else some (rkN n K)) = some (rkN n K)
      rw [hN K (Nat.le_refl _)]
      simp [hK2]
    have hfin : gFi (zD z) (rkN n) 512 = some (rkN n K) := by
      have := gFi_stop hs (512 - (K + 1))
      rwa [show K + 1 + (512 - (K + 1)) = 512 by omega] at this
    rw [hfin]
    refine dz_it_count (fun i => nI i) K rfl (by omega) (fun i hi => ?_) ?_
    · show f_X8_firstDifference_L2 z (nI i) = _
      rw [hb i (by omega), if_pos (hz i hi)]
    · show f_X8_firstDifference_L2 z (nI K) = _
      rw [hb K hK1, if_neg hK2]
      rfl
/-- the model's row of differences and the class's tell the same -/
theorem zD_out {z v w : Nat → Int32} {n a m : Nat} (h : MR z v w n a m) : ∀ k, k < 512 → ¬ inN n k → zD z k = 0 := fun k hk hk2 => by
  unfold zD
  rw [(h.2.2.2.2.2.2.2 k hk hk2).1, (h.2.2.2.2.2.2.2 k hk hk2).2]
  rfl
theorem zD_in {z v w : Nat → Int32} {n a m : Nat} (h : MR z v w n a m) : ∀ x y u, x < n → y < n → u < n → zD z (x + 8 * y + 64 * u) = v (idN n x y u) - w (idN n x y u) := fun x y u hx hy hu => by
  unfold zD
  rw [h.1.2.2.2 x y u hx hy hu, h.2.2.2.2.2.2.1 x y u hx hy hu]
theorem rk_in {n x y u : Nat} (hn : n ≤ 8) (hx : x < n) (hy : y < n) (hu : u < n) : rkN n (x + 8 * y + 64 * u) = idN n x y u := by
  unfold rkN idN
  have e1 : (x + 8 * y + 64 * u) % 8 = x := by omega
  have e2 : (x + 8 * y + 64 * u) / 8 % 8 = y := by omega
  have e3 : (x + 8 * y + 64 * u) / 64 = u := by omega
  rw [e1, e2, e3]
  grind
theorem p8_dtold {z v w : Nat → Int32} {n a m : Nat} (h : MR z v w n a m) (k : Int32) : f_X8_toldDifference k z = some (dTold (fun p => v p - w p) (n * n * n) k) := by
  have hn := h.1.2.1
  have e1 : sCnt (zD z) 512 = sCnt (fun p => v p - w p) (n * n * n) := by
    unfold sCnt
    exact sSum_grid hn (fun k hk hk2 => by rw [zD_out h k hk hk2]; rfl) (fun x y u hx hy hu => by rw [zD_in h x y u hx hy hu])
  have e2 : sSum (zD z) 512 = sSum (fun p => v p - w p) (n * n * n) := sSum_grid hn (zD_out h) (zD_in h)
  have e3 : gMx (zD z) 512 = gMx (fun p => v p - w p) (n * n * n) := by
    unfold gMx
    exact fN_grid hn 0 (fun s k hk hk2 => by rw [zD_out h k hk hk2]; rfl) (fun s x y u hx hy hu => by rw [zD_in h x y u hx hy hu])
  have e4 : gFi (zD z) (rkN n) 512 = gFi (fun p => v p - w p) id (n * n * n) := by
    unfold gFi
    refine fN_grid hn none (fun s k hk hk2 => ?_) (fun s x y u hx hy hu => ?_)
    · rw [zD_out h k hk hk2]
      cases s <;> rfl
    · rw [zD_in h x y u hx hy hu, rk_in hn hx hy hu]
      rfl
  unfold f_X8_toldDifference dTold
  rw [p8_differences, p8_allDiff, p8_allDiff, p8_first h.1, e1, e2, e3, e4]
  simp only [Option.bind_some]
  split
  · rfl
  · split
    · rfl
    · split <;> rfl
