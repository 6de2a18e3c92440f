/-! pure: slices of the model -/
theorem dz_in_nI {α : Type} {k N : Nat} (E : Option α) (hk : k < N) (hN : N < 2 ^ 31) : dz_in (nI k) N E = E := by
  unfold dz_in
  exact if_neg (vp_in_nI hk hN)
theorem dz_nz_nI {α : Type} {k : Nat} (E : Option α) (h0 : 0 < k) (hk : k < 2 ^ 31) : dz_nz (nI k) E = E := by
  unfold dz_nz
  exact if_neg (nI_ne0 h0 hk)
theorem i3 (k : Nat) : (3 : Int32) + nI k = nI (3 + k) := by rw [show (3 : Int32) = nI 3 from rfl, nI_add]
theorem i515 (k : Nat) : (515 : Int32) + nI k = nI (515 + k) := by rw [show (515 : Int32) = nI 515 from rfl, nI_add]
/-- the model's cube is v's, of the side n -/
def MC (z v : Nat → Int32) (n : Nat) : Prop := 2 ≤ n ∧ n ≤ 8 ∧ z 0 = nI n ∧ ∀ x y w, x < n → y < n → w < n → z (3 + (x + 8 * y + 64 * w)) = v (idN n x y w)
def pbN (a i f l : Nat) : Nat := if a = 0 then i + 8 * f + 64 * l else if a = 1 then f + 8 * i + 64 * l else f + 8 * l + 64 * i
theorem p8_place (x y w : Nat) : f_X8_place (nI x) (nI y) (nI w) = nI (x + 8 * y + 64 * w) := by
  unfold f_X8_place
  rw [show (8 : Int32) = nI 8 from rfl, show (64 : Int32) = nI 64 from rfl, pk_mul, pk_mul, nI_add, nI_add]
theorem p8_placeBy {a : Nat} (i f l : Nat) (ha : a < 3) : f_X8_placeBy (nI a) (nI i) (nI f) (nI l) = nI (pbN a i f l) := by
  unfold f_X8_placeBy pbN
  rw [p8_place, p8_place, p8_place]
  refine a3 (P := fun a => (if nI a = 0 then nI (i + 8 * f + 64 * l) else if nI a = 1 then nI (f + 8 * i + 64 * l) else nI (f + 8 * l + 64 * i)) = nI (if a = 0 then i + 8 * f + 64 * l else if a = 1 then f + 8 * i + 64 * l else f + 8 * l + 64 * i)) ?_ ?_ ?_ ha
  · rfl
  · rfl
  · rw [if_neg (by decide), if_neg (by decide), if_neg (by decide), if_neg (by decide)]
theorem pbN_lt {n a i f l : Nat} (hi : i < n) (hf : f < n) (hl : l < n) (hn : n ≤ 8) : pbN a i f l < 512 := by
  unfold pbN
  split
  · omega
  · split <;> omega
theorem MC.by {z v : Nat → Int32} {n a i f l : Nat} (h : MC z v n) (ha : a < 3) (hi : i < n) (hf : f < n) (hl : l < n) : z (3 + pbN a i f l) = v (ixN n a i f l) := by
  obtain ⟨-, -, -, h4⟩ := h
  refine a3 (P := fun a => z (3 + pbN a i f l) = v (ixN n a i f l)) ?_ ?_ ?_ ha
  · rw [ix0]; exact h4 i f l hi hf hl
  · rw [ix1]; exact h4 f i l hf hi hl
  · rw [ix2]; exact h4 f l i hf hl hi
theorem p8_numberBy {z v : Nat → Int32} {n a i f l : Nat} (h : MC z v n) (ha : a < 3) (hi : i < n) (hf : f < n) (hl : l < n) : f_X8_numberBy (nI a) (nI i) (nI f) (nI l) z = some (v (ixN n a i f l)) := by
  have hp := pbN_lt (a := a) hi hf hl h.2.1
  unfold f_X8_numberBy
  rw [p8_placeBy i f l ha, i3, dz_in_nI _ (by omega) (by decide), nI_clamp (by omega), h.by ha hi hf hl]
theorem p8_numberAt {z v : Nat → Int32} {n a i o : Nat} (h : MC z v n) (ha : a < 3) (hi : i < n) (ho : o < n * n) : f_X8_numberAt (nI a) (nI i) (nI o) z = some (sl v n a i o) := by
  have hn := h.2.1
  have hnn : n * n ≤ 64 := Nat.mul_le_mul hn hn
  have h2 := h.1
  unfold f_X8_numberAt
  rw [h.2.2.1, dz_nz_nI _ (by omega) (by omega), dz_nz_nI _ (by omega) (by omega), pk_rem (by omega) (by omega) (by omega), pk_div (by omega) (by omega) (by omega), p8_numberBy h ha hi (sl_dm ho).1 (sl_dm ho).2]
  rfl
theorem p8_offsets {z v : Nat → Int32} {n : Nat} (h : MC z v n) : f_X8_offsets z = nI (n * n) := by
  unfold f_X8_offsets
  rw [h.2.2.1, pk_mul]
theorem p8_filled {z v : Nat → Int32} {n a i : Nat} (h : MC z v n) (ha : a < 3) (hi : i < n) : f_X8_filled (nI a) (nI i) z = some (vF v n a i) := by
  have hnn : n * n ≤ 64 := Nat.mul_le_mul h.2.1 h.2.1
  unfold vF
  refine dz_it_count (fun o => (sCnt (sl v n a i) o, nI o)) (n * n) rfl (by omega) (fun o ho => ?_) ?_
  · show f_X8_filled_L5 (nI a) (nI i) z _ (nI o) = _
    unfold f_X8_filled_L5 f_X8_filled_J31
    rw [p8_offsets h, if_neg (nI_ge ho (by omega)), p8_numberAt h ha hi ho, Option.bind_some, nI_1]
    show _ = some (Sum.inl (sCnt (sl v n a i) o + (if sl v n a i o = 0 then 0 else 1), nI (o + 1)))
    split <;> rfl
  · show f_X8_filled_L5 (nI a) (nI i) z _ (nI (n * n)) = _
    unfold f_X8_filled_L5
    rw [p8_offsets h, if_pos (nI_le (Nat.le_refl _) (by omega))]
theorem p8_sumOf {z v : Nat → Int32} {n a i : Nat} (h : MC z v n) (ha : a < 3) (hi : i < n) : f_X8_sumOf (nI a) (nI i) z = some (vS v n a i) := by
  have hnn : n * n ≤ 64 := Nat.mul_le_mul h.2.1 h.2.1
  unfold vS
  refine dz_it_count (fun o => (sSum (sl v n a i) o, nI o)) (n * n) rfl (by omega) (fun o ho => ?_) ?_
  · show f_X8_sumOf_L5 (nI a) (nI i) z _ (nI o) = _
    unfold f_X8_sumOf_L5
    rw [p8_offsets h, if_neg (nI_ge ho (by omega)), p8_numberAt h ha hi ho, Option.bind_some, nI_1]
    rfl
  · show f_X8_sumOf_L5 (nI a) (nI i) z _ (nI (n * n)) = _
    unfold f_X8_sumOf_L5
    rw [p8_offsets h, if_pos (nI_le (Nat.le_refl _) (by omega))]
theorem jmax_le {x y : Int32} : jmax x y = if y ≤ x then x else y := by
  unfold jmax
  by_cases h : y ≤ x
  · rw [if_pos h, if_neg (Int32.not_lt.mpr h)]
  · rw [if_neg h, if_pos (Int32.not_le.mp h)]
theorem p8_greatest {z v : Nat → Int32} {n a i : Nat} (h : MC z v n) (ha : a < 3) (hi : i < n) : f_X8_greatest (nI a) (nI i) z = some (vG v n a i) := by
  have hnn : n * n ≤ 64 := Nat.mul_le_mul h.2.1 h.2.1
  unfold vG
  refine dz_it_count (fun o => (sMax (sl v n a i) o, nI o)) (n * n) rfl (by omega) (fun o ho => ?_) ?_
  · show f_X8_greatest_L7 (nI a) (nI i) z _ (nI o) = _
    unfold f_X8_greatest_L7 f_X8_greatest_J40
    rw [p8_offsets h, if_neg (nI_ge ho (by omega)), p8_numberAt h ha hi ho, Option.bind_some, Option.bind_some, nI_1]
    show _ = some (Sum.inl (jmax (sMax (sl v n a i) o) (sl v n a i o), nI (o + 1)))
    rw [jmax_le]
    split <;> rfl
  · show f_X8_greatest_L7 (nI a) (nI i) z _ (nI (n * n)) = _
    unfold f_X8_greatest_L7
    rw [p8_offsets h, if_pos (nI_le (Nat.le_refl _) (by omega))]
theorem p8_listed {z v : Nat → Int32} {n a i : Nat} (h : MC z v n) (ha : a < 3) (hi : i < n) : f_X8_listed (nI a) (nI i) z = some (vR v n a i) := by
  have hnn : n * n ≤ 64 := Nat.mul_le_mul h.2.1 h.2.1
  unfold vR
  refine dz_it_count (fun o => (sRoom (sl v n a i) o, sPrev (sl v n a i) o, nI o)) (n * n) rfl (by omega) (fun o ho => ?_) ?_
  · show f_X8_listed_L8 (nI a) (nI i) z _ _ (nI o) = _
    unfold f_X8_listed_L8 f_X8_listed_J33 f_X8_listed_J55
    rw [p8_offsets h, if_neg (nI_ge ho (by omega)), p8_numberAt h ha hi ho, Option.bind_some, nI_1]
    show _ = some (Sum.inl (sRoom (sl v n a i) o + (if sl v n a i o = 0 then 0 else if sPrev (sl v n a i) o = 0 then 2 else 1), (if sl v n a i o = 0 then 0 else 1), nI (o + 1)))
    dsimp only
    by_cases e : sl v n a i o = 0
    · simp only [e, if_true]
    · rw [if_neg e, if_neg (by decide), if_neg e, if_neg e]
      split <;> rfl
  · show f_X8_listed_L8 (nI a) (nI i) z _ _ (nI (n * n)) = _
    unfold f_X8_listed_L8
    rw [p8_offsets h, if_pos (nI_le (Nat.le_refl _) (by omega))]
theorem p8_form {z v : Nat → Int32} {n a i : Nat} (h : MC z v n) (ha : a < 3) (hi : i < n) : f_X8_form (nI a) (nI i) z = some (sForm (z 2) (vF v n a i)) := by
  unfold f_X8_form sForm
  rw [p8_filled h ha hi, Option.bind_some]
  split
  · rfl
  · split <;> rfl
theorem p8_roomOf {z v : Nat → Int32} {n a i : Nat} (h : MC z v n) (ha : a < 3) (hi : i < n) : f_X8_roomOf (nI a) (nI i) z = some (sRoomOf (z 2) (vF v n a i) (vR v n a i) (nI n)) := by
  unfold f_X8_roomOf sRoomOf
  rw [p8_form h ha hi, Option.bind_some, p8_listed h ha hi, Option.bind_some, p8_offsets h, pk_mul]
  split
  · rfl
  · split <;> rfl
/-- the room by an axis, of the cube v -/
def rBy (v : Nat → Int32) (n a : Nat) (m : Int32) : Int32 := rAll m n (vF v n a) (vR v n a)
theorem p8_roomBy {z v : Nat → Int32} {n a : Nat} (h : MC z v n) (ha : a < 3) : f_X8_roomBy (nI a) z = some (rBy v n a (z 2)) := by
  have hn := h.2.1
  unfold rBy rAll
  obtain ⟨P, hP⟩ : ∃ P : Nat → Int32, P = fun i => sForm (z 2) (vF v n a i) := ⟨_, rfl⟩
  obtain ⟨Q, hQ⟩ : ∃ Q : Nat → Int32, Q = fun i => sRoomOf (z 2) (vF v n a i) (vR v n a i) (nI n) := ⟨_, rfl⟩
  rw [← hP, ← hQ]
  have hf : ∀ i, i < n → f_X8_form (nI a) (nI i) z = some (P i) := fun i hi => by rw [p8_form h ha hi, hP]
  have hr : ∀ i, i < n → f_X8_roomOf (nI a) (nI i) z = some (Q i) := fun i hi => by rw [p8_roomOf h ha hi, hQ]
  refine dz_it_count (fun i => (sRoomBy P Q i, nI i)) n rfl (by omega) (fun i hi => ?_) ?_
  · show f_X8_roomBy_L4 (nI a) z _ (nI i) = _
    unfold f_X8_roomBy_L4 f_X8_roomBy_J42 f_X8_roomBy_J43 f_X8_roomBy_J61
    rw [h.2.2.1, if_neg (nI_ge hi (by omega)), hf i hi, hr i hi, Option.bind_some, Option.bind_some, nI_1]
    show _ = some (Sum.inl (sRoomBy P Q i + (if P i = 0 ∧ i ≠ 0 ∧ P (i - 1) = 0 then 0 else Q i), nI (i + 1)))
    rcases Nat.eq_zero_or_pos i with rfl | h0
    · rw [if_pos (by decide), if_pos rfl, if_neg (show ¬ (P 0 = 0 ∧ 0 ≠ 0 ∧ P (0 - 1) = 0) from fun q => q.2.1 rfl)]
    · have e0 : nI i - 1 = nI (i - 1) := by
        have : i = (i - 1) + 1 := by omega
        rw [this, nI_pred, Nat.add_sub_cancel]
      rw [if_neg (nI_nle h0 (by omega)), e0, hf (i - 1) (by omega), Option.bind_some]
      by_cases e1 : P i = 0
      · rw [if_pos e1]
        by_cases e2 : P (i - 1) = 0
        · rw [if_pos e2, if_neg (by decide), if_pos (show P i = 0 ∧ i ≠ 0 ∧ P (i - 1) = 0 from ⟨e1, by omega, e2⟩)]
        · rw [if_neg e2, if_pos rfl, if_neg (show ¬ (P i = 0 ∧ i ≠ 0 ∧ P (i - 1) = 0) from fun q => e2 q.2.2)]
      · rw [if_neg e1, if_pos rfl, if_neg (show ¬ (P i = 0 ∧ i ≠ 0 ∧ P (i - 1) = 0) from fun q => e1 q.1)]
  · show f_X8_roomBy_L4 (nI a) z _ (nI n) = _
    unfold f_X8_roomBy_L4
    rw [h.2.2.1, if_pos (nI_le (Nat.le_refl _) (by omega))]
theorem p8_lineSum {z v : Nat → Int32} {n a f l : Nat} (h : MC z v n) (ha : a < 3) (hf : f < n) (hl : l < n) : f_X8_lineSum (nI a) (nI f) (nI l) z = some (sSum (fun i => v (ixN n a i f l)) n) := by
  have hn := h.2.1
  refine dz_it_count (fun i => (sSum (fun i => v (ixN n a i f l)) i, nI i)) n rfl (by omega) (fun i hi => ?_) ?_
  · show f_X8_lineSum_L6 (nI a) (nI f) (nI l) z _ (nI i) = _
    unfold f_X8_lineSum_L6
    rw [h.2.2.1, if_neg (nI_ge hi (by omega)), p8_numberBy h ha hi hf hl, Option.bind_some, nI_1]
    rfl
  · show f_X8_lineSum_L6 (nI a) (nI f) (nI l) z _ (nI n) = _
    unfold f_X8_lineSum_L6
    rw [h.2.2.1, if_pos (nI_le (Nat.le_refl _) (by omega))]
theorem p8_slicesOf {z v : Nat → Int32} {n a : Nat} (h : MC z v n) (h1 : z 1 = nI a) (ha : a < 3) (k : Int32) : f_X8_slicesOf k z = some (sSum (fun i => if sForm (z 2) (vF v n a i) = k then 1 else 0) n) := by
  have hn := h.2.1
  refine dz_it_count (fun i => (sSum (fun i => if sForm (z 2) (vF v n a i) = k then 1 else 0) i, nI i)) n rfl (by omega) (fun i hi => ?_) ?_
  · show f_X8_slicesOf_L4 k z _ (nI i) = _
    unfold f_X8_slicesOf_L4 f_X8_slicesOf_J35
    rw [h.2.2.1, if_neg (nI_ge hi (by omega)), h1, p8_form h ha hi, Option.bind_some, nI_1]
    show _ = some (Sum.inl (sSum (fun i => if sForm (z 2) (vF v n a i) = k then 1 else 0) i + (if sForm (z 2) (vF v n a i) = k then 1 else 0), nI (i + 1)))
    split <;> rfl
  · show f_X8_slicesOf_L4 k z _ (nI n) = _
    unfold f_X8_slicesOf_L4
    rw [h.2.2.1, if_pos (nI_le (Nat.le_refl _) (by omega))]
theorem p8_toldSlice {z v : Nat → Int32} {n a i : Nat} (h : MC z v n) (ha : a < 3) (hi : i < n) (w : Int32) : f_X8_toldSlice (nI a) (nI i) w z = some (vTold v n a i w (z 2)) := by
  unfold f_X8_toldSlice vTold
  rw [p8_sumOf h ha hi, p8_filled h ha hi, p8_greatest h ha hi, p8_form h ha hi, p8_roomOf h ha hi]
  simp only [Option.bind_some]
  split
  · rfl
  · split
    · rfl
    · split
      · rfl
      · split <;> rfl
