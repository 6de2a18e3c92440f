/-! pure: the points in their order -/
/-- the t-th number in the order -/
def qN (v : Nat → Int32) (n a t : Nat) : Int32 := sl v n a (t / (n * n)) (t % (n * n))
theorem qN_at {v : Nat → Int32} {n a i o : Nat} (ho : o < n * n) : qN v n a (i * (n * n) + o) = sl v n a i o := by
  unfold qN
  rw [Nat.mul_comm i, Nat.mul_add_div (by omega), Nat.div_eq_of_lt ho, Nat.add_zero, Nat.mul_add_mod, Nat.mod_eq_of_lt ho]
def hitN (v : Nat → Int32) (n a : Nat) (r : Int32) (t : Nat) : Prop := ¬ qN v n a t = 0 ∧ nI (gCn (qN v n a) t) = r
theorem fl_lt {n f l : Nat} (hf : f < n) (hl : l < n) : l * n + f < n * n := by
  have : l * n + n ≤ n * n := by rw [← Nat.succ_mul]; exact Nat.mul_le_mul_right n hl
  omega
theorem p_rank_b {v : Nat → Int32} {n a i f l : Nat} (hn : n ≤ 8) (ha : a < 3) (hi : i < n) (hf : f < n) (hl : l < n) (r : Int32) : f_X5_placeOfRank_L55 r (nI n) (nI a) v (nI l) (nI (gCn (qN v n a) (i * (n * n) + (l * n + f)))) (nI (ixN n a i f l)) (nI f) = if qN v n a (i * (n * n) + (l * n + f)) = 0 then some (.inl (nI (gCn (qN v n a) (i * (n * n) + (l * n + f) + 1)), nI (ixN n a i (f + 1) l), nI (f + 1))) else if nI (gCn (qN v n a) (i * (n * n) + (l * n + f))) = r then some (.inr (.inr (.inr (nI (ixN n a i f l))))) else some (.inl (nI (gCn (qN v n a) (i * (n * n) + (l * n + f) + 1)), nI (ixN n a i (f + 1) l), nI (f + 1))) := by
  have hv : f_X5_number (nI (ixN n a i f l)) v = qN v n a (i * (n * n) + (l * n + f)) := by rw [p_num v (ixN_lt ha hi hf hl hn), qN_at (fl_lt hf hl), sl_at hf]
  have hst : nI (ixN n a i f l) + f_X5_step (f_X7_formerOf (nI a)) (nI n) = nI (ixN n a i (f + 1) l) := by
    rw [p_former ha, p_step n (foN_lt a), nI_add]
    congr 1
    unfold ixN
    rw [Nat.add_mul]
    omega
  unfold f_X5_placeOfRank_L55 f_X5_placeOfRank_J84
  rw [if_neg (nI_ge hf (by omega)), hv, hst, nI_1, nI_1]
  show _ = if qN v n a (i * (n * n) + (l * n + f)) = 0 then some (Sum.inl (nI (if qN v n a (i * (n * n) + (l * n + f)) = 0 then gCn (qN v n a) (i * (n * n) + (l * n + f)) else gCn (qN v n a) (i * (n * n) + (l * n + f)) + 1), nI (ixN n a i (f + 1) l), nI (f + 1))) else if nI (gCn (qN v n a) (i * (n * n) + (l * n + f))) = r then some (Sum.inr (Sum.inr (Sum.inr (nI (ixN n a i f l))))) else some (Sum.inl (nI (if qN v n a (i * (n * n) + (l * n + f)) = 0 then gCn (qN v n a) (i * (n * n) + (l * n + f)) else gCn (qN v n a) (i * (n * n) + (l * n + f)) + 1), nI (ixN n a i (f + 1) l), nI (f + 1)))
  by_cases e : qN v n a (i * (n * n) + (l * n + f)) = 0
  · rw [if_pos e, if_pos e, if_pos e]
  · rw [if_neg e, if_neg e, if_neg e]
theorem p_rank_bN {v : Nat → Int32} {n a i f l : Nat} (hn : n ≤ 8) (ha : a < 3) (hi : i < n) (hf : f < n) (hl : l < n) {r : Int32} (h : ¬ hitN v n a r (i * (n * n) + (l * n + f))) : f_X5_placeOfRank_L55 r (nI n) (nI a) v (nI l) (nI (gCn (qN v n a) (i * (n * n) + (l * n + f)))) (nI (ixN n a i f l)) (nI f) = some (.inl (nI (gCn (qN v n a) (i * (n * n) + (l * n + f) + 1)), nI (ixN n a i (f + 1) l), nI (f + 1))) := by
  rw [p_rank_b hn ha hi hf hl]
  by_cases e : qN v n a (i * (n * n) + (l * n + f)) = 0
  · rw [if_pos e]
  · rw [if_neg e, if_neg (fun q => h ⟨e, q⟩)]
theorem p_rank_bH {v : Nat → Int32} {n a i f l : Nat} (hn : n ≤ 8) (ha : a < 3) (hi : i < n) (hf : f < n) (hl : l < n) {r : Int32} (h : hitN v n a r (i * (n * n) + (l * n + f))) : f_X5_placeOfRank_L55 r (nI n) (nI a) v (nI l) (nI (gCn (qN v n a) (i * (n * n) + (l * n + f)))) (nI (ixN n a i f l)) (nI f) = some (.inr (.inr (.inr (nI (ixN n a i f l))))) := by
  rw [p_rank_b hn ha hi hf hl, if_neg h.1, if_pos h.2]
theorem p_rank_mN {v : Nat → Int32} {n a i l : Nat} (hn : n ≤ 8) (ha : a < 3) (hi : i < n) (hl : l < n) {r : Int32} (h : ∀ f, f < n → ¬ hitN v n a r (i * (n * n) + (l * n + f))) : f_X5_placeOfRank_L29 r (nI n) (nI a) v (nI i) (nI (gCn (qN v n a) (i * (n * n) + l * n))) (nI l) = some (.inl (nI (gCn (qN v n a) (i * (n * n) + (l + 1) * n)), nI (l + 1))) := by
  unfold f_X5_placeOfRank_L29
  rw [if_neg (nI_ge hl (by omega)), p_rowStart n i l ha]
  refine dz_it_count (fun f => (nI (gCn (qN v n a) (i * (n * n) + (l * n + f))), nI (ixN n a i f l), nI f)) n rfl (by omega) (fun f hf => ?_) ?_
  · exact p_rank_bN hn ha hi hf hl (h f hf)
  · show f_X5_placeOfRank_L55 r (nI n) (nI a) v (nI l) _ _ (nI n) = _
    unfold f_X5_placeOfRank_L55
    rw [if_pos (nI_le (Nat.le_refl _) (by omega)), nI_1, show (l + 1) * n = l * n + n from Nat.succ_mul l n]
theorem p_rank_mH {v : Nat → Int32} {n a i l F : Nat} (hn : n ≤ 8) (ha : a < 3) (hi : i < n) (hl : l < n) (hF : F < n) {r : Int32} (h : ∀ f, f < F → ¬ hitN v n a r (i * (n * n) + (l * n + f))) (h2 : hitN v n a r (i * (n * n) + (l * n + F))) : f_X5_placeOfRank_L29 r (nI n) (nI a) v (nI i) (nI (gCn (qN v n a) (i * (n * n) + l * n))) (nI l) = some (.inr (.inr (nI (ixN n a i F l)))) := by
  unfold f_X5_placeOfRank_L29
  rw [if_neg (nI_ge hl (by omega)), p_rowStart n i l ha]
  refine dz_it_count (fun f => (nI (gCn (qN v n a) (i * (n * n) + (l * n + f))), nI (ixN n a i f l), nI f)) F rfl (by omega) (fun f hf => ?_) ?_
  · exact p_rank_bN hn ha hi (by omega) hl (h f hf)
  · exact p_rank_bH hn ha hi hF hl h2
theorem p_rank_oN {v : Nat → Int32} {n a i : Nat} (hn : n ≤ 8) (ha : a < 3) (hi : i < n) {r : Int32} (h : ∀ o, o < n * n → ¬ hitN v n a r (i * (n * n) + o)) : f_X5_placeOfRank_L17 r (nI n) (nI a) v (nI (gCn (qN v n a) (i * (n * n)))) (nI i) = some (.inl (nI (gCn (qN v n a) ((i + 1) * (n * n))), nI (i + 1))) := by
  unfold f_X5_placeOfRank_L17
  rw [if_neg (nI_ge hi (by omega))]
  refine dz_it_count (fun l => (nI (gCn (qN v n a) (i * (n * n) + l * n)), nI l)) n ?_ (by omega) (fun l hl => ?_) ?_
  · rw [Nat.zero_mul]; rfl
  · exact p_rank_mN hn ha hi hl (fun f hf => h _ (fl_lt hf hl))
  · show f_X5_placeOfRank_L29 r (nI n) (nI a) v (nI i) _ (nI n) = _
    unfold f_X5_placeOfRank_L29
    rw [if_pos (nI_le (Nat.le_refl _) (by omega)), nI_1, show (i + 1) * (n * n) = i * (n * n) + n * n from Nat.succ_mul i _]
theorem p_rank_oH {v : Nat → Int32} {n a i L F : Nat} (hn : n ≤ 8) (ha : a < 3) (hi : i < n) (hL : L < n) (hF : F < n) {r : Int32} (h : ∀ o, o < L * n + F → ¬ hitN v n a r (i * (n * n) + o)) (h2 : hitN v n a r (i * (n * n) + (L * n + F))) : f_X5_placeOfRank_L17 r (nI n) (nI a) v (nI (gCn (qN v n a) (i * (n * n)))) (nI i) = some (.inr (nI (ixN n a i F L))) := by
  unfold f_X5_placeOfRank_L17
  rw [if_neg (nI_ge hi (by omega))]
  refine dz_it_count (fun l => (nI (gCn (qN v n a) (i * (n * n) + l * n)), nI l)) L ?_ (by omega) (fun l hl => ?_) ?_
  · rw [Nat.zero_mul]; rfl
  · refine p_rank_mN hn ha hi (by omega) (fun f hf => h _ ?_)
    have : l * n + n ≤ L * n := by rw [← Nat.succ_mul]; exact Nat.mul_le_mul_right n hl
    omega
  · exact p_rank_mH hn ha hi hL hF (fun f hf => h _ (by omega)) h2
theorem p_rankN {v : Nat → Int32} {n a : Nat} (hn : n ≤ 8) (ha : a < 3) {r : Int32} (h : ∀ t, t < n * (n * n) → ¬ hitN v n a r t) : f_X5_placeOfRank r (nI n) (nI a) v = some (-1) := by
  refine dz_it_count (fun i => (nI (gCn (qN v n a) (i * (n * n))), nI i)) n ?_ (by omega) (fun i hi => ?_) ?_
  · rw [Nat.zero_mul]; rfl
  · refine p_rank_oN hn ha hi (fun o ho => h _ ?_)
    have : i * (n * n) + n * n ≤ n * (n * n) := by rw [← Nat.succ_mul]; exact Nat.mul_le_mul_right _ hi
    omega
  · show f_X5_placeOfRank_L17 r (nI n) (nI a) v _ (nI n) = _
    unfold f_X5_placeOfRank_L17
    rw [if_pos (nI_le (Nat.le_refl _) (by omega))]
theorem p_rankH {v : Nat → Int32} {n a I L F : Nat} (hn : n ≤ 8) (ha : a < 3) (hI : I < n) (hL : L < n) (hF : F < n) {r : Int32} (h : ∀ t, t < I * (n * n) + (L * n + F) → ¬ hitN v n a r t) (h2 : hitN v n a r (I * (n * n) + (L * n + F))) : f_X5_placeOfRank r (nI n) (nI a) v = some (nI (ixN n a I F L)) := by
  refine dz_it_count (fun i => (nI (gCn (qN v n a) (i * (n * n))), nI i)) I ?_ (by omega) (fun i hi => ?_) ?_
  · rw [Nat.zero_mul]; rfl
  · refine p_rank_oN hn ha (by omega) (fun o ho => h _ ?_)
    have : i * (n * n) + n * n ≤ I * (n * n) := by rw [← Nat.succ_mul]; exact Nat.mul_le_mul_right _ hi
    omega
  · exact p_rank_oH hn ha hI hL hF (fun o ho => h _ (by omega)) h2
/-! the model -/
theorem sub_1 (r : Int32) (c : Nat) : r - nI c - 1 = r - nI (c + 1) := by
  rw [← nI_1]
  grind
theorem gCn_s (g : Nat → Int32) (k : Nat) : gCn g (k + 1) = if g k = 0 then gCn g k else gCn g k + 1 := rfl
theorem p8_rank_b {z v : Nat → Int32} {n a i o : Nat} (h : MC z v n) (h1 : z 1 = nI a) (ha : a < 3) (hi : i < n) (ho : o < n * n) (r : Int32) : f_X8_placeOf_L17 z (nI i) (r - nI (gCn (qN v n a) (i * (n * n) + o))) (nI o) = if ¬ qN v n a (i * (n * n) + o) = 0 ∧ nI (gCn (qN v n a) (i * (n * n) + o)) = r then some (.inr (.inr (nI (pbN a i (o % n) (o / n))))) else some (.inl (r - nI (gCn (qN v n a) (i * (n * n) + o + 1)), nI (o + 1))) := by
  have hn := h.2.1
  have hn2 := h.1
  have hnn : n * n ≤ 64 := Nat.mul_le_mul hn hn
  unfold f_X8_placeOf_L17 f_X8_placeOf_J47 f_X8_placeOf_J87 f_X8_placeOf_J98
  rw [p8_offsets h, if_neg (nI_ge ho (by omega)), h1, p8_numberAt h ha hi ho, Option.bind_some, h.2.2.1, dz_nz_nI _ (by omega) (by omega), dz_nz_nI _ (by omega) (by omega), pk_rem (by omega) (by omega) (by omega), pk_div (by omega) (by omega) (by omega), p8_placeBy _ _ _ ha, nI_1, ← qN_at (v := v) (a := a) (i := i) ho, sub_1, gCn_s]
  by_cases e : qN v n a (i * (n * n) + o) = 0
  · rw [if_pos e, if_pos rfl, if_pos rfl, if_neg (fun q => q.1 e), if_pos e, Int32.sub_zero]
  · rw [if_neg e, if_neg e, if_neg (show ¬ (1 : Int32) = 0 by decide)]
    by_cases e2 : nI (gCn (qN v n a) (i * (n * n) + o)) = r
    · rw [if_pos (jsub0.mpr e2.symm), if_pos ⟨e, e2⟩]
    · rw [if_neg (fun q => e2 (jsub0.mp q).symm), if_neg (show ¬ (1 : Int32) = 0 by decide), if_neg (fun q => e2 q.2)]
theorem p8_rank_bN {z v : Nat → Int32} {n a i o : Nat} (h : MC z v n) (h1 : z 1 = nI a) (ha : a < 3) (hi : i < n) (ho : o < n * n) {r : Int32} (q : ¬ hitN v n a r (i * (n * n) + o)) : f_X8_placeOf_L17 z (nI i) (r - nI (gCn (qN v n a) (i * (n * n) + o))) (nI o) = some (.inl (r - nI (gCn (qN v n a) (i * (n * n) + o + 1)), nI (o + 1))) := by
  rw [p8_rank_b h h1 ha hi ho]
  exact if_neg q
theorem p8_rank_bH {z v : Nat → Int32} {n a i o : Nat} (h : MC z v n) (h1 : z 1 = nI a) (ha : a < 3) (hi : i < n) (ho : o < n * n) {r : Int32} (q : hitN v n a r (i * (n * n) + o)) : f_X8_placeOf_L17 z (nI i) (r - nI (gCn (qN v n a) (i * (n * n) + o))) (nI o) = some (.inr (.inr (nI (pbN a i (o % n) (o / n))))) := by
  rw [p8_rank_b h h1 ha hi ho]
  exact if_pos q
theorem p8_rank_mN {z v : Nat → Int32} {n a i : Nat} (h : MC z v n) (h1 : z 1 = nI a) (ha : a < 3) (hi : i < n) {r : Int32} (hh : ∀ o, o < n * n → ¬ hitN v n a r (i * (n * n) + o)) : f_X8_placeOf_L4 z (r - nI (gCn (qN v n a) (i * (n * n)))) (nI i) = some (.inl (r - nI (gCn (qN v n a) ((i + 1) * (n * n))), nI (i + 1))) := by
  have hn := h.2.1
  have hnn : n * n ≤ 64 := Nat.mul_le_mul hn hn
  unfold f_X8_placeOf_L4
  rw [h.2.2.1, if_neg (nI_ge hi (by omega))]
  refine dz_it_count (fun o => (r - nI (gCn (qN v n a) (i * (n * n) + o)), nI o)) (n * n) rfl (by omega) (fun o ho => ?_) ?_
  · show f_X8_placeOf_L17 z (nI i) (r - nI (gCn (qN v n a) (i * (n * n) + o))) (nI o) = _
    rw [p8_rank_bN h h1 ha hi ho (hh o ho)]
    rfl
  · show f_X8_placeOf_L17 z (nI i) _ (nI (n * n)) = _
    unfold f_X8_placeOf_L17
    rw [p8_offsets h, if_pos (nI_le (Nat.le_refl _) (by omega)), nI_1, show (i + 1) * (n * n) = i * (n * n) + n * n from Nat.succ_mul i _]
theorem p8_rankN {z v : Nat → Int32} {n a : Nat} (h : MC z v n) (h1 : z 1 = nI a) (ha : a < 3) {r : Int32} (hh : ∀ t, t < n * (n * n) → ¬ hitN v n a r t) : f_X8_placeOf r z = some (-1) := by
  have hn := h.2.1
  refine dz_it_count (fun i => (r - nI (gCn (qN v n a) (i * (n * n))), nI i)) n ?_ (by omega) (fun i hi => ?_) ?_
  · rw [Nat.zero_mul]
    show (r, (0 : Int32)) = (r - 0, 0)
    rw [Int32.sub_zero]
  · refine p8_rank_mN h h1 ha hi (fun o ho => hh _ ?_)
    have : i * (n * n) + n * n ≤ n * (n * n) := by rw [← Nat.succ_mul]; exact Nat.mul_le_mul_right _ hi
    omega
  · show f_X8_placeOf_L4 z _ (nI n) = _
    unfold f_X8_placeOf_L4
    rw [h.2.2.1, if_pos (nI_le (Nat.le_refl _) (by omega))]
theorem p8_rankH {z v : Nat → Int32} {n a I O : Nat} (h : MC z v n) (h1 : z 1 = nI a) (ha : a < 3) (hI : I < n) (hO : O < n * n) {r : Int32} (hh : ∀ t, t < I * (n * n) + O → ¬ hitN v n a r t) (h2 : hitN v n a r (I * (n * n) + O)) : f_X8_placeOf r z = some (nI (pbN a I (O % n) (O / n))) := by
  have hn := h.2.1
  have hnn : n * n ≤ 64 := Nat.mul_le_mul hn hn
  refine dz_it_count (fun i => (r - nI (gCn (qN v n a) (i * (n * n))), nI i)) I ?_ (by omega) (fun i hi => ?_) ?_
  · rw [Nat.zero_mul]
    show (r, (0 : Int32)) = (r - 0, 0)
    rw [Int32.sub_zero]
  · refine p8_rank_mN h h1 ha (by omega) (fun o ho => hh _ ?_)
    have : i * (n * n) + n * n ≤ I * (n * n) := by rw [← Nat.succ_mul]; exact Nat.mul_le_mul_right _ hi
    omega
  · show f_X8_placeOf_L4 z (r - nI (gCn (qN v n a) (I * (n * n)))) (nI I) = _
    unfold f_X8_placeOf_L4
    rw [h.2.2.1, if_neg (nI_ge hI (by omega))]
    refine dz_it_count (fun o => (r - nI (gCn (qN v n a) (I * (n * n) + o)), nI o)) O rfl (by omega) (fun o ho => ?_) ?_
    · show f_X8_placeOf_L17 z (nI I) (r - nI (gCn (qN v n a) (I * (n * n) + o))) (nI o) = _
      rw [p8_rank_bN h h1 ha hI (by omega) (hh _ (by omega))]
      rfl
    · show f_X8_placeOf_L17 z (nI I) (r - nI (gCn (qN v n a) (I * (n * n) + O))) (nI O) = _
      rw [p8_rank_bH h h1 ha hI hO h2]
/-- the point by a coordinate on an axis and the other two -/
theorem pt_of {a i f l n : Nat} (ha : a < 3) (hi : i < n) (hf : f < n) (hl : l < n) : ∃ x y w, x < n ∧ y < n ∧ w < n ∧ ixN n a i f l = idN n x y w ∧ pbN a i f l = x + 8 * y + 64 * w := by
  refine a3 (P := fun a => ∃ x y w, x < n ∧ y < n ∧ w < n ∧ ixN n a i f l = idN n x y w ∧ pbN a i f l = x + 8 * y + 64 * w) ?_ ?_ ?_ ha
  · exact ⟨i, f, l, hi, hf, hl, ix0 n i f l, rfl⟩
  · exact ⟨f, i, l, hf, hi, hl, ix1 n i f l, rfl⟩
  · exact ⟨f, l, i, hf, hl, hi, ix2 n i f l, rfl⟩
/-- both sides find the same point, or none -/
theorem o_rank {z v : Nat → Int32} {n a : Nat} (h : MC z v n) (h1 : z 1 = nI a) (ha : a < 3) (r : Int32) : (f_X5_placeOfRank r (nI n) (nI a) v = some (-1) ∧ f_X8_placeOf r z = some (-1)) ∨ ∃ x y w, x < n ∧ y < n ∧ w < n ∧ f_X5_placeOfRank r (nI n) (nI a) v = some (nI (idN n x y w)) ∧ f_X8_placeOf r z = some (nI (x + 8 * y + 64 * w)) := by
  have hn := h.2.1
  have hn2 := h.1
  have h0 : 0 < n * n := Nat.mul_pos (by omega) (by omega)
  by_cases q : ∃ t, t < n * (n * n) ∧ hitN v n a r t
  · obtain ⟨T, ⟨hT, hh⟩, hmin⟩ := pk_least (fun t => t < n * (n * n) ∧ hitN v n a r t) q
    have hno : ∀ t, t < T → ¬ hitN v n a r t := fun t ht q => hmin t ht ⟨by omega, q⟩
    have hI : T / (n * n) < n := (Nat.div_lt_iff_lt_mul h0).mpr hT
    have hO : T % (n * n) < n * n := Nat.mod_lt _ h0
    obtain ⟨hF, hL⟩ := sl_dm hO
    have eO : T % (n * n) / n * n + T % (n * n) % n = T % (n * n) := by rw [Nat.mul_comm]; exact Nat.div_add_mod _ _
    have eT : T / (n * n) * (n * n) + T % (n * n) = T := by rw [Nat.mul_comm]; exact Nat.div_add_mod _ _
    obtain ⟨x, y, w, hx, hy, hw, e1, e2⟩ := pt_of (a := a) (n := n) ha hI hF hL
    refine Or.inr ⟨x, y, w, hx, hy, hw, ?_, ?_⟩
    · rw [← e1]
      exact p_rankH hn ha hI hL hF (by rw [eO, eT]; exact hno) (by rw [eO, eT]; exact hh)
    · rw [← e2]
      exact p8_rankH h h1 ha hI hO (by rw [eT]; exact hno) (by rw [eT]; exact hh)
  · have hno : ∀ t, t < n * (n * n) → ¬ hitN v n a r t := fun t ht q2 => q ⟨t, ht, q2⟩
    exact Or.inl ⟨p_rankN hn ha hno, p8_rankN h h1 ha hno⟩
theorem nI_m1 {k : Nat} (hk : k < 2 ^ 31) : ¬ nI k = -1 := by
  intro q
  have h1 := nI_pos hk
  rw [q] at h1
  exact h1 (by decide)
/-- what is told of a point of a rank, both sides -/
theorem o_told {z v : Nat → Int32} {n a : Nat} (h : MC z v n) (h1 : z 1 = nI a) (ha : a < 3) (r : Int32) : ∃ (p : Int32) (g : Nat → Int32), f_X5_placeOfRank r (nI n) (nI a) v = some p ∧ ∀ k, k < 4 → f_X7_orderedPoint p (nI k) (nI n) v = some (g k) ∧ f_X8_toldRank r (nI k) z = some (g k) := by
  have hn := h.2.1
  have hn2 := h.1
  rcases o_rank h h1 ha r with ⟨e1, e2⟩ | ⟨x, y, w, hx, hy, hw, e1, e2⟩
  · refine ⟨-1, fun _ => -1, e1, fun k hk => ⟨?_, ?_⟩⟩
    · unfold f_X7_orderedPoint
      rw [if_pos rfl]
    · unfold f_X8_toldRank
      rw [e2, Option.bind_some, if_pos rfl]
  · have h512 := idN_512 hn hx hy hw
    have e8 : (8 : Int32) = nI 8 := rfl
    have e64 : (64 : Int32) = nI 64 := rfl
    refine ⟨_, fun k => if k = 3 then v (idN n x y w) + 1000 else nI (cdN k x y w), e1, fun k hk => ⟨?_, ?_⟩⟩
    · unfold f_X7_orderedPoint
      rw [if_neg (nI_m1 (by omega))]
      rcases (show k < 3 ∨ k = 3 by omega) with hk3 | rfl
      · rw [if_neg (show ¬ nI k = 3 from fun q => by have := (nI_eq (b := 3) (by omega) (by decide)).mp q; omega), p_coord hn2 hn hk3 hx hy hw, Option.bind_some]
        show _ = some (if k = 3 then v (idN n x y w) + 1000 else nI (cdN k x y w))
        rw [if_neg (by omega)]
      · rw [if_pos (by rfl), p_num v h512]
        rfl
    · unfold f_X8_toldRank
      rw [e2, Option.bind_some, if_neg (nI_m1 (by omega)), e8, e64, pk_rem (a := x + 8 * y + 64 * w) (d := 8) (by omega) (by omega) (by omega), pk_div (a := x + 8 * y + 64 * w) (d := 8) (by omega) (by omega) (by omega), pk_rem (a := (x + 8 * y + 64 * w) / 8) (d := 8) (by omega) (by omega) (by omega), pk_div (a := x + 8 * y + 64 * w) (d := 64) (by omega) (by omega) (by omega), i3, dz_in_nI _ (by omega) (by decide), nI_clamp (by omega), h.2.2.2 x y w hx hy hw]
      rw [show (x + 8 * y + 64 * w) % 8 = x by omega, show (x + 8 * y + 64 * w) / 8 % 8 = y by omega, show (x + 8 * y + 64 * w) / 64 = w by omega]
      rcases (show k = 0 ∨ k = 1 ∨ k = 2 ∨ k = 3 by omega) with rfl | rfl | rfl | rfl <;> rfl
theorem o_ordered {z v : Nat → Int32} {n a : Nat} (h : MC z v n) (h1 : z 1 = nI a) (ha : a < 3) (r p : Int32) : (f_X7_ordered r p (nI n) (nI a) v = some (.inl 2) ∧ f_X8_ordered r p z = some (0, 1)) ∨ ∃ s, f_X7_ordered r p (nI n) (nI a) v = some (.inr s) ∧ f_X8_ordered r p z = some (s, 0) := by
  unfold f_X7_ordered f_X8_ordered f_X8_ordered_J18 f_X8_ordered_J19 f_X8_in f_X8_in_J14
  by_cases h0 : r < 0
  · rw [if_pos h0, if_pos h0, if_neg (by decide)]
    exact Or.inl ⟨rfl, rfl⟩
  · rw [if_neg h0, if_neg h0]
    by_cases h4 : p < 0
    · rw [if_pos h4, if_pos h4, if_pos rfl, if_neg (by decide)]
      exact Or.inl ⟨rfl, rfl⟩
    · rw [if_neg h4, if_neg h4]
      by_cases h5 : p ≤ 3
      · rw [if_pos h5, if_neg (Int32.not_lt.mpr h5), if_neg (by decide), if_pos (by decide)]
        obtain ⟨k, hk, rfl⟩ := nI_of2 (n := 3) rfl h4 h5
        obtain ⟨q, g, e1, e2⟩ := o_told h h1 ha r
        rw [e1, Option.bind_some, (e2 k (by omega)).1, (e2 k (by omega)).2]
        exact Or.inr ⟨_, rfl, rfl⟩
      · rw [if_neg h5, if_pos (Int32.not_le.mp h5), if_pos rfl, if_neg (by decide)]
        exact Or.inl ⟨rfl, rfl⟩
