/-! pure: the heaviest line -/
/-- all numbers are within their range -/
def Bd (v : Nat → Int32) (n : Nat) : Prop := ∀ x y w, x < n → y < n → w < n → -999 ≤ (v (idN n x y w)).toInt ∧ (v (idN n x y w)).toInt ≤ 999
theorem Bd.by {v : Nat → Int32} {n a i f l : Nat} (h : Bd v n) (ha : a < 3) (hi : i < n) (hf : f < n) (hl : l < n) : -999 ≤ (v (ixN n a i f l)).toInt ∧ (v (ixN n a i f l)).toInt ≤ 999 := by
  refine a3 (P := fun a => -999 ≤ (v (ixN n a i f l)).toInt ∧ (v (ixN n a i f l)).toInt ≤ 999) ?_ ?_ ?_ ha
  · rw [ix0]; exact h i f l hi hf hl
  · rw [ix1]; exact h f i l hf hi hl
  · rw [ix2]; exact h f l i hf hl hi
theorem toInt_plus {a b : Int32} (h1 : -1000000 ≤ a.toInt) (h2 : a.toInt ≤ 1000000) (h3 : -1000000 ≤ b.toInt) (h4 : b.toInt ≤ 1000000) : (a + b).toInt = a.toInt + b.toInt := by
  rw [Int32.toInt_add, Int.bmod_def]
  split <;> omega
theorem sSum_bd {g : Nat → Int32} {n : Nat} (h : ∀ i, i < n → -999 ≤ (g i).toInt ∧ (g i).toInt ≤ 999) : ∀ k, k ≤ n → k ≤ 600 → -999 * (k : Int) ≤ (sSum g k).toInt ∧ (sSum g k).toInt ≤ 999 * (k : Int) := by
  intro k
  induction k with
  | zero =>
    intro _ _
    show -999 * ((0 : Nat) : Int) ≤ (0 : Int32).toInt ∧ (0 : Int32).toInt ≤ 999 * ((0 : Nat) : Int)
    decide
  | succ k ih =>
    intro hk hk2
    obtain ⟨h1, h2⟩ := ih (by omega) (by omega)
    obtain ⟨h3, h4⟩ := h k (by omega)
    show _ ≤ (sSum g k + g k).toInt ∧ (sSum g k + g k).toInt ≤ _
    rw [toInt_plus (by omega) (by omega) (by omega) (by omega)]
    omega
/-- the line of a number in the order of the lines -/
def wN (v : Nat → Int32) (n t : Nat) : Int32 := sSum (fun i => v (ixN n (t / (n * n)) i (t % (n * n) / n) (t % n))) n
def cStep (v : Nat → Int32) (n : Nat) (s : Int32 × Int32 × Int32 × Int32) (t : Nat) : Int32 × Int32 × Int32 × Int32 := if wN v n t ≤ s.2.2.2 then s else (nI (t / (n * n)), nI (t % (n * n) / n), nI (t % n), wN v n t)
def mStep (v : Nat → Int32) (n : Nat) (s : Nat × Int32) (t : Nat) : Nat × Int32 := if t = 0 then (t, wN v n t) else if wN v n t ≤ s.2 then s else (t, wN v n t)
theorem t_parts {n a f l : Nat} (hf : f < n) (hl : l < n) : (a * (n * n) + (f * n + l)) / (n * n) = a ∧ (a * (n * n) + (f * n + l)) % (n * n) / n = f ∧ (a * (n * n) + (f * n + l)) % n = l := by
  have h1 : f * n + l < n * n := by
    have : f * n + n ≤ n * n := by rw [← Nat.succ_mul]; exact Nat.mul_le_mul_right n hf
    omega
  refine ⟨?_, ?_, ?_⟩
  · rw [Nat.mul_comm a, Nat.mul_add_div (by omega), Nat.div_eq_of_lt h1, Nat.add_zero]
  · rw [Nat.mul_comm a, Nat.mul_add_mod, Nat.mod_eq_of_lt h1, Nat.mul_comm f, Nat.mul_add_div (by omega), Nat.div_eq_of_lt hl, Nat.add_zero]
  · rw [show a * (n * n) + (f * n + l) = n * (a * n + f) + l by grind, Nat.mul_add_mod, Nat.mod_eq_of_lt hl]
theorem wN_at {v : Nat → Int32} {n a f l : Nat} (hf : f < n) (hl : l < n) : wN v n (a * (n * n) + (f * n + l)) = sSum (fun i => v (ixN n a i f l)) n := by
  obtain ⟨h1, h2, h3⟩ := t_parts (a := a) hf hl
  unfold wN
  rw [h1, h2, h3]
theorem t_in {n t : Nat} (hn2 : 2 ≤ n) (ht : t < 3 * (n * n)) : t / (n * n) < 3 ∧ t % (n * n) / n < n ∧ t % n < n := by
  have h0 : 0 < n * n := Nat.mul_pos (by omega) (by omega)
  exact ⟨(Nat.div_lt_iff_lt_mul h0).mpr ht, (Nat.div_lt_iff_lt_mul (by omega)).mpr (Nat.mod_lt _ h0), Nat.mod_lt _ (by omega)⟩
theorem wN_bd {v : Nat → Int32} {n t : Nat} (hb : Bd v n) (hn2 : 2 ≤ n) (hn : n ≤ 8) (ht : t < 3 * (n * n)) : -8000 ≤ (wN v n t).toInt := by
  obtain ⟨h1, h2, h3⟩ := t_in hn2 ht
  have := (sSum_bd (g := fun i => v (ixN n (t / (n * n)) i (t % (n * n) / n) (t % n))) (n := n) (fun i hi => hb.by h1 hi h2 h3) n (Nat.le_refl n) (by omega)).1
  unfold wN
  omega
theorem h_same {v : Nat → Int32} {n : Nat} (hb : Bd v n) (hn2 : 2 ≤ n) (hn : n ≤ 8) (a0 f0 l0 : Int32) : ∀ t, ∃ b w, fN (mStep v n) (0, 0) (t + 1) = (b, w) ∧ fN (cStep v n) (a0, f0, l0, -1000000) (t + 1) = (nI (b / (n * n)), nI (b % (n * n) / n), nI (b % n), w) ∧ b ≤ t := by
  intro t
  induction t with
  | zero =>
    refine ⟨0, wN v n 0, rfl, ?_, Nat.le_refl 0⟩
    show cStep v n (a0, f0, l0, -1000000) 0 = _
    unfold cStep
    refine if_neg ?_
    have h1 := wN_bd (t := 0) hb hn2 hn (by have := Nat.mul_pos (show 0 < n by omega) (show 0 < n by omega); omega)
    intro q
    have q2 : (wN v n 0).toInt ≤ (-1000000 : Int32).toInt := Int32.le_iff_toInt_le.mp q
    have e : (-1000000 : Int32).toInt = -1000000 := rfl
    omega
  | succ t ih =>
    obtain ⟨b, w, h1, h2, h3⟩ := ih
    by_cases e : wN v n (t + 1) ≤ w
    · refine ⟨b, w, ?_, ?_, by omega⟩
      · show mStep v n (fN (mStep v n) (0, 0) (t + 1)) (t + 1) = _
        rw [h1]
        unfold mStep
        rw [if_neg (by omega), if_pos e]
      · show cStep v n (fN (cStep v n) (a0, f0, l0, -1000000) (t + 1)) (t + 1) = _
        rw [h2]
        unfold cStep
        rw [if_pos e]
    · refine ⟨t + 1, wN v n (t + 1), ?_, ?_, Nat.le_refl _⟩
      · show mStep v n (fN (mStep v n) (0, 0) (t + 1)) (t + 1) = _
        rw [h1]
        unfold mStep
        rw [if_neg (by omega), if_neg e]
      · show cStep v n (fN (cStep v n) (a0, f0, l0, -1000000) (t + 1)) (t + 1) = _
        rw [h2]
        unfold cStep
        rw [if_neg e]
theorem p_hlook {v : Nat → Int32} {n : Nat} (hn2 : 2 ≤ n) (hn : n ≤ 8) (hA hF hL : Int32) : f_X1_look (nI n) v hA hF hL = some (fN (cStep v n) (hA, hF, hL, -1000000) (3 * (n * n))) := by
  have hnn : n * n ≤ 64 := Nat.mul_le_mul hn hn
  obtain ⟨c, hc⟩ : ∃ c : Nat → Int32 × Int32 × Int32 × Int32, c = fN (cStep v n) (hA, hF, hL, -1000000) := ⟨_, rfl⟩
  have hc0 : c 0 = (hA, hF, hL, -1000000) := by rw [hc]; rfl
  have hcs : ∀ t, c (t + 1) = cStep v n (c t) t := fun t => by rw [hc]; rfl
  rw [← hc]
  refine dz_it_count (fun a => (nI a, (c (a * (n * n))).1, (c (a * (n * n))).2.1, (c (a * (n * n))).2.2.1, (c (a * (n * n))).2.2.2)) 3 ?_ (by omega) (fun a ha => ?_) ?_
  · rw [Nat.zero_mul, hc0]; rfl
  · show f_X1_look_L8 (nI n) v (nI a) _ _ _ _ = _
    unfold f_X1_look_L8
    rw [if_neg (show ¬ (3 : Int32) ≤ nI a from nI_ge (b := 3) ha (by decide))]
    refine dz_it_count (fun f => (nI f, (c (a * (n * n) + f * n)).1, (c (a * (n * n) + f * n)).2.1, (c (a * (n * n) + f * n)).2.2.1, (c (a * (n * n) + f * n)).2.2.2)) n ?_ (by omega) (fun f hf => ?_) ?_
    · rw [Nat.zero_mul, Nat.add_zero]; rfl
    · show f_X1_look_L15 (nI n) v (nI a) (nI f) _ _ _ _ = _
      unfold f_X1_look_L15
      rw [if_neg (nI_ge hf (by omega))]
      refine dz_it_count (fun l => (nI l, (c (a * (n * n) + (f * n + l))).1, (c (a * (n * n) + (f * n + l))).2.1, (c (a * (n * n) + (f * n + l))).2.2.1, (c (a * (n * n) + (f * n + l))).2.2.2)) n rfl (by omega) (fun l hl => ?_) ?_
      · show f_X1_look_L26 (nI n) v (nI f) (nI a) (nI l) _ _ _ _ = _
        obtain ⟨e1, e2, e3⟩ := t_parts (a := a) hf hl
        unfold f_X1_look_L26 f_X1_look_J76
        rw [if_neg (nI_ge hl (by omega)), p_lineSum hn ha hf hl, Option.bind_some, nI_1, show a * (n * n) + (f * n + (l + 1)) = a * (n * n) + (f * n + l) + 1 by omega, hcs, ← wN_at hf hl]
        unfold cStep
        rw [e1, e2, e3]
        split <;> rfl
      · show f_X1_look_L26 (nI n) v (nI f) (nI a) (nI n) _ _ _ _ = _
        unfold f_X1_look_L26
        rw [if_pos (nI_le (Nat.le_refl _) (by omega)), nI_1, show (f + 1) * n = f * n + n from Nat.succ_mul f n]
    · show f_X1_look_L15 (nI n) v (nI a) (nI n) _ _ _ _ = _
      unfold f_X1_look_L15
      rw [if_pos (nI_le (Nat.le_refl _) (by omega)), nI_1, show (a + 1) * (n * n) = a * (n * n) + n * n from Nat.succ_mul a _]
  · show f_X1_look_L8 (nI n) v (nI 3) _ _ _ _ = _
    unfold f_X1_look_L8
    rw [if_pos (by decide)]
/-- what is told of the heaviest line -/
def hTold (v : Nat → Int32) (n : Nat) (p : Int32) : Int32 := f_X1_told p (nI ((fN (mStep v n) (0, 0) (3 * (n * n))).1 / (n * n))) (nI ((fN (mStep v n) (0, 0) (3 * (n * n))).1 % (n * n) / n)) (nI ((fN (mStep v n) (0, 0) (3 * (n * n))).1 % n)) (fN (mStep v n) (0, 0) (3 * (n * n))).2
theorem mStep_le (v : Nat → Int32) (n : Nat) : ∀ t, (fN (mStep v n) (0, 0) t).1 ≤ t := by
  intro t
  induction t with
  | zero => exact Nat.le_refl 0
  | succ t ih =>
    show (mStep v n (fN (mStep v n) (0, 0) t) t).1 ≤ t + 1
    generalize fN (mStep v n) (0, 0) t = s at ih ⊢
    unfold mStep
    split
    · show t ≤ t + 1
      omega
    · split
      · omega
      · show t ≤ t + 1
        omega
theorem p8_heaviestOf {z v : Nat → Int32} {n : Nat} (h : MC z v n) (p : Int32) : f_X8_heaviestOf p z = some (hTold v n p) := by
  have hn := h.2.1
  have hn2 := h.1
  have hnn : n * n ≤ 64 := Nat.mul_le_mul hn hn
  have h0 : 0 < n * n := Nat.mul_pos (by omega) (by omega)
  obtain ⟨c, hc⟩ : ∃ c : Nat → Nat × Int32, c = fN (mStep v n) (0, 0) := ⟨_, rfl⟩
  have hc0 : c 0 = (0, 0) := by rw [hc]; rfl
  have hcs : ∀ t, c (t + 1) = mStep v n (c t) t := fun t => by rw [hc]; rfl
  have hle : ∀ t, (c t).1 ≤ t := fun t => by rw [hc]; exact mStep_le v n t
  have h3 : (3 : Int32) * f_X8_offsets z = nI (3 * (n * n)) := by rw [p8_offsets h, show (3 : Int32) = nI 3 from rfl, pk_mul]
  unfold hTold
  rw [← hc]
  refine dz_it_count (fun t => (nI (c t).1, (c t).2, nI t)) (3 * (n * n)) ?_ (by omega) (fun t ht => ?_) ?_
  · rw [hc0]; rfl
  · obtain ⟨e1, e2, e3⟩ := t_in hn2 ht
    show f_X8_heaviestOf_L7 p z (nI (c t).1) (c t).2 (nI t) = _
    unfold f_X8_heaviestOf_L7 f_X8_heaviestOf_J65 f_X8_heaviestOf_J70 f_X8_heaviestOf_J83 f_X8_heaviestOf_J95
    rw [h3, if_neg (nI_ge ht (by omega)), p8_offsets h, h.2.2.1, dz_nz_nI _ h0 (by omega), dz_nz_nI _ h0 (by omega), dz_nz_nI _ (by omega) (by omega), dz_nz_nI _ (by omega) (by omega)]
    rw [pk_rem (a := t) (d := n * n) (by omega) h0 (by omega), pk_rem (a := t) (d := n) (by omega) (by omega) (by omega), pk_div (a := t) (d := n * n) (by omega) h0 (by omega), pk_div (a := t % (n * n)) (d := n) (Nat.lt_of_lt_of_le (Nat.mod_lt _ h0) (by omega)) (by omega) (by omega), p8_lineSum h e1 e2 e3, Option.bind_some, nI_1, hcs]
    show _ = some (Sum.inl (nI (mStep v n (c t) t).1, (mStep v n (c t) t).2, nI (t + 1)))
    unfold mStep
    show _ = some (Sum.inl (nI (if t = 0 then (t, wN v n t) else if wN v n t ≤ (c t).2 then c t else (t, wN v n t)).1, (if t = 0 then (t, wN v n t) else if wN v n t ≤ (c t).2 then c t else (t, wN v n t)).2, nI (t + 1)))
    rw [show sSum (fun i => v (ixN n (t / (n * n)) i (t % (n * n) / n) (t % n))) n = wN v n t from rfl]
    rcases Nat.eq_zero_or_pos t with rfl | ht0
    · rfl
    · rw [if_neg (nI_ne0 ht0 (by omega)), if_neg (show ¬ t = 0 by omega)]
      by_cases e : wN v n t ≤ (c t).2
      · rw [if_pos e, if_pos e]
        rfl
      · rw [if_neg e, if_neg e]
        rfl
  · have hb := hle (3 * (n * n))
    show f_X8_heaviestOf_L7 p z (nI (c (3 * (n * n))).1) (c (3 * (n * n))).2 (nI (3 * (n * n))) = _
    unfold f_X8_heaviestOf_L7 f_X1_told
    rw [h3, if_pos (nI_le (Nat.le_refl _) (by omega)), p8_offsets h, h.2.2.1, dz_nz_nI _ h0 (by omega), dz_nz_nI _ h0 (by omega), dz_nz_nI _ (by omega) (by omega), dz_nz_nI _ (by omega) (by omega)]
    rw [pk_rem (d := n * n) (by omega) h0 (by omega), pk_rem (d := n) (by omega) (by omega) (by omega), pk_div (d := n * n) (by omega) h0 (by omega), pk_div (a := (c (3 * (n * n))).1 % (n * n)) (d := n) (Nat.lt_of_lt_of_le (Nat.mod_lt _ h0) (by omega)) (by omega) (by omega)]
    split
    · rfl
    · split
      · rfl
      · split <;> rfl
theorem o_heaviest {z v : Nat → Int32} {n : Nat} (h : MC z v n) (hb : Bd v n) (p hA hF hL : Int32) : (f_X7_heaviest p (nI n) v hA hF hL = some (.inl 2) ∧ f_X8_heaviest p z = some (0, 1)) ∨ ∃ s t, f_X7_heaviest p (nI n) v hA hF hL = some (.inr (s, t)) ∧ f_X8_heaviest p z = some (s, 0) := by
  unfold f_X7_heaviest f_X8_heaviest f_X8_heaviest_J15 f_X8_in f_X8_in_J14
  by_cases h4 : p < 0
  · rw [if_pos h4, if_pos h4, if_pos rfl, if_neg (by decide)]
    exact Or.inl ⟨rfl, rfl⟩
  · rw [if_neg h4, if_neg h4]
    by_cases h5 : p ≤ 3
    · rw [if_pos h5, if_neg (Int32.not_lt.mpr h5), if_neg (by decide), if_pos (by decide)]
      have h0 : 0 < n * n := Nat.mul_pos (by have := h.1; omega) (by have := h.1; omega)
      obtain ⟨b, w, e1, e2, e3⟩ := h_same hb h.1 h.2.1 hA hF hL (3 * (n * n) - 1)
      rw [show 3 * (n * n) - 1 + 1 = 3 * (n * n) by omega] at e1 e2
      rw [p_hlook h.1 h.2.1, p8_heaviestOf h, e2]
      unfold hTold
      rw [e1]
      exact Or.inr ⟨_, _, rfl, rfl⟩
    · rw [if_neg h5, if_pos (Int32.not_le.mp h5), if_pos rfl, if_neg (by decide)]
      exact Or.inl ⟨rfl, rfl⟩
