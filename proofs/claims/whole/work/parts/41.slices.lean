/-! pure: slices of the class -/
/-- the number of a slice by its offset -/
def sl (v : Nat → Int32) (n a i o : Nat) : Int32 := v (ixN n a i (o % n) (o / n))
theorem sl_at {v : Nat → Int32} {n a i f l : Nat} (hf : f < n) : sl v n a i (l * n + f) = v (ixN n a i f l) := by
  unfold sl
  rw [Nat.mul_comm l n, Nat.mul_add_mod, Nat.mod_eq_of_lt hf, Nat.mul_add_div (by omega), Nat.div_eq_of_lt hf, Nat.add_zero]
theorem sl_dm {n o : Nat} (ho : o < n * n) : o % n < n ∧ o / n < n := by
  have h0 : 0 < n := by
    rcases Nat.eq_zero_or_pos n with rfl | h
    · omega
    · exact h
  exact ⟨Nat.mod_lt _ h0, (Nat.div_lt_iff_lt_mul h0).mpr ho⟩
def sMax (g : Nat → Int32) : Nat → Int32
  | 0 => -999
  | k + 1 => jmax (sMax g k) (g k)
def sPrev (g : Nat → Int32) : Nat → Int32
  | 0 => 0
  | k + 1 => if g k = 0 then 0 else 1
def sRoom (g : Nat → Int32) : Nat → Int32
  | 0 => 1
  | k + 1 => sRoom g k + (if g k = 0 then 0 else if sPrev g k = 0 then 2 else 1)
def sForm (m c : Int32) : Int32 := if c = 0 then 0 else if m < c then 2 else 1
def sRoomOf (m c r N : Int32) : Int32 := if sForm m c = 0 then 1 else if sForm m c = 1 then r else 1 + N * N
def sRoomBy (F R : Nat → Int32) : Nat → Int32
  | 0 => 0
  | k + 1 => sRoomBy F R k + (if F k = 0 ∧ k ≠ 0 ∧ F (k - 1) = 0 then 0 else R k)
theorem sCnt_step (g : Nat → Int32) (k : Nat) : sCnt g (k + 1) = if g k = 0 then sCnt g k else sCnt g k + 1 := by
  show sCnt g k + (if g k = 0 then 0 else 1) = _
  split
  · rw [Int32.add_zero]
  · rfl
theorem p_lookAt {n a i : Nat} (hn2 : 2 ≤ n) (hn : n ≤ 8) (ha : a < 3) (hi : i < n) (v lS lF lG lR : Nat → Int32) :
    f_X4_lookAt (nI a) (nI i) (nI n) v lS lF lG lR = some (nI n, upd lS i (sSum (sl v n a i) (n * n)), upd lF i (sCnt (sl v n a i) (n * n)), upd lG i (sMax (sl v n a i) (n * n)), upd lR i (sRoom (sl v n a i) (n * n))) := by
  have hnn : n * n ≤ 64 := Nat.mul_le_mul hn hn
  obtain ⟨g, hg⟩ : ∃ g, g = sl v n a i := ⟨_, rfl⟩
  rw [← hg]
  refine dz_it_count (fun l => (sSum g (l * n), sCnt g (l * n), sMax g (l * n), sRoom g (l * n), sPrev g (l * n), nI l)) n ?_ (by omega) (fun l hl => ?_) ?_
  · rw [Nat.zero_mul]; rfl
  · show f_X4_lookAt_L38 (nI a) (nI i) (nI n) v lS lF lG lR _ _ _ _ _ (nI l) = _
    unfold f_X4_lookAt_L38
    rw [if_neg (nI_ge hl (by omega)), p_rowStart n i l ha]
    refine dz_it_count (fun f => (sSum g (l * n + f), sCnt g (l * n + f), sMax g (l * n + f), sRoom g (l * n + f), sPrev g (l * n + f), nI (ixN n a i f l), nI f)) n rfl (by omega) (fun f hf => ?_) ?_
    · show f_X4_lookAt_L60 (nI a) (nI n) v (nI l) _ _ _ _ _ (nI (ixN n a i f l)) (nI f) = _
      have hv : f_X5_number (nI (ixN n a i f l)) v = g (l * n + f) := by rw [p_num v (ixN_lt ha hi hf hl hn), hg, sl_at hf]
      have hst : nI (ixN n a i f l) + f_X5_step (f_X7_formerOf (nI a)) (nI n) = nI (ixN n a i (f + 1) l) := by
        rw [p_former ha, p_step n (foN_lt a), nI_add]
        congr 1
        unfold ixN
        rw [Nat.add_mul]
        omega
      unfold f_X4_lookAt_L60 f_X4_lookAt_J120 f_X4_lookAt_J123 f_X4_lookAt_J133
      rw [if_neg (nI_ge hf (by omega)), hv, hst, nI_1]
      show _ = some (Sum.inl (sSum g (l * n + f) + g (l * n + f), sCnt g (l * n + f + 1), jmax (sMax g (l * n + f)) (g (l * n + f)), sRoom g (l * n + f) + (if g (l * n + f) = 0 then 0 else if sPrev g (l * n + f) = 0 then 2 else 1), (if g (l * n + f) = 0 then 0 else 1), nI (ixN n a i (f + 1) l), nI (f + 1)))
      rw [sCnt_step]
      by_cases h0 : g (l * n + f) = 0
      · simp only [h0, if_true, Int32.add_zero]
      · by_cases h1 : sPrev g (l * n + f) = 0
        · simp only [h0, h1, if_true, if_false]
        · simp only [h0, h1, if_false]
    · show f_X4_lookAt_L60 (nI a) (nI n) v (nI l) _ _ _ _ _ (nI (ixN n a i n l)) (nI n) = _
      unfold f_X4_lookAt_L60
      rw [if_pos (nI_le (Nat.le_refl _) (by omega)), nI_1, show (l + 1) * n = l * n + n from Nat.succ_mul l n]
  · show f_X4_lookAt_L38 (nI a) (nI i) (nI n) v lS lF lG lR _ _ _ _ _ (nI n) = _
    unfold f_X4_lookAt_L38
    rw [if_pos (nI_le (Nat.le_refl _) (by omega)), p_setCell _ _ (by omega) (by decide), p_setCell _ _ (by omega) (by decide), p_setCell _ _ (by omega) (by decide), p_setCell _ _ (by omega) (by decide)]
/-- a row whose first k places are g's -/
def uTo (f g : Nat → Int32) (k : Nat) : Nat → Int32 := fun j => if j < k then g j else f j
theorem uTo_0 (f g : Nat → Int32) : uTo f g 0 = f := by
  funext j
  unfold uTo
  rw [if_neg (by omega)]
theorem uTo_s (f g : Nat → Int32) (k : Nat) : upd (uTo f g k) k (g k) = uTo f g (k + 1) := by
  funext j
  unfold upd uTo
  by_cases h : j = k
  · subst h
    rw [if_pos rfl, if_pos (by omega)]
  · rw [if_neg h]
    by_cases h2 : j < k
    · rw [if_pos h2, if_pos (by omega)]
    · rw [if_neg h2, if_neg (by omega)]
theorem uTo_in {f g : Nat → Int32} {k j : Nat} (h : j < k) : uTo f g k j = g j := if_pos h
/-- what is seen of the slices of an axis -/
def vS (v : Nat → Int32) (n a i : Nat) : Int32 := sSum (sl v n a i) (n * n)
def vF (v : Nat → Int32) (n a i : Nat) : Int32 := sCnt (sl v n a i) (n * n)
def vG (v : Nat → Int32) (n a i : Nat) : Int32 := sMax (sl v n a i) (n * n)
def vR (v : Nat → Int32) (n a i : Nat) : Int32 := sRoom (sl v n a i) (n * n)
theorem p_look {n a : Nat} (hn2 : 2 ≤ n) (hn : n ≤ 8) (ha : a < 3) (v : Nat → Int32) (lD : Int32) (lS lF lG lR : Nat → Int32) :
    f_X4_look (nI a) (nI n) v lD lS lF lG lR = some (nI n, uTo lS (vS v n a) n, uTo lF (vF v n a) n, uTo lG (vG v n a) n, uTo lR (vR v n a) n) := by
  refine dz_it_count (fun i => (nI i, (if i = 0 then lD else nI n), uTo lS (vS v n a) i, uTo lF (vF v n a) i, uTo lG (vG v n a) i, uTo lR (vR v n a) i)) n ?_ (by omega) (fun i hi => ?_) ?_
  · simp only [uTo_0, if_true]; rfl
  · show f_X4_look_L2 (nI a) (nI n) v (nI i) _ _ _ _ _ = _
    unfold f_X4_look_L2
    rw [if_neg (nI_ge hi (by omega)), p_lookAt hn2 hn ha hi]
    show some (Sum.inl (nI i + 1, nI n, upd (uTo lS (vS v n a) i) i (vS v n a i), upd (uTo lF (vF v n a) i) i (vF v n a i), upd (uTo lG (vG v n a) i) i (vG v n a i), upd (uTo lR (vR v n a) i) i (vR v n a i))) = _
    rw [nI_1, uTo_s, uTo_s, uTo_s, uTo_s, if_neg (by omega)]
  · show f_X4_look_L2 (nI a) (nI n) v (nI n) _ _ _ _ _ = _
    unfold f_X4_look_L2
    rw [if_pos (nI_le (Nat.le_refl _) (by omega)), if_neg (by omega)]
/-- a row of eight that tells what is seen -/
def sees (n : Nat) (f g : Nat → Int32) : Prop := ∀ i, i < n → f i = g i
theorem uTo_sees (n : Nat) (f g : Nat → Int32) : sees n (uTo f g n) g := fun _ h => uTo_in h
theorem p_form {n i : Nat} (hn : n ≤ 8) (hi : i < n) {lF F : Nat → Int32} (h : sees n lF F) (m : Int32) : f_X4_form (nI i) m lF = sForm m (F i) := by
  unfold f_X4_form sForm
  rw [p_cell lF (by omega) (by decide), h i hi]
theorem p_room {n i : Nat} (hn : n ≤ 8) (hi : i < n) {lF F lR R : Nat → Int32} (h : sees n lF F) (h2 : sees n lR R) (m : Int32) : f_X4_room (nI i) m (nI n) lF lR = sRoomOf m (F i) (R i) (nI n) := by
  unfold f_X4_room sRoomOf
  rw [p_form hn hi h, p_cell lR (by omega) (by decide), h2 i hi]
/-- the room of all slices, by what is seen of them -/
def rAll (m : Int32) (n : Nat) (F R : Nat → Int32) : Int32 := sRoomBy (fun i => sForm m (F i)) (fun i => sRoomOf m (F i) (R i) (nI n)) n
theorem p_roomOfAll {n : Nat} (hn : n ≤ 8) {lF F lR R : Nat → Int32} (h : sees n lF F) (h2 : sees n lR R) (m : Int32) : f_X4_roomOfAll m (nI n) lF lR = some (rAll m n F R) := by
  unfold rAll
  obtain ⟨P, hP⟩ : ∃ P : Nat → Int32, P = fun i => sForm m (F i) := ⟨_, rfl⟩
  obtain ⟨Q, hQ⟩ : ∃ Q : Nat → Int32, Q = fun i => sRoomOf m (F i) (R i) (nI n) := ⟨_, rfl⟩
  rw [← hP, ← hQ]
  refine dz_it_count (fun i => (sRoomBy P Q i, (if i ≠ 0 ∧ P (i - 1) = 0 then 1 else 0), nI i)) n ?_ (by omega) (fun i hi => ?_) ?_
  · rw [if_neg (fun q => q.1 rfl)]; rfl
  · show f_X4_roomOfAll_L7 m (nI n) lF lR _ _ (nI i) = _
    unfold f_X4_roomOfAll_L7 f_X4_roomOfAll_J31 f_X4_roomOfAll_J42 f_X4_roomOfAll_J52
    rw [if_neg (nI_ge hi (by omega)), p_form hn hi h, p_room hn hi h h2, nI_1, show sForm m (F i) = P i by rw [hP], show sRoomOf m (F i) (R i) (nI n) = Q i by rw [hQ]]
    show _ = some (Sum.inl (sRoomBy P Q i + (if P i = 0 ∧ i ≠ 0 ∧ P (i - 1) = 0 then 0 else Q i), (if i + 1 ≠ 0 ∧ P (i + 1 - 1) = 0 then 1 else 0), nI (i + 1)))
    rw [Nat.add_sub_cancel]
    dsimp only
    have z1 : ¬ (1 : Int32) = 0 := by decide
    by_cases e1 : P i = 0
    · rw [if_pos e1, if_neg z1]
      by_cases e2 : i ≠ 0 ∧ P (i - 1) = 0
      · rw [if_pos e2, if_neg z1, if_pos (show P i = 0 ∧ i ≠ 0 ∧ P (i - 1) = 0 from ⟨e1, e2⟩), if_pos (show i + 1 ≠ 0 ∧ P i = 0 from ⟨by omega, e1⟩), Int32.add_zero]
      · rw [if_neg e2, if_pos rfl, if_neg (show ¬ (P i = 0 ∧ i ≠ 0 ∧ P (i - 1) = 0) from fun q => e2 q.2), if_pos (show i + 1 ≠ 0 ∧ P i = 0 from ⟨by omega, e1⟩)]
    · rw [if_neg e1, if_pos rfl, if_neg (show ¬ (P i = 0 ∧ i ≠ 0 ∧ P (i - 1) = 0) from fun q => e1 q.1), if_neg (show ¬ (i + 1 ≠ 0 ∧ P i = 0) from fun q => e1 q.2)]
  · show f_X4_roomOfAll_L7 m (nI n) lF lR _ _ (nI n) = _
    unfold f_X4_roomOfAll_L7
    rw [if_pos (nI_le (Nat.le_refl _) (by omega))]
theorem p_countOfForm {n : Nat} (hn : n ≤ 8) {lF F : Nat → Int32} (h : sees n lF F) (m k : Int32) : f_X4_countOfForm k m (nI n) lF = some (sSum (fun i => if sForm m (F i) = k then 1 else 0) n) := by
  refine dz_it_count (fun i => (sSum (fun i => if sForm m (F i) = k then 1 else 0) i, nI i)) n rfl (by omega) (fun i hi => ?_) ?_
  · show f_X4_countOfForm_L5 k m (nI n) lF _ (nI i) = _
    unfold f_X4_countOfForm_L5 f_X4_countOfForm_J28
    rw [if_neg (nI_ge hi (by omega)), p_form hn hi h, nI_1]
    show _ = some (Sum.inl (sSum (fun i => if sForm m (F i) = k then 1 else 0) i + (if sForm m (F i) = k then 1 else 0), nI (i + 1)))
    split
    · rfl
    · rw [Int32.add_zero]
  · show f_X4_countOfForm_L5 k m (nI n) lF _ (nI n) = _
    unfold f_X4_countOfForm_L5
    rw [if_pos (nI_le (Nat.le_refl _) (by omega))]
/-- what is told of a slice -/
def vTold (v : Nat → Int32) (n a i : Nat) (w m : Int32) : Int32 := if w = 0 then vS v n a i else if w = 1 then vF v n a i else if w = 2 then vG v n a i else if w = 3 then sForm m (vF v n a i) else sRoomOf m (vF v n a i) (vR v n a i) (nI n)
theorem p_told {n a i : Nat} (hn : n ≤ 8) (hi : i < n) {v lS lF lG lR : Nat → Int32} (h1 : lS i = vS v n a i) (h2 : lF i = vF v n a i) (h3 : lG i = vG v n a i) (h4 : lR i = vR v n a i) (w m : Int32) : f_X4_told (nI i) w m (nI n) lS lF lG lR = vTold v n a i w m := by
  have hf : f_X4_form (nI i) m lF = sForm m (vF v n a i) := by
    unfold f_X4_form sForm
    rw [p_cell lF (by omega) (by decide), h2]
  unfold f_X4_told vTold f_X4_room sRoomOf
  rw [hf, p_cell lS (by omega) (by decide), p_cell lF (by omega) (by decide), p_cell lG (by omega) (by decide), p_cell lR (by omega) (by decide), h1, h2, h3, h4]
