/-! pure: a number added to a box -/
theorem idN_add (n x y w A B C : Nat) : idN n x y w + idN n A B C = idN n (x + A) (y + B) (w + C) := by
  unfold idN
  grind
theorem b_place (n x y w A B C : Nat) : nI (idN n x y w) + f_X5_place (nI A) (nI B) (nI C) (nI n) = nI (idN n (x + A) (y + B) (w + C)) := by rw [p_place, nI_add, idN_add]
/-- whether the number at a place of the box can take the addition -/
def bxN (v : Nat → Int32) (n x y w : Nat) (c : Int32) (A B C : Nat) : Int32 := f_X7_isNumber (v (idN n (x + A) (y + B) (w + C)) + c)
theorem bx_b {v : Nat → Int32} {n x y w s A B C : Nat} (hn : n ≤ 8) (hx : x + s ≤ n) (hy : y + s ≤ n) (hw : w + s ≤ n) (hA : A < s) (hB : B < s) (hC : C < s) (c : Int32) : f_X5_boxCanTake_L21 (nI (idN n x y w)) (nI s) c (nI n) v (nI B) (nI C) (nI A) = if bxN v n x y w c A B C = 0 then some (.inr (.inr (.inr 0))) else some (.inl (nI (A + 1))) := by
  unfold f_X5_boxCanTake_L21 bxN
  rw [if_neg (nI_ge hA (by omega)), b_place, p_num v (idN_512 hn (by omega) (by omega) (by omega)), nI_1]
theorem bx_iN {v : Nat → Int32} {n x y w s B C : Nat} (hn : n ≤ 8) (hx : x + s ≤ n) (hy : y + s ≤ n) (hw : w + s ≤ n) (hB : B < s) (hC : C < s) {c : Int32} (h : ∀ A, A < s → ¬ bxN v n x y w c A B C = 0) : f_X5_boxCanTake_L12 (nI (idN n x y w)) (nI s) c (nI n) v (nI C) (nI B) = some (.inl (nI (B + 1))) := by
  unfold f_X5_boxCanTake_L12
  rw [if_neg (nI_ge hB (by omega))]
  refine dz_it_count (fun A => nI A) s rfl (by omega) (fun A hA => ?_) ?_
  · exact (bx_b hn hx hy hw hA hB hC c).trans (if_neg (h A hA))
  · show f_X5_boxCanTake_L21 _ (nI s) c (nI n) v (nI B) (nI C) (nI s) = _
    unfold f_X5_boxCanTake_L21
    rw [if_pos (nI_le (Nat.le_refl _) (by omega)), nI_1]
theorem bx_iH {v : Nat → Int32} {n x y w s A B C : Nat} (hn : n ≤ 8) (hx : x + s ≤ n) (hy : y + s ≤ n) (hw : w + s ≤ n) (hA : A < s) (hB : B < s) (hC : C < s) {c : Int32} (h : ∀ A', A' < A → ¬ bxN v n x y w c A' B C = 0) (h2 : bxN v n x y w c A B C = 0) : f_X5_boxCanTake_L12 (nI (idN n x y w)) (nI s) c (nI n) v (nI C) (nI B) = some (.inr (.inr 0)) := by
  unfold f_X5_boxCanTake_L12
  rw [if_neg (nI_ge hB (by omega))]
  refine dz_it_count (fun A => nI A) A rfl (by omega) (fun A' hA' => ?_) ?_
  · exact (bx_b hn hx hy hw (by omega) hB hC c).trans (if_neg (h A' hA'))
  · exact (bx_b hn hx hy hw hA hB hC c).trans (if_pos h2)
theorem bx_mN {v : Nat → Int32} {n x y w s C : Nat} (hn : n ≤ 8) (hx : x + s ≤ n) (hy : y + s ≤ n) (hw : w + s ≤ n) (hC : C < s) {c : Int32} (h : ∀ A B, A < s → B < s → ¬ bxN v n x y w c A B C = 0) : f_X5_boxCanTake_L3 (nI (idN n x y w)) (nI s) c (nI n) v (nI C) = some (.inl (nI (C + 1))) := by
  unfold f_X5_boxCanTake_L3
  rw [if_neg (nI_ge hC (by omega))]
  refine dz_it_count (fun B => nI B) s rfl (by omega) (fun B hB => ?_) ?_
  · exact bx_iN hn hx hy hw hB hC (fun A hA => h A B hA hB)
  · show f_X5_boxCanTake_L12 _ (nI s) c (nI n) v (nI C) (nI s) = _
    unfold f_X5_boxCanTake_L12
    rw [if_pos (nI_le (Nat.le_refl _) (by omega)), nI_1]
theorem bx_mH {v : Nat → Int32} {n x y w s A B C : Nat} (hn : n ≤ 8) (hx : x + s ≤ n) (hy : y + s ≤ n) (hw : w + s ≤ n) (hA : A < s) (hB : B < s) (hC : C < s) {c : Int32} (h : ∀ A' B', A' < s → B' < B → ¬ bxN v n x y w c A' B' C = 0) (h2 : ∀ A', A' < A → ¬ bxN v n x y w c A' B C = 0) (h3 : bxN v n x y w c A B C = 0) : f_X5_boxCanTake_L3 (nI (idN n x y w)) (nI s) c (nI n) v (nI C) = some (.inr 0) := by
  unfold f_X5_boxCanTake_L3
  rw [if_neg (nI_ge hC (by omega))]
  refine dz_it_count (fun B => nI B) B rfl (by omega) (fun B' hB' => ?_) ?_
  · exact bx_iN hn hx hy hw (by omega) hC (fun A' hA' => h A' B' hA' hB')
  · exact bx_iH hn hx hy hw hA hB hC h2 h3
theorem bx_N {v : Nat → Int32} {n x y w s : Nat} (hn : n ≤ 8) (hx : x + s ≤ n) (hy : y + s ≤ n) (hw : w + s ≤ n) {c : Int32} (h : ∀ A B C, A < s → B < s → C < s → ¬ bxN v n x y w c A B C = 0) : f_X5_boxCanTake (nI (idN n x y w)) (nI s) c (nI n) v = some 1 := by
  refine dz_it_count (fun C => nI C) s rfl (by omega) (fun C hC => ?_) ?_
  · exact bx_mN hn hx hy hw hC (fun A B hA hB => h A B C hA hB hC)
  · show f_X5_boxCanTake_L3 _ (nI s) c (nI n) v (nI s) = _
    unfold f_X5_boxCanTake_L3
    rw [if_pos (nI_le (Nat.le_refl _) (by omega))]
theorem bx_H {v : Nat → Int32} {n x y w s : Nat} (hn : n ≤ 8) (hx : x + s ≤ n) (hy : y + s ≤ n) (hw : w + s ≤ n) {c : Int32} (h : ∃ C, C < s ∧ ∃ B, B < s ∧ ∃ A, A < s ∧ bxN v n x y w c A B C = 0) : f_X5_boxCanTake (nI (idN n x y w)) (nI s) c (nI n) v = some 0 := by
  obtain ⟨C, ⟨hC, q⟩, hC2⟩ := pk_least _ h
  obtain ⟨B, ⟨hB, q2⟩, hB2⟩ := pk_least _ q
  obtain ⟨A, ⟨hA, q3⟩, hA2⟩ := pk_least _ q2
  refine dz_it_count (fun C => nI C) C rfl (by omega) (fun C' hC' => ?_) ?_
  · exact bx_mN hn hx hy hw (by omega) (fun A' B' hA' hB' e => hC2 C' hC' ⟨by omega, B', hB', A', hA', e⟩)
  · exact bx_mH hn hx hy hw hA hB hC (fun A' B' hA' hB' e => hB2 B' hB' ⟨by omega, A', hA', e⟩) (fun A' hA' e => hA2 A' hA' ⟨by omega, e⟩) q3
/-- the model's flag -/
def cA (g : Nat → Int32) (t : Nat) : Int32 := fN (fun s t => if s = 0 then 0 else if g t = 0 then 0 else 1) 1 t
theorem cA_s (g : Nat → Int32) (t : Nat) : cA g (t + 1) = if cA g t = 0 then 0 else if g t = 0 then 0 else 1 := rfl
theorem cA_all {g : Nat → Int32} : ∀ T, (∀ t, t < T → ¬ g t = 0) → cA g T = 1 := by
  intro T
  induction T with
  | zero => intro _; rfl
  | succ T ih =>
    intro h
    rw [cA_s, ih (fun t ht => h t (by omega)), if_neg (by decide), if_neg (h T (by omega))]
theorem cA_bad {g : Nat → Int32} {t0 : Nat} (h0 : g t0 = 0) : ∀ d, cA g (t0 + 1 + d) = 0 := by
  intro d
  induction d with
  | zero =>
    show cA g (t0 + 1) = 0
    rw [cA_s, if_pos h0]
    split <;> rfl
  | succ d ih =>
    show cA g (t0 + 1 + d + 1) = 0
    rw [cA_s, if_pos ih]
def bxT (v : Nat → Int32) (n x y w s : Nat) (c : Int32) (t : Nat) : Int32 := bxN v n x y w c (t % s) (t / s % s) (t / (s * s))
theorem p8_canAdd {z v : Nat → Int32} {n x y w s : Nat} (h : MC z v n) (hs : 1 ≤ s) (hx : x + s ≤ n) (hy : y + s ≤ n) (hw : w + s ≤ n) (c : Int32) (he : cA (bxT v n x y w s c) (s * s * s) = 0 ∨ cA (bxT v n x y w s c) (s * s * s) = 1) : f_X8_canAdd (nI x) (nI y) (nI w) (nI s) c z = some (cA (bxT v n x y w s c) (s * s * s)) := by
  have hn := h.2.1
  have h512 := cube_le (n := s) (by omega)
  have hss : s * s ≤ 64 := Nat.mul_le_mul (show s ≤ 8 by omega) (show s ≤ 8 by omega)
  have h0 : 0 < s * s := Nat.mul_pos (by omega) (by omega)
  refine dz_it_count (fun t => (cA (bxT v n x y w s c) t, nI t)) (s * s * s) rfl (by omega) (fun t ht => ?_) ?_
  · show f_X8_canAdd_L6 (nI x) (nI y) (nI w) (nI s) c z (cA (bxT v n x y w s c) t) (nI t) = some (Sum.inl (cA (bxT v n x y w s c) (t + 1), nI (t + 1)))
    have q1 : t / (s * s) < s := (Nat.div_lt_iff_lt_mul h0).mpr (by rw [← Nat.mul_assoc]; exact ht)
    have q2 : t % s < s := Nat.mod_lt _ (by omega)
    have q3 : t / s % s < s := Nat.mod_lt _ (by omega)
    have hd : t / s ≤ t := Nat.div_le_self _ _
    unfold f_X8_canAdd_L6 f_X8_canAdd_J74 f_X8_canAdd_J75
    rw [pk_mul, pk_mul, if_neg (nI_ge ht (by omega)), dz_nz_nI _ (by omega) (by omega), dz_nz_nI _ (by omega) (by omega), dz_nz_nI _ (by omega) (by omega), dz_nz_nI _ h0 (by omega), pk_rem (a := t) (d := s) (by omega) (by omega) (by omega), pk_div (a := t) (d := s) (by omega) (by omega) (by omega), pk_rem (a := t / s) (d := s) (by omega) (by omega) (by omega), pk_div (a := t) (d := s * s) (by omega) h0 (by omega), nI_add, nI_add, nI_add, p8_place, i3, dz_in_nI _ (by omega) (by decide), nI_clamp (by omega), h.2.2.2 _ _ _ (by omega) (by omega) (by omega), nI_1, g_number, cA_s]
    show (if cA (bxT v n x y w s c) t = 0 then some (Sum.inl (0, nI (t + 1))) else if bxT v n x y w s c t = 0 then some (Sum.inl (0, nI (t + 1))) else some (Sum.inl (1, nI (t + 1)))) = _
    split
    · rfl
    · split <;> rfl
  · show f_X8_canAdd_L6 (nI x) (nI y) (nI w) (nI s) c z (cA (bxT v n x y w s c) (s * s * s)) (nI (s * s * s)) = _
    unfold f_X8_canAdd_L6 dz_z
    rw [pk_mul, pk_mul, if_pos (nI_le (Nat.le_refl _) (by omega)), if_pos he]
theorem o_can {z v : Nat → Int32} {n x y w s : Nat} (h : MC z v n) (hs : 1 ≤ s) (hx : x + s ≤ n) (hy : y + s ≤ n) (hw : w + s ≤ n) (c : Int32) : (f_X5_boxCanTake (nI (idN n x y w)) (nI s) c (nI n) v = some 0 ∧ f_X8_canAdd (nI x) (nI y) (nI w) (nI s) c z = some 0) ∨ (f_X5_boxCanTake (nI (idN n x y w)) (nI s) c (nI n) v = some 1 ∧ f_X8_canAdd (nI x) (nI y) (nI w) (nI s) c z = some 1 ∧ ∀ A B C, A < s → B < s → C < s → ¬ bxN v n x y w c A B C = 0) := by
  by_cases q : ∃ C, C < s ∧ ∃ B, B < s ∧ ∃ A, A < s ∧ bxN v n x y w c A B C = 0
  · have e1 := bx_H h.2.1 hx hy hw q
    obtain ⟨C, hC, B, hB, A, hA, e⟩ := q
    obtain ⟨t1, t2, t3⟩ := tn_parts (A := C) hB hA
    have hT : C * (s * s) + (B * s + A) < s * s * s := by
      have a1 := fl_lt hA hB
      have a2 : C * (s * s) + s * s ≤ s * (s * s) := by rw [← Nat.succ_mul]; exact Nat.mul_le_mul_right _ hC
      rw [Nat.mul_assoc]
      omega
    have hb : cA (bxT v n x y w s c) (s * s * s) = 0 := by
      obtain ⟨d, hd⟩ : ∃ d, s * s * s = C * (s * s) + (B * s + A) + 1 + d := ⟨s * s * s - (C * (s * s) + (B * s + A) + 1), by omega⟩
      rw [hd]
      refine cA_bad ?_ d
      unfold bxT
      rw [t1, t2, t3]
      exact e
    have e2 := p8_canAdd h hs hx hy hw c (Or.inl hb)
    rw [hb] at e2
    exact Or.inl ⟨e1, e2⟩
  · have hno : ∀ A B C, A < s → B < s → C < s → ¬ bxN v n x y w c A B C = 0 := fun A B C hA hB hC e => q ⟨C, hC, B, hB, A, hA, e⟩
    have h0 : 0 < s * s := Nat.mul_pos (by omega) (by omega)
    have hb : cA (bxT v n x y w s c) (s * s * s) = 1 := cA_all _ (fun t ht => hno _ _ _ (Nat.mod_lt _ (by omega)) (Nat.mod_lt _ (by omega)) ((Nat.div_lt_iff_lt_mul h0).mpr (by rw [← Nat.mul_assoc]; exact ht)))
    have e2 := p8_canAdd h hs hx hy hw c (Or.inr hb)
    rw [hb] at e2
    exact Or.inr ⟨bx_N h.2.1 hx hy hw hno, e2, hno⟩
/-! the addition itself -/
def adP (n x y w s t : Nat) : Nat := idN n (x + t % s) (y + t / s % s) (w + t / (s * s))
def adQ (x y w s t : Nat) : Nat := 3 + (x + t % s + 8 * (y + t / s % s) + 64 * (w + t / (s * s)))
def adV (n x y w s : Nat) (c : Int32) (v : Nat → Int32) (t : Nat) : Nat → Int32 := fN (fun u t => upd u (adP n x y w s t) (u (adP n x y w s t) + c)) v t
def adZ (x y w s : Nat) (c : Int32) (z : Nat → Int32) (t : Nat) : Nat → Int32 := fN (fun u t => upd u (adQ x y w s t) (u (adQ x y w s t) + c)) z t
theorem adV_s (n x y w s : Nat) (c : Int32) (v : Nat → Int32) (t : Nat) : adV n x y w s c v (t + 1) = upd (adV n x y w s c v t) (adP n x y w s t) (adV n x y w s c v t (adP n x y w s t) + c) := rfl
theorem adZ_s (x y w s : Nat) (c : Int32) (z : Nat → Int32) (t : Nat) : adZ x y w s c z (t + 1) = upd (adZ x y w s c z t) (adQ x y w s t) (adZ x y w s c z t (adQ x y w s t) + c) := rfl
theorem t_back {s t : Nat} (hs : 1 ≤ s) : t / (s * s) * (s * s) + (t / s % s * s + t % s) = t := by
  have h1 := Nat.div_add_mod t s
  have h2 := Nat.div_add_mod (t / s) s
  rw [Nat.div_div_eq_div_mul] at h2
  rw [← h2] at h1
  grind
theorem adP_inj {n x y w s t t' : Nat} (hs : 1 ≤ s) (hx : x + s ≤ n) (hy : y + s ≤ n) (h : adP n x y w s t = adP n x y w s t') : t = t' := by
  have a1 : t % s < s := Nat.mod_lt _ (by omega)
  have a2 : t / s % s < s := Nat.mod_lt _ (by omega)
  have b1 : t' % s < s := Nat.mod_lt _ (by omega)
  have b2 : t' / s % s < s := Nat.mod_lt _ (by omega)
  obtain ⟨e1, e2, e3⟩ := idN_inj (n := n) (by omega) (by omega) (by omega) (by omega) h
  rw [← t_back (t := t) hs, ← t_back (t := t') hs, show t % s = t' % s by omega, show t / s % s = t' / s % s by omega, show t / (s * s) = t' / (s * s) by omega]
theorem adV_far {v : Nat → Int32} {n x y w s t0 : Nat} {c : Int32} (hs : 1 ≤ s) (hx : x + s ≤ n) (hy : y + s ≤ n) : ∀ t, t ≤ t0 → adV n x y w s c v t (adP n x y w s t0) = v (adP n x y w s t0) := by
  intro t
  induction t with
  | zero => intro _; rfl
  | succ t ih =>
    intro ht
    rw [adV_s, pk_un, ih (by omega)]
    intro q
    have := adP_inj hs hx hy q
    omega
theorem ad_CR {z v w0 : Nat → Int32} {n a m x y w s : Nat} {c : Int32} (h : CR z v w0 n a m) (hs : 1 ≤ s) (hx : x + s ≤ n) (hy : y + s ≤ n) (hw : w + s ≤ n) (hok : ∀ A B C, A < s → B < s → C < s → ¬ bxN v n x y w c A B C = 0) : ∀ t, t ≤ s * s * s → CR (adZ x y w s c z t) (adV n x y w s c v t) w0 n a m := by
  have h0 : 0 < s * s := Nat.mul_pos (by omega) (by omega)
  intro t
  induction t with
  | zero => intro _; exact h
  | succ t ih =>
    intro ht
    have q1 : t / (s * s) < s := (Nat.div_lt_iff_lt_mul h0).mpr (by rw [← Nat.mul_assoc]; exact ht)
    have q2 : t % s < s := Nat.mod_lt _ (by omega)
    have q3 : t / s % s < s := Nat.mod_lt _ (by omega)
    have hc := ih (by omega)
    have hb := g_num_in (hok _ _ _ q2 q3 q1)
    have e1 : adZ x y w s c z t (adQ x y w s t) = adV n x y w s c v t (adP n x y w s t) := hc.1.1.2.2.2 _ _ _ (by omega) (by omega) (by omega)
    rw [adV_s, adZ_s, e1, adV_far hs hx hy t (Nat.le_refl t)]
    exact hc.put (by omega) (by omega) (by omega) hb.1 hb.2
theorem p_addToBox {v : Nat → Int32} {n x y w s : Nat} (hn : n ≤ 8) (hs : 1 ≤ s) (hx : x + s ≤ n) (hy : y + s ≤ n) (hw : w + s ≤ n) (c : Int32) : f_X5_addToBox (nI (idN n x y w)) (nI s) c (nI n) v = some (sCnt (fun t => v (adP n x y w s t) + c) (s * s * s), adV n x y w s c v (s * s * s)) := by
  rw [show s * s * s = s * (s * s) from Nat.mul_assoc s s s]
  refine dz_it_count (fun C => (sCnt (fun t => v (adP n x y w s t) + c) (C * (s * s)), nI C, adV n x y w s c v (C * (s * s)))) s ?_ (by omega) (fun C hC => ?_) ?_
  · rw [Nat.zero_mul]; rfl
  · show f_X5_addToBox_L6 (nI (idN n x y w)) (nI s) c (nI n) _ (nI C) (adV n x y w s c v (C * (s * s))) = _
    unfold f_X5_addToBox_L6
    rw [if_neg (nI_ge hC (by omega))]
    refine dz_it_count (fun B => (sCnt (fun t => v (adP n x y w s t) + c) (C * (s * s) + B * s), nI B, adV n x y w s c v (C * (s * s) + B * s))) s ?_ (by omega) (fun B hB => ?_) ?_
    · rw [Nat.zero_mul]; rfl
    · show f_X5_addToBox_L15 (nI (idN n x y w)) (nI s) c (nI n) (nI C) _ (nI B) (adV n x y w s c v (C * (s * s) + B * s)) = _
      unfold f_X5_addToBox_L15
      rw [if_neg (nI_ge hB (by omega))]
      refine dz_it_count (fun A => (sCnt (fun t => v (adP n x y w s t) + c) (C * (s * s) + (B * s + A)), nI A, adV n x y w s c v (C * (s * s) + (B * s + A)))) s rfl (by omega) (fun A hA => ?_) ?_
      · show f_X5_addToBox_L24 (nI (idN n x y w)) (nI s) c (nI n) (nI B) (nI C) (sCnt (fun t => v (adP n x y w s t) + c) (C * (s * s) + (B * s + A))) (nI A) (adV n x y w s c v (C * (s * s) + (B * s + A))) = some (Sum.inl (sCnt (fun t => v (adP n x y w s t) + c) (C * (s * s) + (B * s + A) + 1), nI (A + 1), adV n x y w s c v (C * (s * s) + (B * s + A) + 1)))
        have h512 : idN n (x + A) (y + B) (w + C) < 512 := idN_512 hn (by omega) (by omega) (by omega)
        obtain ⟨t1, t2, t3⟩ := tn_parts (A := C) hB hA
        have hp : adP n x y w s (C * (s * s) + (B * s + A)) = idN n (x + A) (y + B) (w + C) := by
          unfold adP
          rw [t1, t2, t3]
        have hf := adV_far (v := v) (c := c) (w := w) (t0 := C * (s * s) + (B * s + A)) hs hx hy _ (Nat.le_refl _)
        rw [adV_s, hf, sCnt_step, hp]
        rw [hp] at hf
        unfold f_X5_addToBox_L24 f_X5_addToBox_J70
        rw [if_neg (nI_ge hA (by omega)), b_place, p_num _ h512, hf, p_write _ _ h512, nI_1]
        by_cases e : v (idN n (x + A) (y + B) (w + C)) + c = 0
        · rw [if_pos e, if_pos e]
        · rw [if_neg e, if_neg e]
      · show f_X5_addToBox_L24 (nI (idN n x y w)) (nI s) c (nI n) (nI B) (nI C) _ (nI s) _ = _
        unfold f_X5_addToBox_L24
        rw [if_pos (nI_le (Nat.le_refl _) (by omega)), nI_1, show (B + 1) * s = B * s + s from Nat.succ_mul B s]
    · show f_X5_addToBox_L15 (nI (idN n x y w)) (nI s) c (nI n) (nI C) _ (nI s) _ = _
      unfold f_X5_addToBox_L15
      rw [if_pos (nI_le (Nat.le_refl _) (by omega)), nI_1, show (C + 1) * (s * s) = C * (s * s) + s * s from Nat.succ_mul C _]
  · show f_X5_addToBox_L6 (nI (idN n x y w)) (nI s) c (nI n) _ (nI s) _ = _
    unfold f_X5_addToBox_L6
    rw [if_pos (nI_le (Nat.le_refl _) (by omega))]
theorem o_add {z v w0 U : Nat → Int32} {n a m : Nat} {oO oS V : Int32} {hv : Nat → SV} (h : CR z v w0 n a m) (hh : HR oO oS hv U V) (p q r b c : Int32) : (f_X7_add p q r b c (nI n) (nI a) (nI m) v w0 oO oS hv = some (.inl 1) ∧ f_X8_add p q r b c z U V = some (0, 1, z, U, V)) ∨ (f_X7_add p q r b c (nI n) (nI a) (nI m) v w0 oO oS hv = some (.inl 2) ∧ f_X8_add p q r b c z U V = some (0, 2, z, U, V)) ∨ (f_X7_add p q r b c (nI n) (nI a) (nI m) v w0 oO oS hv = some (.inl 3) ∧ f_X8_add p q r b c z U V = some (0, 3, z, U, V)) ∨ ∃ s v' O S H z' U' V', f_X7_add p q r b c (nI n) (nI a) (nI m) v w0 oO oS hv = some (.inr (s, v', O, S, H)) ∧ f_X8_add p q r b c z U V = some (s, 0, z', U', V') ∧ CR z' v' w0 n a m ∧ HR O S H U' V' := by
  have h0 : z 0 = nI n := h.1.1.2.2.1
  have hn := h.1.1.2.1
  have hn2 := h.1.1.1
  have m1 : f_X8_add_J117 p q r b c z U V 1 = some (0, 1, z, U, V) := if_neg (by decide)
  have m2 : f_X8_add_J117 p q r b c z U V 2 = some (0, 2, z, U, V) := if_neg (by decide)
  have m3 : f_X8_add_J117 p q r b c z U V 3 = some (0, 3, z, U, V) := if_neg (by decide)
  have j1 : ∀ k, f_X8_add_J77 p q r b c z U V 0 k = some (0, 1, z, U, V) := fun k => (if_pos rfl).trans m1
  have j2 : f_X8_add_J77 p q r b c z U V 1 0 = some (0, 2, z, U, V) := (if_neg (by decide)).trans ((if_pos rfl).trans m2)
  have k1 : f_X8_add_J51 p q r b c z U V 0 = some (0, 1, z, U, V) := by
    unfold f_X8_add_J51 f_X8_add_J76
    rw [j1, j1]
    split
    · rfl
    · split <;> rfl
  unfold f_X7_add f_X8_add f_X8_add_J46 f_X8_add_J50 f_X7_add_J17 f_X7_add_J18
  rw [g_point h0, g_point h0, k1]
  by_cases h1 : f_X5_hasPoint p q r (nI n) = 0
  · refine Or.inl ⟨?_, if_pos h1⟩
    rw [if_pos h1, if_pos h1]
    split
    · rfl
    · split <;> rfl
  · rw [if_neg h1, if_neg h1, if_neg h1]
    by_cases h2 : b < 1 ∨ 8 < b
    · refine Or.inr (Or.inl ⟨?_, ?_⟩)
      · rw [if_pos rfl]
        unfold f_X7_add_J76
        rw [if_pos rfl]
        rcases h2 with h2 | h2
        · rw [if_pos h2]
        · rw [if_pos h2]
          split <;> rfl
      · have hb : f_X8_in b 1 8 = 0 := by
          unfold f_X8_in f_X8_in_J14
          rcases h2 with h2 | h2
          · rw [if_pos h2]
          · rw [if_pos h2]
            split <;> rfl
        unfold f_X8_add_J51 f_X8_add_J76
        rw [hb, if_pos rfl, if_pos rfl, j2]
    · have hb1 : ¬ b < 1 := fun q => h2 (Or.inl q)
      have hb8 : ¬ 8 < b := fun q => h2 (Or.inr q)
      have hin : f_X8_in b 1 8 = 1 := by
        unfold f_X8_in f_X8_in_J14
        rw [if_neg hb1, if_neg hb8]
      rw [if_neg hb1, if_neg hb8, if_neg (show ¬ (1 : Int32) = 0 by decide), hin, if_neg (show ¬ (1 : Int32) = 0 by decide)]
      by_cases h3 : f_X5_hasPoint (p + b - 1) (q + b - 1) (r + b - 1) (nI n) = 0
      · exact Or.inl ⟨if_pos h3, if_pos h3⟩
      · rw [if_neg h3, if_neg h3]
        unfold f_X7_add_J76 f_X8_add_J51 f_X8_add_J76
        rw [if_neg (show ¬ (1 : Int32) = 0 by decide), hin, if_neg (show ¬ (1 : Int32) = 0 by decide), g_number]
        by_cases h4 : f_X7_isNumber c = 0
        · rw [if_pos h4, if_pos h4, j2]
          exact Or.inr (Or.inl ⟨rfl, rfl⟩)
        · rw [if_neg h4, if_neg h4]
          obtain ⟨x, y, u, hx, hy, hu, rfl, rfl, rfl⟩ := g_point_of (by omega) h1
          obtain ⟨s, hs, hs8, rfl⟩ := of_ge1 (M := 8) (n := 8) rfl hb1 (Int32.not_lt.mp hb8)
          obtain ⟨x', y', u', hx', hy', hu', c1, c2, c3⟩ := g_point_of (by omega) h3
          have hco : ∀ k k', k < n → k' < n → nI k + nI s - 1 = nI k' → k + s ≤ n := fun k k' hk hk' e => by
            obtain ⟨s', rfl⟩ : ∃ s', s = s' + 1 := ⟨s - 1, by omega⟩
            rw [nI_add, show k + (s' + 1) = k + s' + 1 from rfl, nI_pred] at e
            have := (nI_eq (by omega) (by omega)).mp e
            omega
          have hsx := hco x x' hx hx' c1
          have hsy := hco y y' hy hy' c2
          have hsu := hco u u' hu hu' c3
          unfold f_X8_add_J77
          rw [if_neg (show ¬ (1 : Int32) = 0 by decide), if_neg (show ¬ (1 : Int32) = 0 by decide), p_place]
          rcases o_can h.1.1 hs hsx hsy hsu c with ⟨d1, d2⟩ | ⟨d1, d2, hok⟩
          · rw [d1, d2, Option.bind_some, Option.bind_some, if_pos rfl, if_pos rfl, m3]
            exact Or.inr (Or.inr (Or.inl ⟨rfl, rfl⟩))
          · obtain ⟨O, S, H, U', V', e1, e2, e3⟩ := o_save h hh
            have h512 := cube_le (n := s) (by omega)
            have hss : s * s ≤ 64 := Nat.mul_le_mul hs8 hs8
            have hs0 : 0 < s * s := Nat.mul_pos (by omega) (by omega)
            unfold f_X8_add_J117
            rw [d1, d2, Option.bind_some, Option.bind_some, if_neg (show ¬ (1 : Int32) = 0 by decide), if_neg (show ¬ (1 : Int32) = 0 by decide), e1, Option.bind_some, p_addToBox hn hs hsx hsy hsu, Option.bind_some, if_pos (by decide), e2, Option.bind_some]
            refine Or.inr (Or.inr (Or.inr ⟨sCnt (fun t => v (adP n x y u s t) + c) (s * s * s), adV n x y u s c v (s * s * s), O, S, H, adZ x y u s c z (s * s * s), U', V', rfl, ?_, ad_CR h hs hsx hsy hsu hok _ (Nat.le_refl _), e3⟩))
            refine dz_it_count (fun t => (sCnt (fun t => v (adP n x y u s t) + c) t, nI t, adZ x y u s c z t)) (s * s * s) rfl (by omega) (fun t ht => ?_) ?_
            · show f_X8_add_L139 (nI x) (nI y) (nI u) (nI s) c (U', V') 0 (sCnt (fun t => v (adP n x y u s t) + c) t) (nI t) (adZ x y u s c z t) = some (Sum.inl (sCnt (fun t => v (adP n x y u s t) + c) (t + 1), nI (t + 1), adZ x y u s c z (t + 1)))
              have q1 : t / (s * s) < s := (Nat.div_lt_iff_lt_mul hs0).mpr (by rw [← Nat.mul_assoc]; exact ht)
              have q2 : t % s < s := Nat.mod_lt _ (by omega)
              have q3 : t / s % s < s := Nat.mod_lt _ (by omega)
              have hd : t / s ≤ t := Nat.div_le_self _ _
              have hc := ad_CR h hs hsx hsy hsu hok t (by omega)
              have f1 : adZ x y u s c z t (adQ x y u s t) = v (adP n x y u s t) := (hc.1.1.2.2.2 _ _ _ (show x + t % s < n by omega) (show y + t / s % s < n by omega) (show u + t / (s * s) < n by omega)).trans (adV_far hs hsx hsy t (Nat.le_refl t))
              rw [adZ_s, f1, sCnt_step]
              unfold adQ at f1 ⊢
              unfold f_X8_add_L139 f_X8_add_J215
              rw [pk_mul, pk_mul, if_neg (nI_ge ht (by omega)), dz_nz_nI _ (by omega) (by omega), dz_nz_nI _ (by omega) (by omega), dz_nz_nI _ (by omega) (by omega), dz_nz_nI _ hs0 (by omega), pk_rem (a := t) (d := s) (by omega) (by omega) (by omega), pk_div (a := t) (d := s) (by omega) (by omega) (by omega), pk_rem (a := t / s) (d := s) (by omega) (by omega) (by omega), pk_div (a := t) (d := s * s) (by omega) hs0 (by omega), nI_add, nI_add, nI_add, p8_place, i3, dz_in_nI _ (by omega) (by decide), dz_in_nI _ (by omega) (by decide), dz_in_nI _ (by omega) (by decide), nI_clamp (by omega), pk_us, f1, nI_1]
              by_cases e : v (adP n x y u s t) + c = 0
              · rw [if_pos e, if_pos e, Int32.add_zero]
              · rw [if_neg e, if_neg e]
            · show f_X8_add_L139 (nI x) (nI y) (nI u) (nI s) c (U', V') 0 _ (nI (s * s * s)) _ = _
              unfold f_X8_add_L139
              rw [pk_mul, pk_mul, if_pos (nI_le (Nat.le_refl _) (by omega))]
