/-! pure: a slice wiped, the cube turned -/
theorem ixN_inj {n a i f l f' l' : Nat} (ha : a < 3) (hi : i < n) (hf : f < n) (hl : l < n) (hf' : f' < n) (hl' : l' < n) : ixN n a i f l = ixN n a i f' l' → f = f' ∧ l = l' := by
  refine a3 (P := fun a => ixN n a i f l = ixN n a i f' l' → f = f' ∧ l = l') ?_ ?_ ?_ ha
  · rw [ix0, ix0]
    intro h
    exact (idN_inj hi hf hi hf' h).2
  · rw [ix1, ix1]
    intro h
    have := idN_inj hf hi hf' hi h
    exact ⟨this.1, this.2.2⟩
  · rw [ix2, ix2]
    intro h
    have := idN_inj hf hl hf' hl' h
    exact ⟨this.1, this.2.1⟩
theorem p_next {a : Nat} (n i f l : Nat) : nI (ixN n a i f l) + f_X5_step (f_X7_formerOf (nI a)) (nI n) = nI (ixN n a i (f + 1) l) ∨ ¬ a < 3 := by
  by_cases ha : a < 3
  · refine Or.inl ?_
    rw [p_former ha, p_step n (foN_lt a), nI_add]
    refine congrArg nI ?_
    unfold ixN
    rw [Nat.add_mul]
    omega
  · exact Or.inr ha
/-- a slice wiped up to a place of it -/
def wpV (n a i : Nat) (v : Nat → Int32) (t : Nat) : Nat → Int32 := fN (fun u t => upd u (ixN n a i (t % n) (t / n)) 0) v t
def wpZ (n a i : Nat) (z : Nat → Int32) (t : Nat) : Nat → Int32 := fN (fun u t => upd u (3 + pbN a i (t % n) (t / n)) 0) z t
theorem wpV_s (n a i : Nat) (v : Nat → Int32) (t : Nat) : wpV n a i v (t + 1) = upd (wpV n a i v t) (ixN n a i (t % n) (t / n)) 0 := rfl
theorem wpZ_s (n a i : Nat) (z : Nat → Int32) (t : Nat) : wpZ n a i z (t + 1) = upd (wpZ n a i z t) (3 + pbN a i (t % n) (t / n)) 0 := rfl
theorem wp_CR {z v w : Nat → Int32} {n b i a m : Nat} (h : CR z v w n a m) (hb : b < 3) (hi : i < n) : ∀ t, t ≤ n * n → CR (wpZ n b i z t) (wpV n b i v t) w n a m := by
  intro t
  induction t with
  | zero => intro _; exact h
  | succ t ih =>
    intro ht
    obtain ⟨hf, hl⟩ := sl_dm (n := n) (o := t) (by omega)
    obtain ⟨x, y, u, hx, hy, hu, e1, e2⟩ := pt_of (a := b) hb hi hf hl
    rw [wpV_s, wpZ_s, e1, e2]
    exact (ih (by omega)).put hx hy hu (by decide) (by decide)
theorem wpV_far {v : Nat → Int32} {n b i f l : Nat} (hb : b < 3) (hi : i < n) (hf : f < n) (hl : l < n) : ∀ t, t ≤ l * n + f → wpV n b i v t (ixN n b i f l) = v (ixN n b i f l) := by
  intro t
  induction t with
  | zero => intro _; rfl
  | succ t ih =>
    intro ht
    have h2 := fl_lt hf hl
    obtain ⟨hf', hl'⟩ := sl_dm (n := n) (o := t) (by omega)
    rw [wpV_s, pk_un, ih (by omega)]
    intro q
    obtain ⟨q1, q2⟩ := ixN_inj hb hi hf hl hf' hl' q
    have h3 : n * (t / n) + t % n = t := Nat.div_add_mod _ _
    rw [← q1, ← q2, Nat.mul_comm] at h3
    omega
theorem p_clearSlice {v : Nat → Int32} {n a i : Nat} (hn : n ≤ 8) (ha : a < 3) (hi : i < n) : f_X5_clearSlice (nI a) (nI i) (nI n) v = some (vF v n a i, wpV n a i v (n * n)) := by
  unfold vF
  refine dz_it_count (fun l => (sCnt (sl v n a i) (l * n), nI l, wpV n a i v (l * n))) n ?_ (by omega) (fun l hl => ?_) ?_
  · rw [Nat.zero_mul]; rfl
  · show f_X5_clearSlice_L15 (nI a) (nI i) (nI n) (sCnt (sl v n a i) (l * n)) (nI l) (wpV n a i v (l * n)) = _
    unfold f_X5_clearSlice_L15
    rw [if_neg (nI_ge hl (by omega)), p_rowStart n i l ha]
    refine dz_it_count (fun f => (sCnt (sl v n a i) (l * n + f), nI (ixN n a i f l), nI f, wpV n a i v (l * n + f))) n rfl (by omega) (fun f hf => ?_) ?_
    · show f_X5_clearSlice_L37 (nI a) (nI n) (nI l) (sCnt (sl v n a i) (l * n + f)) (nI (ixN n a i f l)) (nI f) (wpV n a i v (l * n + f)) = _
      have hx := ixN_lt ha hi hf hl hn
      have hs := (p_next (a := a) n i f l).resolve_right (fun q => q ha)
      have hm : (l * n + f) % n = f ∧ (l * n + f) / n = l := by
        refine ⟨?_, ?_⟩
        · rw [Nat.mul_comm, Nat.mul_add_mod, Nat.mod_eq_of_lt hf]
        · rw [Nat.mul_comm, Nat.mul_add_div (by omega), Nat.div_eq_of_lt hf, Nat.add_zero]
      have hw : wpV n a i v (l * n + (f + 1)) = upd (wpV n a i v (l * n + f)) (ixN n a i f l) 0 := by
        rw [← Nat.add_assoc, wpV_s, hm.1, hm.2]
      unfold f_X5_clearSlice_L37 f_X5_clearSlice_J58
      rw [if_neg (nI_ge hf (by omega)), p_num _ hx, wpV_far ha hi hf hl _ (Nat.le_refl _), hs, p_write _ _ hx, ← hw, nI_1, ← sl_at (v := v) hf]
      show _ = some (Sum.inl (sCnt (sl v n a i) (l * n + f + 1), nI (ixN n a i (f + 1) l), nI (f + 1), wpV n a i v (l * n + (f + 1))))
      rw [sCnt_step]
      by_cases e : sl v n a i (l * n + f) = 0
      · rw [if_pos e, if_pos e]
      · rw [if_neg e, if_neg e]
    · show f_X5_clearSlice_L37 (nI a) (nI n) (nI l) _ _ (nI n) _ = _
      unfold f_X5_clearSlice_L37
      rw [if_pos (nI_le (Nat.le_refl _) (by omega)), nI_1, show (l + 1) * n = l * n + n from Nat.succ_mul l n]
  · show f_X5_clearSlice_L15 (nI a) (nI i) (nI n) _ (nI n) _ = _
    unfold f_X5_clearSlice_L15
    rw [if_pos (nI_le (Nat.le_refl _) (by omega))]
theorem o_wipe {z v w U : Nat → Int32} {n a m : Nat} {oO oS V : Int32} {hv : Nat → SV} (h : CR z v w n a m) (hh : HR oO oS hv U V) (p q : Int32) : (f_X7_wipe p q (nI n) (nI a) (nI m) v w oO oS hv = some (.inl 1) ∧ f_X8_wipe p q z U V = some (0, 1, z, U, V)) ∨ (f_X7_wipe p q (nI n) (nI a) (nI m) v w oO oS hv = some (.inl 2) ∧ f_X8_wipe p q z U V = some (0, 2, z, U, V)) ∨ ∃ s v' O S H z' U' V', f_X7_wipe p q (nI n) (nI a) (nI m) v w oO oS hv = some (.inr (s, v', O, S, H)) ∧ f_X8_wipe p q z U V = some (s, 0, z', U', V') ∧ CR z' v' w n a m ∧ HR O S H U' V' := by
  have h0 : z 0 = nI n := h.1.1.2.2.1
  have hn := h.1.1.2.1
  have hn2 := h.1.1.1
  have hnn : n * n ≤ 64 := Nat.mul_le_mul hn hn
  unfold f_X7_wipe f_X8_wipe f_X8_wipe_J25
  rw [g_coord h0, g_axis]
  by_cases h1 : f_X5_hasCoordinate q (nI n) = 0
  · rw [if_pos h1, if_pos h1, if_neg (by decide)]
    exact Or.inl ⟨rfl, rfl⟩
  · rw [if_neg h1, if_neg h1]
    by_cases h2 : f_X7_isAxis p = 0
    · rw [if_pos h2, if_pos h2, if_neg (by decide)]
      exact Or.inr (Or.inl ⟨rfl, rfl⟩)
    · obtain ⟨i, hi, rfl⟩ := g_coord_of (by omega) h1
      obtain ⟨b, hb, rfl⟩ := g_axis_of h2
      obtain ⟨O, S, H, U', V', e1, e2, e3⟩ := o_save h hh
      rw [if_neg h2, if_neg h2, if_pos (by decide), e1, e2, Option.bind_some, Option.bind_some, p_clearSlice hn hb hi, p8_filled h.1.1 hb hi, Option.bind_some, Option.bind_some]
      refine Or.inr (Or.inr ⟨vF v n b i, wpV n b i v (n * n), O, S, H, wpZ n b i z (n * n), U', V', rfl, ?_, wp_CR h hb hi _ (Nat.le_refl _), e3⟩)
      refine dz_it_count (fun t => (nI t, wpZ n b i z t)) (n * n) rfl (by omega) (fun t ht => ?_) ?_
      · show f_X8_wipe_L51 (nI b) (nI i) (U', V') _ 0 (nI t) (wpZ n b i z t) = _
        have hc := (wp_CR h hb hi t (by omega)).1.1
        obtain ⟨hf, hl⟩ := sl_dm ht
        obtain ⟨x, y, u, hx, hy, hu, q1, q2⟩ := pt_of (a := b) hb hi hf hl
        unfold f_X8_wipe_L51
        rw [p8_offsets hc, if_neg (nI_ge ht (by omega)), hc.2.2.1, dz_nz_nI _ (by omega) (by omega), dz_nz_nI _ (by omega) (by omega), pk_rem (by omega) (by omega) (by omega), pk_div (by omega) (by omega) (by omega), p8_placeBy _ _ _ hb, i3, dz_in_nI _ (by rw [q2]; omega) (by decide), nI_clamp (by rw [q2]; omega), nI_1]
        rfl
      · show f_X8_wipe_L51 (nI b) (nI i) (U', V') _ 0 (nI (n * n)) (wpZ n b i z (n * n)) = _
        have hc := (wp_CR h hb hi (n * n) (Nat.le_refl _)).1.1
        unfold f_X8_wipe_L51
        rw [p8_offsets hc, if_pos (nI_le (Nat.le_refl _) (by omega))]
/-! turned -/
def tnV (n : Nat) (v u : Nat → Int32) (t : Nat) : Nat → Int32 := fN (fun u t => upd u (idN n (t / (n * n)) (t % n) (t / n % n)) (v (idN n (t % n) (t / n % n) (t / (n * n))))) u t
def tnZ (n : Nat) (v z : Nat → Int32) (t : Nat) : Nat → Int32 := fN (fun u t => upd u (3 + (t / (n * n) + 8 * (t % n) + 64 * (t / n % n))) (v (idN n (t % n) (t / n % n) (t / (n * n))))) z t
theorem tn_lt {n t : Nat} (hn2 : 2 ≤ n) (ht : t < n * n * n) : t / (n * n) < n ∧ t % n < n ∧ t / n % n < n := by
  have h0 : 0 < n * n := Nat.mul_pos (by omega) (by omega)
  refine ⟨(Nat.div_lt_iff_lt_mul h0).mpr ?_, Nat.mod_lt _ (by omega), Nat.mod_lt _ (by omega)⟩
  rw [← Nat.mul_assoc]
  exact ht
theorem tn_CR {z v w : Nat → Int32} {n a m : Nat} (h : CR z v w n a m) : ∀ t, t ≤ n * n * n → CR (tnZ n v z t) (tnV n v v t) w n a m := by
  intro t
  induction t with
  | zero => intro _; exact h
  | succ t ih =>
    intro ht
    obtain ⟨h1, h2, h3⟩ := tn_lt (n := n) (t := t) h.1.1.1 (by omega)
    exact (ih (by omega)).put h1 h2 h3 (h.2.1 _ _ _ h2 h3 h1).1 (h.2.1 _ _ _ h2 h3 h1).2
theorem tn_parts {n A B C : Nat} (hB : B < n) (hC : C < n) : (A * (n * n) + (B * n + C)) / (n * n) = A ∧ (A * (n * n) + (B * n + C)) % n = C ∧ (A * (n * n) + (B * n + C)) / n % n = B := by
  obtain ⟨h1, h2, h3⟩ := t_parts (a := A) hB hC
  refine ⟨h1, h3, ?_⟩
  rw [show A * (n * n) + (B * n + C) = n * (A * n + B) + C by grind, Nat.mul_add_div (by omega), Nat.div_eq_of_lt hC, Nat.add_zero, Nat.mul_comm A, Nat.mul_add_mod, Nat.mod_eq_of_lt hB]
theorem tnV_at {n A B C : Nat} (v u : Nat → Int32) (hB : B < n) (hC : C < n) : tnV n v u (A * (n * n) + (B * n + C) + 1) = upd (tnV n v u (A * (n * n) + (B * n + C))) (idN n A C B) (v (idN n C B A)) := by
  obtain ⟨h1, h2, h3⟩ := tn_parts (A := A) hB hC
  show upd _ (idN n ((A * (n * n) + (B * n + C)) / (n * n)) ((A * (n * n) + (B * n + C)) % n) ((A * (n * n) + (B * n + C)) / n % n)) (v (idN n ((A * (n * n) + (B * n + C)) % n) ((A * (n * n) + (B * n + C)) / n % n) ((A * (n * n) + (B * n + C)) / (n * n)))) = _
  rw [h1, h2, h3]
  rfl
theorem p8_aside (z P : Nat → Int32) : f_X8_putAside z P = some (cpN P (fun k => z (3 + k)) 0 512) := by
  refine dz_it_count (fun t => (nI t, cpN P (fun k => z (3 + k)) 0 t)) 512 (by rw [cpN_0]; rfl) (by omega) (fun t ht => ?_) ?_
  · show f_X8_putAside_L2 z (nI t) (cpN P (fun k => z (3 + k)) 0 t) = _
    unfold f_X8_putAside_L2
    rw [if_neg (show ¬ (512 : Int32) ≤ nI t from nI_ge (b := 512) ht (by decide)), i3, dz_in_nI _ (by omega) (by decide), dz_in_nI _ (by omega) (by decide), nI_clamp (by omega), nI_clamp (by omega), cpN_s0 P (fun k => z (3 + k)) t _ rfl, nI_1]
  · show f_X8_putAside_L2 z (nI 512) _ = _
    unfold f_X8_putAside_L2
    rw [if_pos (by decide)]
theorem p_turn {z v w : Nat → Int32} {n a m : Nat} (h : CR z v w n a m) (r8 : Int32 × Int32 × (Nat → SV)) (lD : Int32) (lS lF lG lR nB : Nat → Int32) : dz_it (fun s : Int32 × (Nat → Int32) => f_X7_turn_L27 (nI n) (nI a) (nI m) v lD lS lF lG lR nB r8 s.1 s.2) (0, v) = some (rBy (tnV n v v (n * n * n)) n a (nI m), tnV n v v (n * n * n), r8.1, r8.2.1, r8.2.2, nI n, uTo lS (vS (tnV n v v (n * n * n)) n a) n, uTo lF (vF (tnV n v v (n * n * n)) n a) n, uTo lG (vG (tnV n v v (n * n * n)) n a) n, uTo lR (vR (tnV n v v (n * n * n)) n a) n, f_X7_copyRow 512 v 512 nB) := by
  have hn := h.1.1.2.1
  have hn2 := h.1.1.1
  rw [show n * n * n = n * (n * n) from Nat.mul_assoc n n n]
  refine dz_it_count (fun A => (nI A, tnV n v v (A * (n * n)))) n ?_ (by omega) (fun A hA => ?_) ?_
  · rw [Nat.zero_mul]; rfl
  · show f_X7_turn_L27 (nI n) (nI a) (nI m) v lD lS lF lG lR nB r8 (nI A) (tnV n v v (A * (n * n))) = _
    unfold f_X7_turn_L27
    rw [if_neg (nI_ge hA (by omega))]
    refine dz_it_count (fun B => (nI B, tnV n v v (A * (n * n) + B * n))) n ?_ (by omega) (fun B hB => ?_) ?_
    · rw [Nat.zero_mul]; rfl
    · show f_X7_turn_L40 (nI n) v nB (nI A) (nI B) (tnV n v v (A * (n * n) + B * n)) = _
      unfold f_X7_turn_L40
      rw [if_neg (nI_ge hB (by omega))]
      refine dz_it_count (fun C => (nI C, tnV n v v (A * (n * n) + (B * n + C)))) n rfl (by omega) (fun C hC => ?_) ?_
      · show f_X7_turn_L53 (nI n) v nB (nI A) (nI B) (nI C) (tnV n v v (A * (n * n) + (B * n + C))) = _
        unfold f_X7_turn_L53
        rw [if_neg (nI_ge hC (by omega)), p_place, p_place, p_cell _ (idN_512 hn hC hB hA) (by decide), p_copyRow _ _ (idN_512 hn hC hB hA), p_write _ _ (idN_512 hn hA hC hB), ← tnV_at v v hB hC, nI_1]
        rfl
      · show f_X7_turn_L53 (nI n) v nB (nI A) (nI B) (nI n) _ = _
        unfold f_X7_turn_L53
        rw [if_pos (nI_le (Nat.le_refl _) (by omega)), nI_1, show (B + 1) * n = B * n + n from Nat.succ_mul B n]
    · show f_X7_turn_L40 (nI n) v nB (nI A) (nI n) _ = _
      unfold f_X7_turn_L40
      rw [if_pos (nI_le (Nat.le_refl _) (by omega)), nI_1, show (A + 1) * (n * n) = A * (n * n) + n * n from Nat.succ_mul A _]
  · show f_X7_turn_L27 (nI n) (nI a) (nI m) v lD lS lF lG lR nB r8 (nI n) _ = _
    unfold f_X7_turn_L27
    rw [if_pos (nI_le (Nat.le_refl _) (by omega)), p_roomBy hn2 hn h.1.2.2.1, Option.bind_some]
theorem o_turn {z v w U : Nat → Int32} {n a m : Nat} {oO oS V : Int32} {hv : Nat → SV} (h : CR z v w n a m) (hh : HR oO oS hv U V) (P : Nat → Int32) (lD : Int32) (lS lF lG lR nB : Nat → Int32) : ∃ s v' O S H t z' U' V' P', f_X7_turn (nI n) (nI a) (nI m) v w oO oS hv lD lS lF lG lR nB = some (s, v', O, S, H, t) ∧ f_X8_turn z U V P = some (s, 0, z', U', V', P') ∧ CR z' v' w n a m ∧ HR O S H U' V' := by
  obtain ⟨O, S, H, U', V', e1, e2, e3⟩ := o_save h hh
  have hn := h.1.1.2.1
  have hn2 := h.1.1.1
  have hnn : n * n ≤ 64 := Nat.mul_le_mul hn hn
  have h0 : 0 < n * n := Nat.mul_pos (by omega) (by omega)
  have h512 := cube_le hn
  have hz0 : z 0 = nI n := h.1.1.2.2.1
  have hc := tn_CR h (n * n * n) (Nat.le_refl _)
  refine ⟨rBy (tnV n v v (n * n * n)) n a (nI m), tnV n v v (n * n * n), O, S, H, (nI n, uTo lS (vS (tnV n v v (n * n * n)) n a) n, uTo lF (vF (tnV n v v (n * n * n)) n a) n, uTo lG (vG (tnV n v v (n * n * n)) n a) n, uTo lR (vR (tnV n v v (n * n * n)) n a) n, f_X7_copyRow 512 v 512 nB), tnZ n v z (n * n * n), U', V', cpN P (fun k => z (3 + k)) 0 512, ?_, ?_, hc, e3⟩
  · unfold f_X7_turn
    rw [e1, Option.bind_some]
    exact p_turn h (O, S, H) lD lS lF lG lR nB
  · unfold f_X8_turn
    rw [e2, Option.bind_some, p8_aside, Option.bind_some]
    refine dz_it_count (fun t => (nI t, tnZ n v z t)) (n * n * n) rfl (by omega) (fun t ht => ?_) ?_
    · show f_X8_turn_L22 z (cpN P (fun k => z (3 + k)) 0 512) (U', V') (nI t) (tnZ n v z t) = _
      obtain ⟨q1, q2, q3⟩ := tn_lt hn2 ht
      have hd : t / n ≤ t := Nat.div_le_self _ _
      unfold f_X8_turn_L22
      rw [hz0, pk_mul, pk_mul, if_neg (nI_ge ht (by omega)), dz_nz_nI _ (by omega) (by omega), dz_nz_nI _ (by omega) (by omega), dz_nz_nI _ (by omega) (by omega), dz_nz_nI _ h0 (by omega), pk_rem (a := t) (d := n) (by omega) (by omega) (by omega), pk_div (a := t) (d := n) (by omega) (by omega) (by omega), pk_rem (a := t / n) (d := n) (by omega) (by omega) (by omega), pk_div (a := t) (d := n * n) (by omega) h0 (by omega), p8_place, p8_place, i3, dz_in_nI _ (by omega) (by decide), dz_in_nI _ (by omega) (by decide), nI_clamp (by omega), nI_clamp (by omega), cpN_in (by omega) (by omega), Nat.sub_zero, h.1.1.2.2.2 _ _ _ q2 q3 q1, nI_1]
      rfl
    · show f_X8_turn_L22 z _ (U', V') (nI (n * n * n)) (tnZ n v z (n * n * n)) = _
      unfold f_X8_turn_L22
      rw [hz0, pk_mul, pk_mul, if_pos (nI_le (Nat.le_refl _) (by omega)), p8_room hc.1.1 hc.1.2.1 hc.1.2.2.1, hc.1.2.2.2.1, Option.bind_some]
