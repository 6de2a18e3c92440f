/-! pure: the states that are saved, both sides -/
/-- the model's cube and the class's: related, all numbers within their range -/
def CR (z v w : Nat → Int32) (n a m : Nat) : Prop := MR z v w n a m ∧ Bd v n ∧ Bd w n
theorem CR.congr {z v w z' v' w' : Nat → Int32} {n a m : Nat} (h : CR z v w n a m) (hz : ∀ k, k < 1027 → z' k = z k) (hv : ∀ k, k < 512 → v' k = v k) (hw : ∀ k, k < 512 → w' k = w k) : CR z' v' w' n a m := by
  obtain ⟨⟨⟨h1, h2, h3, h4⟩, h5, h6, h7, h8, h9, h10, h11⟩, h12, h13⟩ := h
  have hi : ∀ x y u, x < n → y < n → u < n → idN n x y u < 512 := fun x y u hx hy hu => idN_512 h2 hx hy hu
  refine ⟨⟨⟨h1, h2, ?_, fun x y u hx hy hu => ?_⟩, ?_, h6, ?_, h8, h9, fun x y u hx hy hu => ?_, fun k hk hk2 => ?_⟩, fun x y u hx hy hu => ?_, fun x y u hx hy hu => ?_⟩
  · rw [hz 0 (by omega)]; exact h3
  · rw [hz (3 + (x + 8 * y + 64 * u)) (by omega), hv _ (hi x y u hx hy hu)]; exact h4 x y u hx hy hu
  · rw [hz 1 (by omega)]; exact h5
  · rw [hz 2 (by omega)]; exact h7
  · rw [hz (515 + (x + 8 * y + 64 * u)) (by omega), hw _ (hi x y u hx hy hu)]; exact h10 x y u hx hy hu
  · rw [hz (3 + k) (by omega), hz (515 + k) (by omega)]; exact h11 k hk hk2
  · rw [hv _ (hi x y u hx hy hu)]; exact h12 x y u hx hy hu
  · rw [hw _ (hi x y u hx hy hu)]; exact h13 x y u hx hy hu
def SR (z : Nat → Int32) (x : SV) : Prop := ∃ n a m, x.1 = nI n ∧ x.2.1 = nI a ∧ x.2.2.1 = nI m ∧ CR z x.2.2.2.1 x.2.2.2.2 n a m
theorem SR.congr {z z' : Nat → Int32} {x : SV} (h : SR z x) (hz : ∀ k, k < 1027 → z' k = z k) : SR z' x := by
  obtain ⟨n, a, m, h1, h2, h3, h4⟩ := h
  exact ⟨n, a, m, h1, h2, h3, h4.congr hz (fun _ _ => rfl) (fun _ _ => rfl)⟩
/-- the states kept, both sides -/
def HR (oO oS : Int32) (hv : Nat → SV) (U : Nat → Int32) (V : Int32) : Prop := ∃ o s, o < 6 ∧ s ≤ 6 ∧ oO = nI o ∧ oS = nI s ∧ V = nI s ∧ ∀ i, i < s → SR (fun k => U (i * 1027 + k)) (hv ((o + i) % 6))
/-- a part copied -/
def cpN (f g : Nat → Int32) (d t : Nat) : Nat → Int32 := fun k => if d ≤ k ∧ k < d + t then g (k - d) else f k
theorem cpN_0 (f g : Nat → Int32) (d : Nat) : cpN f g d 0 = f := by
  funext k
  unfold cpN
  rw [if_neg (by omega)]
theorem cpN_in {f g : Nat → Int32} {d t k : Nat} (h : d ≤ k) (h2 : k < d + t) : cpN f g d t k = g (k - d) := if_pos ⟨h, h2⟩
theorem cpN_out {f g : Nat → Int32} {d t k : Nat} (h : k < d ∨ d + t ≤ k) : cpN f g d t k = f k := if_neg (fun q => by omega)
theorem cpN_s (f g : Nat → Int32) (d t : Nat) : upd (cpN f g d t) (d + t) (g t) = cpN f g d (t + 1) := by
  funext k
  by_cases h : k = d + t
  · rw [h, pk_us, cpN_in (by omega) (by omega), Nat.add_sub_cancel_left]
  · rw [pk_un h]
    by_cases h2 : d ≤ k ∧ k < d + t
    · rw [cpN_in h2.1 h2.2, cpN_in h2.1 (by omega)]
    · rw [cpN_out (by omega), cpN_out (by omega)]
theorem cpN_s0 (f g : Nat → Int32) (t : Nat) (x : Int32) (hx : x = g t) : upd (cpN f g 0 t) t x = cpN f g 0 (t + 1) := by
  have := cpN_s f g 0 t
  rw [Nat.zero_add] at this
  rw [hx, this]
theorem rem6_nI {k : Nat} (hk : k < 2 ^ 31) : f_rem6 (nI k) = nI (k % 6) := by
  unfold f_rem6
  rw [show (6 : Int32) = nI 6 from rfl, pk_rem hk (by omega) (by omega)]
theorem p_copyRow (f g : Nat → Int32) {k : Nat} (hk : k < 512) : f_X7_copyRow 512 f 512 g k = f k := by
  unfold f_X7_copyRow
  rw [if_neg (by decide), pk_cpy_in (by omega) (by omega), Nat.sub_zero, Nat.zero_add]
theorem p8_saveJ {z U : Nat → Int32} {s : Nat} (hs : s < 6) : f_X8_save_J50 z U (nI s) = some (cpN U z (s * 1027) 1027, nI (s + 1)) := by
  refine dz_it_count (fun t => (nI t, cpN U z (s * 1027) t)) 1027 (by rw [cpN_0]; rfl) (by omega) (fun t ht => ?_) ?_
  · show f_X8_save_L52 z (nI s) (nI t) (cpN U z (s * 1027) t) = _
    unfold f_X8_save_L52
    rw [if_neg (show ¬ (1027 : Int32) ≤ nI t from nI_ge (b := 1027) ht (by decide)), show (1027 : Int32) = nI 1027 from rfl, pk_mul, nI_add, dz_in_nI _ ht (by decide), dz_in_nI _ (by omega) (by decide), nI_clamp (by omega), nI_clamp (by omega), cpN_s, nI_1]
  · show f_X8_save_L52 z (nI s) (nI 1027) _ = _
    unfold f_X8_save_L52
    rw [if_pos (by decide), nI_1]
theorem o_saveJ {z v w U : Nat → Int32} {n a m o s : Nat} {hv : Nat → SV} (h : CR z v w n a m) (ho : o < 6) (hs : s < 6) (hi : ∀ i, i < s → SR (fun k => U (i * 1027 + k)) (hv ((o + i) % 6))) : ∃ H U', f_X2_save_J32 (nI n) (nI a) (nI m) v w (nI o) (nI s) hv = some (nI o, nI (s + 1), H) ∧ f_X8_save_J50 z U (nI s) = some (U', nI (s + 1)) ∧ HR (nI o) (nI (s + 1)) H U' (nI (s + 1)) := by
  refine ⟨va_up hv ((o + s) % 6) (f_X5_copyFrom (hv ((o + s) % 6)).2.2.2.1 (hv ((o + s) % 6)).2.2.2.2 (nI n) (nI a) (nI m) v w), _, ?_, p8_saveJ hs, ?_⟩
  · unfold f_X2_save_J32
    rw [nI_add, rem6_nI (by omega), dz_in_nI _ (by omega) (by decide), nI_clamp (by omega), nI_1]
  · refine ⟨o, s + 1, ho, by omega, rfl, rfl, rfl, fun i hi2 => ?_⟩
    rcases (show i < s ∨ i = s by omega) with h1 | rfl
    · have e : ¬ (o + i) % 6 = (o + s) % 6 := by omega
      show SR _ (if (o + i) % 6 = (o + s) % 6 then _ else hv ((o + i) % 6))
      rw [if_neg e]
      exact (hi i h1).congr (fun k hk => cpN_out (by omega))
    · show SR _ (if (o + i) % 6 = (o + i) % 6 then f_X5_copyFrom (hv ((o + i) % 6)).2.2.2.1 (hv ((o + i) % 6)).2.2.2.2 (nI n) (nI a) (nI m) v w else _)
      rw [if_pos rfl]
      refine ⟨n, a, m, rfl, rfl, rfl, h.congr (fun k hk => ?_) (fun k hk => p_copyRow v _ hk) (fun k hk => p_copyRow w _ hk)⟩
      show cpN U z (i * 1027) 1027 (i * 1027 + k) = z k
      rw [cpN_in (by omega) (by omega), Nat.add_sub_cancel_left]
theorem p8_save6 (z U : Nat → Int32) {e : (Nat → Int32) × Int32} (he : f_X8_save_J50 z (cpN U (fun j => U (j + 1027)) 0 5135) (nI 5) = some e) : f_X8_save z U (nI 6) = some e := by
  unfold f_X8_save
  rw [if_pos (show nI 6 = 6 from rfl)]
  refine dz_it_count (fun t => (nI t, cpN U (fun j => U (j + 1027)) 0 t)) 5135 (by rw [cpN_0]; rfl) (by omega) (fun t ht => ?_) ?_
  · show f_X8_save_L11 z (nI 6) (nI t) (cpN U (fun j => U (j + 1027)) 0 t) = _
    unfold f_X8_save_L11
    rw [if_neg (show ¬ (5135 : Int32) ≤ nI t from nI_ge (b := 5135) ht (by decide)), show (1027 : Int32) = nI 1027 from rfl, nI_add, dz_in_nI _ (by omega) (by decide), dz_in_nI _ (by omega) (by decide), nI_clamp (by omega), nI_clamp (by omega), cpN_out (k := t + 1027) (by omega), cpN_s0 U (fun j => U (j + 1027)) t _ rfl, nI_1]
  · show f_X8_save_L11 z (nI 6) (nI 5135) (cpN U (fun j => U (j + 1027)) 0 5135) = _
    unfold f_X8_save_L11
    rw [if_pos (by decide), show nI 6 - 1 = nI 5 from rfl, he]
    rfl
theorem o_save {z v w U : Nat → Int32} {n a m : Nat} {oO oS V : Int32} {hv : Nat → SV} (h : CR z v w n a m) (hh : HR oO oS hv U V) : ∃ O S H U' V', f_X2_save (nI n) (nI a) (nI m) v w oO oS hv = some (O, S, H) ∧ f_X8_save z U V = some (U', V') ∧ HR O S H U' V' := by
  obtain ⟨o, s, ho, hs, rfl, rfl, rfl, hi⟩ := hh
  rcases (show s < 6 ∨ s = 6 by omega) with hs6 | rfl
  · obtain ⟨H, U', e1, e2, e3⟩ := o_saveJ (U := U) h ho hs6 hi
    refine ⟨nI o, nI (s + 1), H, U', nI (s + 1), ?_, ?_, e3⟩
    · unfold f_X2_save
      rw [if_neg (show ¬ nI s = 6 from fun q => by have := (nI_eq (b := 6) (by omega) (by decide)).mp q; omega), e1]
    · unfold f_X8_save
      rw [if_neg (show ¬ nI s = 6 from fun q => by have := (nI_eq (b := 6) (by omega) (by decide)).mp q; omega), e2]
  · obtain ⟨H, U', e1, e2, e3⟩ := o_saveJ (o := (o + 1) % 6) (s := 5) (U := cpN U (fun j => U (j + 1027)) 0 5135) (hv := hv) h (by omega) (by omega) (fun i hi5 => by
      have h1 := hi (i + 1) (by omega)
      rw [show (o + (i + 1)) % 6 = ((o + 1) % 6 + i) % 6 by omega] at h1
      refine h1.congr (fun k hk => ?_)
      show cpN U (fun j => U (j + 1027)) 0 5135 (i * 1027 + k) = U ((i + 1) * 1027 + k)
      rw [cpN_in (by omega) (by omega)]
      exact congrArg U (show i * 1027 + k - 0 + 1027 = (i + 1) * 1027 + k by omega))
    refine ⟨nI ((o + 1) % 6), nI 6, H, U', nI 6, ?_, p8_save6 z U e2, e3⟩
    unfold f_X2_save
    rw [if_pos (show nI 6 = 6 from rfl), nI_1, rem6_nI (by omega), show nI 6 - 1 = nI 5 from rfl, e1]
theorem o_undo {z v w U : Nat → Int32} {n a m : Nat} {oO oS V : Int32} {hv : Nat → SV} (hh : HR oO oS hv U V) : (f_X7_undo v w oO oS hv = some (.inl 3) ∧ f_X8_undo z U V = some (0, 1, z, V)) ∨ ∃ s n' a' m' v' w' z', f_X7_undo v w oO oS hv = some (.inr (s, nI n', nI a', nI m', v', w', s)) ∧ f_X8_undo z U V = some (s, 0, z', s) ∧ CR z' v' w' n' a' m' ∧ HR oO s hv U s := by
  obtain ⟨o, s, ho, hs, rfl, rfl, rfl, hi⟩ := hh
  rcases Nat.eq_zero_or_pos s with rfl | h0
  · refine Or.inl ⟨?_, ?_⟩
    · unfold f_X7_undo
      rw [if_pos (by rfl)]
    · unfold f_X8_undo f_X8_undo_J13
      rw [if_pos (by rfl), if_neg (by decide)]
  · obtain ⟨t, rfl⟩ : ∃ t, s = t + 1 := ⟨s - 1, by omega⟩
    obtain ⟨n', a', m', e1, e2, e3, e4⟩ := hi t (by omega)
    refine Or.inr ⟨nI t, n', a', m', f_X7_copyRow 512 (hv ((o + t) % 6)).2.2.2.1 512 v, f_X7_copyRow 512 (hv ((o + t) % 6)).2.2.2.2 512 w, cpN z (fun k => U (t * 1027 + k)) 0 1027, ?_, ?_, ?_, ?_⟩
    · have hd : f_X2_dropLatest_s (nI (t + 1)) = nI t := by
        unfold f_X2_dropLatest_s
        rw [if_neg (nI_nle (by omega) (by omega)), nI_pred]
      unfold f_X7_undo
      rw [if_neg (nI_ne0 (by omega) (by omega)), hd, nI_add, rem6_nI (by omega), dz_in_nI _ (by omega) (by decide), nI_clamp (by omega), ← e1, ← e2, ← e3]
      rfl
    · unfold f_X8_undo f_X8_undo_J13
      rw [if_neg (nI_ne0 (by omega) (by omega)), if_pos (by decide)]
      refine dz_it_count (fun x => (nI x, cpN z (fun k => U (t * 1027 + k)) 0 x)) 1027 (by rw [cpN_0]; rfl) (by omega) (fun x hx => ?_) ?_
      · show f_X8_undo_L37 U (nI (t + 1)) 0 (nI x) (cpN z (fun k => U (t * 1027 + k)) 0 x) = _
        unfold f_X8_undo_L37
        rw [if_neg (show ¬ (1027 : Int32) ≤ nI x from nI_ge (b := 1027) hx (by decide)), nI_pred, show (1027 : Int32) = nI 1027 from rfl, pk_mul, nI_add, dz_in_nI _ (by omega) (by decide), dz_in_nI _ hx (by decide), nI_clamp (by omega), nI_clamp (by omega), cpN_s0 z (fun k => U (t * 1027 + k)) x _ rfl, nI_1]
      · show f_X8_undo_L37 U (nI (t + 1)) 0 (nI 1027) _ = _
        unfold f_X8_undo_L37
        rw [if_pos (by decide), nI_pred]
    · refine e4.congr (fun k hk => ?_) (fun k hk => p_copyRow _ _ hk) (fun k hk => p_copyRow _ _ hk)
      rw [cpN_in (by omega) (by omega), Nat.sub_zero]
    · exact ⟨o, t, ho, by omega, rfl, rfl, rfl, fun i hi2 => hi i (by omega)⟩
