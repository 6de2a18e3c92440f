/-! pure: the digest, both sides -/
theorem dz_it_inv {σ ε : Type} {b : σ → Option (σ ⊕ ε)} {E : ε → Prop} (I : Nat → σ → Prop) (N : Nat) (hN : N < 10000000) (hs : ∀ i s, i < N → I i s → ∃ s', b s = some (.inl s') ∧ I (i + 1) s') (he : ∀ s, I N s → ∃ e, b s = some (.inr e) ∧ E e) {s : σ} (h0 : I 0 s) : ∃ e, dz_it b s = some e ∧ E e := by
  have : ∀ k i s, i + k = N → I i s → ∃ e, RS b k s e ∧ E e := by
    intro k
    induction k with
    | zero => intro i s hi h; exact he s (by rw [← hi]; exact h)
    | succ k ih =>
      intro i s hi h
      obtain ⟨s', g1, g2⟩ := hs i s (by omega) h
      obtain ⟨e, g3, g4⟩ := ih (i + 1) s' (by omega) g2
      exact ⟨e, ⟨s', g1, g3⟩, g4⟩
  obtain ⟨e, g1, g2⟩ := this N 0 s (by omega) h0
  exact ⟨e, g1.it hN, g2⟩
theorem ob_some {α β : Type} (a : α) (f : α → Option β) : Option.bind (some a) f = f a := rfl
theorem dz_ok_inr {α β : Type} (r : β) (k : β → Option α) : dz_ok (.inr r) k = k r := rfl
/-- some values mixed -/
def mx (g : Nat → Int64) (h : Int64) : Nat → Int64 := fN (fun s i => 31 * s + g i) h
theorem mx_0 (g : Nat → Int64) (h : Int64) : mx g h 0 = h := rfl
theorem mx_s (g : Nat → Int64) (h : Int64) (k : Nat) : 31 * mx g h k + g k = mx g h (k + 1) := rfl
theorem m7 (a b : Int64) : f_X7_mixed a b = 31 * a + b := rfl
theorem m8 (a b : Int64) : f_X8_mix b a = 31 * a + b := rfl
theorem lt_of_nI {a b : Nat} (h : b ≤ a) (ha : a < 2 ^ 31) : ¬ nI a < nI b := nI_nlt h ha
/-! the slices -/
def gDk (v : Nat → Int32) (n a i m : Nat) (k : Nat) : Int64 := Int32.toInt64 (vTold v n a i (nI k) (nI m))
def gDi (v : Nat → Int32) (n a m : Nat) (h : Int64) : Nat → Int64 := fN (fun h i => mx (gDk v n a i m) h 5) h
def gDa (v : Nat → Int32) (n m : Nat) (h : Int64) : Nat → Int64 := fN (fun h a => gDi v n a m h n) h
theorem w42 {n a i m : Nat} (hn : n ≤ 8) (hi : i < n) (v lS lF lG lR : Nat → Int32) (h : Int64) :
    dz_it (fun s : Int64 × Int32 => f_X7_withSlices_L42 (nI m) (nI n, uTo lS (vS v n a) n, uTo lF (vF v n a) n, uTo lG (vG v n a) n, uTo lR (vR v n a) n) (nI i) s.1 s.2) (h, 0) = some (.inl (mx (gDk v n a i m) h 5, nI (i + 1))) := by
  refine dz_it_count (fun k => (mx (gDk v n a i m) h k, nI k)) 5 rfl (by omega) (fun k hk => ?_) ?_
  · show f_X7_withSlices_L42 _ _ _ (mx (gDk v n a i m) h k) (nI k) = _
    unfold f_X7_withSlices_L42
    rw [if_neg (show ¬ (4 : Int32) < nI k from nI_nlt (a := 4) (by omega) (by omega)), m7, p_told hn hi (uTo_in hi) (uTo_in hi) (uTo_in hi) (uTo_in hi), nI_1]
    rfl
  · show f_X7_withSlices_L42 _ _ _ (mx (gDk v n a i m) h 5) (nI 5) = _
    unfold f_X7_withSlices_L42
    rw [if_pos (show (4 : Int32) < nI 5 by decide), nI_1]
theorem w27 {n a m : Nat} (hn : n ≤ 8) (v lS lF lG lR : Nat → Int32) (h : Int64) :
    dz_it (fun s : Int64 × Int32 => f_X7_withSlices_L27 (nI n) (nI m) (nI n, uTo lS (vS v n a) n, uTo lF (vF v n a) n, uTo lG (vG v n a) n, uTo lR (vR v n a) n) (nI a) s.1 s.2) (h, 0) = some (.inl (gDi v n a m h n, nI (a + 1), nI n, uTo lS (vS v n a) n, uTo lF (vF v n a) n, uTo lG (vG v n a) n, uTo lR (vR v n a) n)) := by
  refine dz_it_count (fun i => (gDi v n a m h i, nI i)) n rfl (by omega) (fun i hi => ?_) ?_
  · show f_X7_withSlices_L27 _ _ _ _ (gDi v n a m h i) (nI i) = _
    unfold f_X7_withSlices_L27
    rw [if_neg (nI_ge hi (by omega)), w42 hn hi]
    rfl
  · show f_X7_withSlices_L27 _ _ _ _ (gDi v n a m h n) (nI n) = _
    unfold f_X7_withSlices_L27
    rw [if_pos (nI_le (Nat.le_refl n) (by omega)), nI_1]
theorem p_withSlices {n m : Nat} (hn2 : 2 ≤ n) (hn : n ≤ 8) (v : Nat → Int32) (h : Int64) (lD : Int32) (lS lF lG lR : Nat → Int32) : ∃ t, f_X7_withSlices h (nI n) (nI m) v lD lS lF lG lR = some (gDa v n m h 3, t) := by
  have : ∃ e, f_X7_withSlices h (nI n) (nI m) v lD lS lF lG lR = some e ∧ e.1 = gDa v n m h 3 := by
    unfold f_X7_withSlices
    refine dz_it_inv (fun a s => s.1 = gDa v n m h a ∧ s.2.1 = nI a) 3 (by omega) (fun a s ha hI => ?_) (fun s hI => ?_) ⟨rfl, rfl⟩
    · obtain ⟨s1, s2, s3, s4, s5, s6, s7⟩ := s
      obtain ⟨rfl, rfl⟩ := hI
      show ∃ s', f_X7_withSlices_L5 (nI n) (nI m) v (gDa v n m h a) (nI a) s3 s4 s5 s6 s7 = _ ∧ _
      unfold f_X7_withSlices_L5
      rw [if_neg (show ¬ (3 : Int32) ≤ nI a from nI_ge (b := 3) ha (by omega)), p_look hn2 hn ha, ob_some, w27 hn]
      exact ⟨_, rfl, rfl, rfl⟩
    · obtain ⟨s1, s2, s3, s4, s5, s6, s7⟩ := s
      obtain ⟨rfl, rfl⟩ := hI
      show ∃ s', f_X7_withSlices_L5 (nI n) (nI m) v (gDa v n m h 3) (nI 3) s3 s4 s5 s6 s7 = _ ∧ _
      unfold f_X7_withSlices_L5
      rw [if_pos (show (3 : Int32) ≤ nI 3 by decide)]
      exact ⟨_, rfl, rfl⟩
  obtain ⟨⟨e1, e2⟩, h1, h2⟩ := this
  exact ⟨e2, by rw [h1]; exact congrArg (fun x => some (x, e2)) h2⟩
/-! the lines -/
def gE (v : Nat → Int32) (n : Nat) (h : Int64) : Int64 := mx (fun t => Int32.toInt64 (wN v n t)) h (3 * (n * n))
theorem gE_nest (v : Nat → Int32) (n : Nat) (h : Int64) : gE v n h = fN (fun h a => fN (fun h f => mx (fun l => Int32.toInt64 (sSum (fun i => v (ixN n a i f l)) n)) h n) h n) h 3 := by
  unfold gE mx
  rw [fN_mul]
  refine fN_congr (fun h a ha => ?_)
  rw [fN_mul]
  refine fN_congr (fun h f hf => ?_)
  refine fN_congr (fun h l hl => ?_)
  show 31 * h + Int32.toInt64 (wN v n (a * (n * n) + (f * n + l))) = 31 * h + Int32.toInt64 (sSum (fun i => v (ixN n a i f l)) n)
  rw [wN_at hf hl]
theorem p_withLines {n : Nat} (hn : n ≤ 8) (v : Nat → Int32) (h : Int64) : f_X7_withLines h (nI n) v = some (gE v n h) := by
  rw [gE_nest]
  refine dz_it_count (fun a => (fN (fun h a => fN (fun h f => mx (fun l => Int32.toInt64 (sSum (fun i => v (ixN n a i f l)) n)) h n) h n) h a, nI a)) 3 rfl (by omega) (fun a ha => ?_) ?_
  · obtain ⟨H, hH⟩ : ∃ H, H = fN (fun h a => fN (fun h f => mx (fun l => Int32.toInt64 (sSum (fun i => v (ixN n a i f l)) n)) h n) h n) h a := ⟨_, rfl⟩
    show f_X7_withLines_L5 (nI n) v (fN (fun h a => fN (fun h f => mx (fun l => Int32.toInt64 (sSum (fun i => v (ixN n a i f l)) n)) h n) h n) h a) (nI a) = some (.inl (fN (fun h f => mx (fun l => Int32.toInt64 (sSum (fun i => v (ixN n a i f l)) n)) h n) (fN (fun h a => fN (fun h f => mx (fun l => Int32.toInt64 (sSum (fun i => v (ixN n a i f l)) n)) h n) h n) h a) n, nI (a + 1)))
    rw [← hH]
    unfold f_X7_withLines_L5
    rw [if_neg (show ¬ (3 : Int32) ≤ nI a from nI_ge (b := 3) ha (by omega))]
    refine dz_it_count (fun f => (fN (fun h f => mx (fun l => Int32.toInt64 (sSum (fun i => v (ixN n a i f l)) n)) h n) H f, nI f)) n rfl (by omega) (fun f hf => ?_) ?_
    · obtain ⟨H', hH'⟩ : ∃ H', H' = fN (fun h f => mx (fun l => Int32.toInt64 (sSum (fun i => v (ixN n a i f l)) n)) h n) H f := ⟨_, rfl⟩
      show f_X7_withLines_L14 (nI n) v (nI a) (fN (fun h f => mx (fun l => Int32.toInt64 (sSum (fun i => v (ixN n a i f l)) n)) h n) H f) (nI f) = some (.inl (mx (fun l => Int32.toInt64 (sSum (fun i => v (ixN n a i f l)) n)) (fN (fun h f => mx (fun l => Int32.toInt64 (sSum (fun i => v (ixN n a i f l)) n)) h n) H f) n, nI (f + 1)))
      rw [← hH']
      unfold f_X7_withLines_L14
      rw [if_neg (nI_ge hf (by omega))]
      refine dz_it_count (fun l => (mx (fun l => Int32.toInt64 (sSum (fun i => v (ixN n a i f l)) n)) H' l, nI l)) n rfl (by omega) (fun l hl => ?_) ?_
      · show f_X7_withLines_L29 (nI n) v (nI f) (nI a) (mx (fun l => Int32.toInt64 (sSum (fun i => v (ixN n a i f l)) n)) H' l) (nI l) = _
        unfold f_X7_withLines_L29
        rw [if_neg (nI_ge hl (by omega)), p_lineSum hn ha hf hl, ob_some, m7, nI_1]
        rfl
      · show f_X7_withLines_L29 (nI n) v (nI f) (nI a) (mx (fun l => Int32.toInt64 (sSum (fun i => v (ixN n a i f l)) n)) H' n) (nI n) = _
        unfold f_X7_withLines_L29
        rw [if_pos (nI_le (Nat.le_refl n) (by omega)), nI_1]
    · show f_X7_withLines_L14 (nI n) v (nI a) (fN (fun h f => mx (fun l => Int32.toInt64 (sSum (fun i => v (ixN n a i f l)) n)) h n) H n) (nI n) = _
      unfold f_X7_withLines_L14
      rw [if_pos (nI_le (Nat.le_refl n) (by omega)), nI_1]
  · show f_X7_withLines_L5 (nI n) v _ (nI 3) = _
    unfold f_X7_withLines_L5
    rw [if_pos (show (3 : Int32) ≤ nI 3 by decide)]
/-! the model's cube -/
def gC (v : Nat → Int32) (n : Nat) (h : Int64) : Int64 := mx (fun k => Int32.toInt64 (v k)) h (n * n * n)
theorem c108 {z v : Nat → Int32} {n : Nat} (h : MC z v n) (H : Int64) : dz_it (fun s : Int32 × Int64 => f_X8_mixCube_L108 z s.1 s.2) (0, H) = some (.inr (.inr (gE v n H))) := by
  have hn := h.2.1
  have hn2 := h.1
  have hnn : n * n ≤ 64 := Nat.mul_le_mul hn hn
  have h0 : 0 < n * n := Nat.mul_pos (by omega) (by omega)
  have h3 : (3 : Int32) * f_X8_offsets z = nI (3 * (n * n)) := by rw [p8_offsets h, show (3 : Int32) = nI 3 from rfl, pk_mul]
  refine dz_it_count (fun t => (nI t, mx (fun t => Int32.toInt64 (wN v n t)) H t)) (3 * (n * n)) rfl (by omega) (fun t ht => ?_) ?_
  · obtain ⟨e1, e2, e3⟩ := t_in hn2 ht
    show f_X8_mixCube_L108 z (nI t) (mx (fun t => Int32.toInt64 (wN v n t)) H t) = _
    unfold f_X8_mixCube_L108
    rw [h3, if_neg (nI_ge ht (by omega)), p8_offsets h, h.2.2.1, dz_nz_nI _ h0 (by omega), dz_nz_nI _ h0 (by omega), dz_nz_nI _ (by omega) (by omega), dz_nz_nI _ (by omega) (by omega)]
    rw [pk_rem (a := t) (d := n * n) (by omega) h0 (by omega), pk_rem (a := t) (d := n) (by omega) (by omega) (by omega), pk_div (a := t) (d := n * n) (by omega) h0 (by omega), pk_div (a := t % (n * n)) (d := n) (Nat.lt_of_lt_of_le (Nat.mod_lt _ h0) (by omega)) (by omega) (by omega), p8_lineSum h e1 e2 e3, ob_some, nI_1, m8]
    rfl
  · show f_X8_mixCube_L108 z (nI (3 * (n * n))) _ = _
    unfold f_X8_mixCube_L108
    rw [h3, if_pos (nI_le (Nat.le_refl _) (by omega))]
    rfl
theorem c69 {z v : Nat → Int32} {n a i m : Nat} (h : MC z v n) (h2 : z 2 = nI m) (ha : a < 3) (hi : i < n) (H : Int64) : dz_it (fun s : Int32 × Int64 => f_X8_mixCube_L69 z (nI a) (nI i) s.1 s.2) (0, H) = some (.inl (nI (i + 1), mx (gDk v n a i m) H 5)) := by
  refine dz_it_count (fun k => (nI k, mx (gDk v n a i m) H k)) 5 rfl (by omega) (fun k hk => ?_) ?_
  · show f_X8_mixCube_L69 z _ _ (nI k) (mx (gDk v n a i m) H k) = _
    unfold f_X8_mixCube_L69
    rw [if_neg (show ¬ (4 : Int32) < nI k from nI_nlt (a := 4) (by omega) (by omega)), p8_toldSlice h ha hi, ob_some, nI_1, m8, h2]
    rfl
  · show f_X8_mixCube_L69 z _ _ (nI 5) (mx (gDk v n a i m) H 5) = _
    unfold f_X8_mixCube_L69
    rw [if_pos (show (4 : Int32) < nI 5 by decide), nI_1]
theorem c61 {z v : Nat → Int32} {n a m : Nat} (h : MC z v n) (h2 : z 2 = nI m) (ha : a < 3) (H : Int64) : dz_it (fun s : Int32 × Int64 => f_X8_mixCube_L61 z (nI a) s.1 s.2) (0, H) = some (.inl (nI (a + 1), gDi v n a m H n)) := by
  have hn := h.2.1
  refine dz_it_count (fun i => (nI i, gDi v n a m H i)) n rfl (by omega) (fun i hi => ?_) ?_
  · show f_X8_mixCube_L61 z _ (nI i) (gDi v n a m H i) = _
    unfold f_X8_mixCube_L61
    rw [h.2.2.1, if_neg (nI_ge hi (by omega)), c69 h h2 ha hi]
    rfl
  · show f_X8_mixCube_L61 z _ (nI n) (gDi v n a m H n) = _
    unfold f_X8_mixCube_L61
    rw [h.2.2.1, if_pos (nI_le (Nat.le_refl n) (by omega)), nI_1]
theorem c54 {z v : Nat → Int32} {n m : Nat} (h : MC z v n) (h2 : z 2 = nI m) (H : Int64) : dz_it (fun s : Int32 × Int64 => f_X8_mixCube_L54 z s.1 s.2) (0, H) = some (.inr (gE v n (gDa v n m H 3))) := by
  refine dz_it_count (fun a => (nI a, gDa v n m H a)) 3 rfl (by omega) (fun a ha => ?_) ?_
  · show f_X8_mixCube_L54 z (nI a) (gDa v n m H a) = _
    unfold f_X8_mixCube_L54
    rw [if_neg (show ¬ (3 : Int32) ≤ nI a from nI_ge (b := 3) ha (by omega)), c61 h h2 ha]
    rfl
  · show f_X8_mixCube_L54 z (nI 3) (gDa v n m H 3) = _
    unfold f_X8_mixCube_L54
    rw [if_pos (show (3 : Int32) ≤ nI 3 by decide), c108 h]
theorem p8_mixCube {z v : Nat → Int32} {n m : Nat} (h : MC z v n) (h2 : z 2 = nI m) (H : Int64) : f_X8_mixCube z H = some (gE v n (gDa v n m (gC v n H) 3)) := by
  have hn := h.2.1
  have hn2 := h.1
  have hnn : n * n ≤ 64 := Nat.mul_le_mul hn hn
  have h0 : 0 < n * n := Nat.mul_pos (by omega) (by omega)
  have hn3 : n * n * n ≤ 512 := cube_le hn
  have h3 : (z 0 * z 0) * z 0 = nI (n * n * n) := by rw [h.2.2.1, pk_mul, pk_mul]
  refine dz_it_count (fun t => (nI t, mx (fun k => Int32.toInt64 (v k)) H t)) (n * n * n) rfl (by omega) (fun t ht => ?_) ?_
  · show f_X8_mixCube_L9 z (nI t) (mx (fun k => Int32.toInt64 (v k)) H t) = _
    unfold f_X8_mixCube_L9
    have hx : t % n < n := Nat.mod_lt _ (by omega)
    have hy : t / n % n < n := Nat.mod_lt _ (by omega)
    have hw : t / (n * n) < n := Nat.div_lt_of_lt_mul ht
    have hid : idN n (t % n) (t / n % n) (t / (n * n)) = t := by
      have := t_back (s := n) (t := t) (by omega)
      unfold idN
      grind
    rw [h3, if_neg (nI_ge ht (by omega)), h.2.2.1, dz_nz_nI _ (by omega) (by omega), dz_nz_nI _ (by omega) (by omega), dz_nz_nI _ (by omega) (by omega), pk_mul, dz_nz_nI _ h0 (by omega)]
    rw [pk_rem (a := t) (d := n) (by omega) (by omega) (by omega), pk_div (a := t) (d := n * n) (by omega) h0 (by omega), pk_div (a := t) (d := n) (by omega) (by omega) (by omega), pk_rem (a := t / n) (d := n) (Nat.lt_of_le_of_lt (Nat.div_le_self t n) (by omega)) (by omega) (by omega), p8_place, i3, dz_in_nI _ (by omega) (by omega), nI_clamp (by omega), h.2.2.2 _ _ _ hx hy hw, hid, nI_1, m8]
    rfl
  · show f_X8_mixCube_L9 z (nI (n * n * n)) _ = _
    unfold f_X8_mixCube_L9
    rw [h3, if_pos (nI_le (Nat.le_refl _) (by omega)), c54 h h2]
    rfl
/-! the order -/
theorem o_rankmix {z v : Nat → Int32} {n a : Nat} (h : MC z v n) (h1 : z 1 = nI a) (ha : a < 3) (r : Int32) : ∃ f : Int64 → Int64, ∀ H, f_X7_withOrdered H r (nI n) (nI a) v = some (f H) ∧ f_X8_mixRank r z H = some (f H) := by
  obtain ⟨p, g, h2, h3⟩ := o_told h h1 ha r
  refine ⟨fun H => mx (fun k => Int32.toInt64 (g k)) H 4, fun H => ⟨?_, ?_⟩⟩
  · unfold f_X7_withOrdered
    rw [h2, ob_some]
    refine dz_it_count (fun k => (mx (fun k => Int32.toInt64 (g k)) H k, nI k)) 4 rfl (by omega) (fun k hk => ?_) ?_
    · show f_X7_withOrdered_L16 _ _ _ (mx (fun k => Int32.toInt64 (g k)) H k) (nI k) = _
      unfold f_X7_withOrdered_L16
      rw [if_neg (show ¬ (3 : Int32) < nI k from nI_nlt (a := 3) (by omega) (by omega)), (h3 k hk).1, ob_some, m7, nI_1]
      rfl
    · show f_X7_withOrdered_L16 _ _ _ _ (nI 4) = _
      unfold f_X7_withOrdered_L16
      rw [if_pos (show (3 : Int32) < nI 4 by decide)]
  · refine dz_it_count (fun k => (nI k, mx (fun k => Int32.toInt64 (g k)) H k)) 4 rfl (by omega) (fun k hk => ?_) ?_
    · show f_X8_mixRank_L2 _ _ (nI k) (mx (fun k => Int32.toInt64 (g k)) H k) = _
      unfold f_X8_mixRank_L2
      rw [if_neg (show ¬ (3 : Int32) < nI k from nI_nlt (a := 3) (by omega) (by omega)), (h3 k hk).2, ob_some, m8, nI_1]
      rfl
    · show f_X8_mixRank_L2 _ _ (nI 4) _ = _
      unfold f_X8_mixRank_L2
      rw [if_pos (show (3 : Int32) < nI 4 by decide)]
theorem o_order {z v : Nat → Int32} {n a : Nat} (h : MC z v n) (h1 : z 1 = nI a) (ha : a < 3) : ∃ f0 f1 f5 : Int64 → Int64, (∀ H, f_X7_withOrder H (nI n) (nI a) v = some (f5 (f1 (f0 H)))) ∧ (∀ H, f_X8_mixRank 0 z H = some (f0 H)) ∧ (∀ H, f_X8_mixRank 1 z H = some (f1 H)) ∧ ∀ H, f_X8_mixRank 5 z H = some (f5 H) := by
  obtain ⟨f0, h0⟩ := o_rankmix h h1 ha 0
  obtain ⟨f1, h2⟩ := o_rankmix h h1 ha 1
  obtain ⟨f5, h5⟩ := o_rankmix h h1 ha 5
  refine ⟨f0, f1, f5, fun H => ?_, fun H => (h0 H).2, fun H => (h2 H).2, fun H => (h5 H).2⟩
  unfold f_X7_withOrder
  rw [(h0 H).1, ob_some, (h2 _).1, ob_some, (h5 _).1, ob_some]
/-! the differences -/
def gG (v w : Nat → Int32) (n : Nat) (h : Int64) : Nat → Int64 := mx (fun k => Int32.toInt64 (dTold (fun p => v p - w p) (n * n * n) (nI k))) h
theorem p_withDiff {n : Nat} (hn : n ≤ 8) (v w : Nat → Int32) (H : Int64) : ∃ t, f_X7_withDifferences H (nI n) v w = some (gG v w n H 4, t) := by
  unfold f_X7_withDifferences
  rw [p_dlook hn, ob_some]
  refine ⟨(sCnt (fun k => v k - w k) (n * n * n), sSum (fun k => v k - w k) (n * n * n), gMx (fun k => v k - w k) (n * n * n), oI (gFi (fun k => v k - w k) id (n * n * n))), dz_it_count (fun k => (gG v w n H k, nI k)) 4 rfl (by omega) (fun k hk => ?_) ?_⟩
  · show f_X7_withDifferences_L16 _ (gG v w n H k) (nI k) = _
    unfold f_X7_withDifferences_L16
    rw [if_neg (show ¬ (3 : Int32) < nI k from nI_nlt (a := 3) (by omega) (by omega)), p_dtold, m7, nI_1]
    rfl
  · show f_X7_withDifferences_L16 _ (gG v w n H 4) (nI 4) = _
    unfold f_X7_withDifferences_L16
    rw [if_pos (show (3 : Int32) < nI 4 by decide)]
