/-! pure: the best axis and setting -/
theorem sRoom_le (g : Nat → Int32) : ∀ k, ∃ r, sRoom g k = nI r ∧ 1 ≤ r ∧ r ≤ 1 + 2 * k := by
  intro k
  induction k with
  | zero => exact ⟨1, rfl, by omega, by omega⟩
  | succ k ih =>
    obtain ⟨r, h1, h2, h3⟩ := ih
    show ∃ r, sRoom g k + (if g k = 0 then 0 else if sPrev g k = 0 then 2 else 1) = nI r ∧ _ ∧ _
    rw [h1]
    split
    · exact ⟨r, Int32.add_zero _, h2, by omega⟩
    · split
      · exact ⟨r + 2, by rw [show (2 : Int32) = nI 2 from rfl, nI_add], by omega, by omega⟩
      · exact ⟨r + 1, nI_1 r, by omega, by omega⟩
theorem sRoomOf_le {n r : Nat} (hn : n ≤ 8) (m c : Int32) (h1 : 1 ≤ r) (h2 : r ≤ 129) : ∃ q, sRoomOf m c (nI r) (nI n) = nI q ∧ 1 ≤ q ∧ q ≤ 129 := by
  have hnn : n * n ≤ 64 := Nat.mul_le_mul hn hn
  unfold sRoomOf
  split
  · exact ⟨1, rfl, by omega, by omega⟩
  · split
    · exact ⟨r, rfl, h1, h2⟩
    · exact ⟨1 + n * n, by rw [pk_mul, show (1 : Int32) = nI 1 from rfl, nI_add], by omega, by omega⟩
theorem sRoomBy_le {F R : Nat → Int32} {n : Nat} (h : ∀ i, i < n → ∃ q, R i = nI q ∧ 1 ≤ q ∧ q ≤ 129) : ∀ k, k ≤ n → ∃ r, sRoomBy F R k = nI r ∧ (1 ≤ k → 1 ≤ r) ∧ r ≤ 129 * k := by
  intro k
  induction k with
  | zero => intro _; exact ⟨0, rfl, by omega, by omega⟩
  | succ k ih =>
    intro hk
    obtain ⟨r, h1, h2, h3⟩ := ih (by omega)
    obtain ⟨q, g1, g2, g3⟩ := h k (by omega)
    show ∃ r, sRoomBy F R k + (if F k = 0 ∧ k ≠ 0 ∧ F (k - 1) = 0 then 0 else R k) = nI r ∧ _ ∧ _
    rw [h1]
    split
    · rename_i e
      have := e.2.1
      exact ⟨r, Int32.add_zero _, fun _ => h2 (by omega), by omega⟩
    · rw [g1]
      exact ⟨r + q, nI_add r q, fun _ => by omega, by omega⟩
theorem rBy_le {n : Nat} (hn2 : 2 ≤ n) (hn : n ≤ 8) (v : Nat → Int32) (a : Nat) (m : Int32) : ∃ r, rBy v n a m = nI r ∧ 1 ≤ r ∧ r ≤ 1032 := by
  have hnn : n * n ≤ 64 := Nat.mul_le_mul hn hn
  obtain ⟨r, h1, h2, h3⟩ := sRoomBy_le (F := fun i => sForm m (vF v n a i)) (R := fun i => sRoomOf m (vF v n a i) (vR v n a i) (nI n)) (n := n) (fun i hi => by
    obtain ⟨r, g1, g2, g3⟩ := sRoom_le (sl v n a i) (n * n)
    have : vR v n a i = nI r := g1
    show ∃ q, sRoomOf m (vF v n a i) (vR v n a i) (nI n) = nI q ∧ _ ∧ _
    rw [this]
    exact sRoomOf_le hn m _ g2 (by omega)) n (Nat.le_refl n)
  exact ⟨r, h1, h2 (by omega), by omega⟩
def bStep (R : Nat → Nat → Int32) (s : Int32 × Int32 × Int32) (t : Nat) : Int32 × Int32 × Int32 := if s.2.2 ≤ R (t / 64) (t % 64 + 1) then s else (nI (t / 64), nI (t % 64 + 1), R (t / 64) (t % 64 + 1))
def bMtep (R : Nat → Nat → Int32) (s : Int32 × Int32 × Int32) (t : Nat) : Int32 × Int32 × Int32 := if s.2.2 = -1 then (nI (t / 64), nI (t % 64 + 1), R (t / 64) (t % 64 + 1)) else bStep R s t
theorem b_same {R : Nat → Nat → Int32} (hR : ∀ a k, ∃ r, R a k = nI r ∧ 1 ≤ r ∧ r ≤ 1032) (a0 m0 : Int32) : ∀ t, fN (bStep R) (a0, m0, 1000000) (t + 1) = fN (bMtep R) (-1, -1, -1) (t + 1) ∧ ∃ r, (fN (bStep R) (a0, m0, 1000000) (t + 1)).2.2 = nI r ∧ r ≤ 1032 := by
  intro t
  induction t with
  | zero =>
    obtain ⟨r, h1, h2, h3⟩ := hR (0 / 64) (0 % 64 + 1)
    have e1 : fN (bStep R) (a0, m0, 1000000) (0 + 1) = (nI (0 / 64), nI (0 % 64 + 1), R (0 / 64) (0 % 64 + 1)) := by
      show bStep R (a0, m0, 1000000) 0 = _
      unfold bStep
      refine if_neg ?_
      show ¬ (1000000 : Int32) ≤ R (0 / 64) (0 % 64 + 1)
      rw [h1]
      exact nI_ge (b := 1000000) (by omega) (by decide)
    refine ⟨?_, r, ?_, h3⟩
    · rw [e1]
      show _ = bMtep R (-1, -1, -1) 0
      unfold bMtep
      exact (if_pos rfl).symm
    · rw [e1]
      exact h1
  | succ t ih =>
    obtain ⟨ih1, r, ih2, ih3⟩ := ih
    have e : fN (bMtep R) (-1, -1, -1) (t + 1 + 1) = fN (bStep R) (a0, m0, 1000000) (t + 1 + 1) := by
      show bMtep R (fN (bMtep R) (-1, -1, -1) (t + 1)) (t + 1) = bStep R (fN (bStep R) (a0, m0, 1000000) (t + 1)) (t + 1)
      rw [← ih1]
      unfold bMtep
      refine if_neg ?_
      rw [ih2]
      intro q
      have h1 := nI_pos (n := r) (by omega)
      rw [q] at h1
      exact h1 (by decide)
    refine ⟨e.symm, ?_⟩
    show ∃ r, (bStep R (fN (bStep R) (a0, m0, 1000000) (t + 1)) (t + 1)).2.2 = nI r ∧ r ≤ 1032
    unfold bStep
    split
    · exact ⟨r, ih2, ih3⟩
    · obtain ⟨r', h1, h2, h3⟩ := hR ((t + 1) / 64) ((t + 1) % 64 + 1)
      exact ⟨r', h1, h3⟩
abbrev sc5 : Type := Int32 × (Nat → Int32) × (Nat → Int32) × (Nat → Int32) × (Nat → Int32)
def scS (v : Nat → Int32) (n : Nat) (s : sc5) (a : Nat) : sc5 := (nI n, uTo s.2.1 (vS v n a) n, uTo s.2.2.1 (vF v n a) n, uTo s.2.2.2.1 (vG v n a) n, uTo s.2.2.2.2 (vR v n a) n)
theorem p_look3 {v : Nat → Int32} {n : Nat} (hn2 : 2 ≤ n) (hn : n ≤ 8) (lD : Int32) (lS lF lG lR : Nat → Int32) (eA eM : Int32) : ∃ c : sc5, f_X3_look (nI n) v lD lS lF lG lR eA eM = some (c.1, c.2.1, c.2.2.1, c.2.2.2.1, c.2.2.2.2, fN (bStep (fun a k => rBy v n a (nI k))) (eA, eM, 1000000) 192) := by
  obtain ⟨R, hRe⟩ : ∃ R : Nat → Nat → Int32, R = fun a k => rBy v n a (nI k) := ⟨_, rfl⟩
  rw [← hRe]
  obtain ⟨b, hb⟩ : ∃ b : Nat → Int32 × Int32 × Int32, b = fN (bStep R) (eA, eM, 1000000) := ⟨_, rfl⟩
  obtain ⟨c, hc⟩ : ∃ c : Nat → sc5, c = fN (scS v n) (lD, lS, lF, lG, lR) := ⟨_, rfl⟩
  have hb0 : b 0 = (eA, eM, 1000000) := by rw [hb]; rfl
  have hc0 : c 0 = (lD, lS, lF, lG, lR) := by rw [hc]; rfl
  have hbs : ∀ t, b (t + 1) = bStep R (b t) t := fun t => by rw [hb]; rfl
  have hcs : ∀ t, c (t + 1) = scS v n (c t) t := fun t => by rw [hc]; rfl
  rw [← hb]
  refine ⟨c 3, ?_⟩
  refine dz_it_count (fun a => (nI a, (c a).1, (c a).2.1, (c a).2.2.1, (c a).2.2.2.1, (c a).2.2.2.2, (b (a * 64)).1, (b (a * 64)).2.1, (b (a * 64)).2.2)) 3 ?_ (by omega) (fun a ha => ?_) ?_
  · rw [hc0, Nat.zero_mul, hb0]; rfl
  · show f_X3_look_L8 (nI n) v (nI a) _ _ _ _ _ _ _ _ = _
    unfold f_X3_look_L8
    rw [if_neg (show ¬ (3 : Int32) ≤ nI a from nI_ge (b := 3) ha (by decide)), p_look hn2 hn ha, Option.bind_some]
    refine dz_it_count (fun j => (nI (j + 1), (b (a * 64 + j)).1, (b (a * 64 + j)).2.1, (b (a * 64 + j)).2.2)) 64 rfl (by omega) (fun j hj => ?_) ?_
    · show f_X3_look_L22 _ (nI a) (nI (j + 1)) _ _ _ = _
      unfold f_X3_look_L22 f_X3_look_J63
      rw [if_neg (show ¬ (64 : Int32) < nI (j + 1) from nI_nlt (b := j + 1) (a := 64) (by omega) (by decide))]
      dsimp only
      rw [p_roomOfAll hn (uTo_sees n _ _) (uTo_sees n _ _), Option.bind_some, show rAll (nI (j + 1)) n (vF v n a) (vR v n a) = R a (j + 1) by rw [hRe]; rfl, nI_1, ← Nat.add_assoc, hbs]
      unfold bStep
      rw [show (a * 64 + j) / 64 = a by omega, show (a * 64 + j) % 64 = j by omega]
      split <;> rfl
    · show f_X3_look_L22 _ (nI a) (nI (64 + 1)) _ _ _ = _
      unfold f_X3_look_L22
      rw [if_pos (by decide), nI_1, show (a + 1) * 64 = a * 64 + 64 by omega, hcs]
      rfl
  · show f_X3_look_L8 (nI n) v (nI 3) _ _ _ _ _ _ _ _ = _
    unfold f_X3_look_L8
    rw [if_pos (by decide)]
theorem MC.set2 {z v : Nat → Int32} {n : Nat} (h : MC z v n) (c : Int32) : MC (upd z 2 c) v n := by
  obtain ⟨h1, h2, h3, h4⟩ := h
  refine ⟨h1, h2, ?_, fun x y w hx hy hw => ?_⟩
  · unfold upd
    rw [if_neg (by omega)]
    exact h3
  · unfold upd
    rw [if_neg (by omega)]
    exact h4 x y w hx hy hw
theorem upd_at (f : Nat → Int32) (k : Nat) (c : Int32) : upd f k c k = c := if_pos rfl
/-- what is told of the best -/
def eTold (v : Nat → Int32) (n : Nat) (p : Int32) : Int32 := f_X3_told p (fN (bMtep (fun a k => rBy v n a (nI k))) (-1, -1, -1) 192).1 (fN (bMtep (fun a k => rBy v n a (nI k))) (-1, -1, -1) 192).2.1 (fN (bMtep (fun a k => rBy v n a (nI k))) (-1, -1, -1) 192).2.2
theorem p8_bestOf {z v : Nat → Int32} {n : Nat} (h : MC z v n) (p : Int32) : f_X8_bestOf p z = some (eTold v n p, z) := by
  obtain ⟨R, hRe⟩ : ∃ R : Nat → Nat → Int32, R = fun a k => rBy v n a (nI k) := ⟨_, rfl⟩
  obtain ⟨b, hb⟩ : ∃ b : Nat → Int32 × Int32 × Int32, b = fN (bMtep R) (-1, -1, -1) := ⟨_, rfl⟩
  have hb0 : b 0 = (-1, -1, -1) := by rw [hb]; rfl
  have hbs : ∀ t, b (t + 1) = bMtep R (b t) t := fun t => by rw [hb]; rfl
  have he : eTold v n p = f_X3_told p (b 192).1 (b 192).2.1 (b 192).2.2 := by rw [hb, hRe]; rfl
  rw [he]
  obtain ⟨zz, hzz⟩ : ∃ zz : Nat → Nat → Int32, zz = fun a => if a = 0 then z else upd z 2 (nI 64) := ⟨_, rfl⟩
  have hup : ∀ a c, upd (zz a) 2 c = upd z 2 c := fun a c => by
    rw [hzz]
    show upd (if a = 0 then z else upd z 2 (nI 64)) 2 c = _
    split
    · rfl
    · rw [upd_upd]
  refine dz_it_count (fun a => ((b (a * 64)).1, (b (a * 64)).2.1, (b (a * 64)).2.2, nI a, zz a)) 3 ?_ (by omega) (fun a ha => ?_) ?_
  · rw [Nat.zero_mul, hb0, hzz]; rfl
  · show f_X8_bestOf_L18 p z _ _ _ (nI a) _ = _
    unfold f_X8_bestOf_L18
    rw [if_neg (show ¬ (3 : Int32) ≤ nI a from nI_ge (b := 3) ha (by decide))]
    refine dz_it_count (fun j => ((b (a * 64 + j)).1, (b (a * 64 + j)).2.1, (b (a * 64 + j)).2.2, nI (j + 1), if j = 0 then zz a else upd z 2 (nI j))) 64 rfl (by omega) (fun j hj => ?_) ?_
    · show f_X8_bestOf_L27 (nI a) _ _ _ (nI (j + 1)) (if j = 0 then zz a else upd z 2 (nI j)) = _
      have hz : upd (if j = 0 then zz a else upd z 2 (nI j)) 2 (nI (j + 1)) = upd z 2 (nI (j + 1)) := by
        split
        · exact hup a _
        · rw [upd_upd]
      unfold f_X8_bestOf_L27 f_X8_bestOf_J63 f_X8_bestOf_J68 f_X8_bestOf_J81 f_X8_bestOf_J94 f_X8_bestOf_J108
      rw [if_neg (show ¬ (64 : Int32) < nI (j + 1) from nI_nlt (b := j + 1) (a := 64) (by omega) (by decide)), hz, p8_roomBy (h.set2 _) ha, upd_at, Option.bind_some, show rBy v n a (nI (j + 1)) = R a (j + 1) by rw [hRe], nI_1, ← Nat.add_assoc, hbs]
      dsimp only
      rw [if_neg (show ¬ j + 1 = 0 by omega)]
      unfold bMtep bStep
      rw [show (a * 64 + j) / 64 = a by omega, show (a * 64 + j) % 64 = j by omega]
      split
      · rfl
      · split <;> rfl
    · show f_X8_bestOf_L27 (nI a) _ _ _ (nI (64 + 1)) _ = _
      unfold f_X8_bestOf_L27
      rw [if_pos (by decide), nI_1, show (a + 1) * 64 = a * 64 + 64 by omega, hzz]
      dsimp only
      rw [if_neg (by decide), if_neg (by omega)]
  · show f_X8_bestOf_L18 p z _ _ _ (nI 3) _ = _
    unfold f_X8_bestOf_L18 f_X3_told
    rw [if_pos (by decide), hup, upd_self]
    split
    · rfl
    · split <;> rfl
theorem o_best {z v : Nat → Int32} {n : Nat} (h : MC z v n) (p : Int32) (lD : Int32) (lS lF lG lR : Nat → Int32) (eA eM : Int32) : (f_X7_best p (nI n) v lD lS lF lG lR eA eM = some (.inl 2) ∧ f_X8_best p z = some (0, 1, z)) ∨ ∃ s t, f_X7_best p (nI n) v lD lS lF lG lR eA eM = some (.inr (s, t)) ∧ f_X8_best p z = some (s, 0, z) := by
  unfold f_X7_best f_X8_best f_X8_best_J15 f_X8_in f_X8_in_J14
  by_cases h4 : p < 0
  · rw [if_pos h4, if_pos h4, if_pos rfl, if_neg (by decide)]
    exact Or.inl ⟨rfl, rfl⟩
  · rw [if_neg h4, if_neg h4]
    by_cases h5 : p ≤ 2
    · rw [if_pos h5, if_neg (Int32.not_lt.mpr h5), if_neg (by decide), if_pos (by decide)]
      obtain ⟨c, hc⟩ := p_look3 (v := v) h.1 h.2.1 lD lS lF lG lR eA eM
      have hs := (b_same (R := fun a k => rBy v n a (nI k)) (fun a k => rBy_le h.1 h.2.1 v a _) eA eM 191).1
      rw [hc, p8_bestOf h]
      simp only [Option.bind_some]
      rw [show (192 : Nat) = 191 + 1 from rfl, hs, show (191 + 1 : Nat) = 192 from rfl]
      unfold eTold
      generalize fN (bMtep (fun a k => rBy v n a (nI k))) (-1, -1, -1) 192 = B
      exact Or.inr ⟨_, _, rfl, rfl⟩
    · rw [if_neg h5, if_pos (Int32.not_le.mp h5), if_pos rfl, if_neg (by decide)]
      exact Or.inl ⟨rfl, rfl⟩
