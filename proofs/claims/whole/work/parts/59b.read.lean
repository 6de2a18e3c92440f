/-! pure: read -/
theorem p_numJ {tL Y : Int32} {tS B : Nat → Int32} {L : Nat} {c : Nat → Nat} (h : TX tL tS B Y L c) {s e : Nat} (hs : s ≤ e) (he : e ≤ L) (hd : ∀ i, s ≤ i → i < e → 48 ≤ c i ∧ c i ≤ 57) (b : Int32) : f_X6_numberIn_J30 (nI e) tL tS b (nI s) = some (if b = 0 then nI (dvN c s (e - s)) else -nI (dvN c s (e - s))) := by
  have hL := h.1
  refine dz_it_count (fun t => (nI (dvN c s t), nI (s + t))) (e - s) rfl (by omega) (fun t ht => ?_) ?_
  · show f_X6_numberIn_L32 (nI e) tL tS b (nI (dvN c s t)) (nI (s + t)) = some (Sum.inl (nI (10 * dvN c s t + (c (s + t) - 48)), nI (s + t + 1)))
    have h48 := (hd (s + t) (by omega) (by omega)).1
    unfold f_X6_numberIn_L32
    rw [if_neg (nI_ge (by omega) (by omega)), p_sign h (by omega), show (10 : Int32) = nI 10 from rfl, pk_mul, nI_add, show nI (10 * dvN c s t + c (s + t)) - 48 = nI (10 * dvN c s t + c (s + t) - 48) from pk_sub (b := 48) (by omega), nI_1, show 10 * dvN c s t + c (s + t) - 48 = 10 * dvN c s t + (c (s + t) - 48) by omega]
  · show f_X6_numberIn_L32 (nI e) tL tS b _ (nI (s + (e - s))) = _
    unfold f_X6_numberIn_L32
    rw [if_pos (nI_le (by omega) (by omega))]
    split <;> rfl
/-- the number of an order -/
def oVal (c : Nat → Nat) (k e : Nat) : Int32 := if c (k + 4) = 45 then -nI (dvN c (k + 5) (e - (k + 5))) else nI (dvN c (k + 4) (e - (k + 4)))
theorem p_numIn {tL Y : Int32} {tS B : Nat → Int32} {L : Nat} {c : Nat → Nat} (h : TX tL tS B Y L c) {R : Nat → Int32} {o k e : Nat} (ho : Ord L c R o k e) : f_X6_numberIn (nI (k + 4)) (nI e) tL tS = some (oVal c k e) ∧ R (5 * o + 4) = oVal c k e := by
  obtain ⟨h1, h2, h3, h4, h5, h6, h7⟩ := ho
  have hL := h.1
  unfold f_X6_numberIn f_X6_numberIn_J15 oVal
  rw [p_sign h (by omega)]
  rcases h7 with ⟨a1, a2, a3, a4⟩ | ⟨a1, a2, a3⟩
  · rw [a1, if_pos rfl, if_pos (show nI 45 = 45 from rfl), if_neg (by decide), nI_1, p_numJ h (by omega) h2 a4, if_neg (by decide)]
    exact ⟨rfl, a3⟩
  · have := (h.2.2.2 (k + 4) (by omega)).2.2.2
    rw [if_neg a1, if_neg (show ¬ nI (c (k + 4)) = 45 from fun q => a1 ((nI_eq (b := 45) (by omega) (by decide)).mp q)), if_pos rfl, p_numJ h (by omega) h2 a3, if_pos rfl]
    exact ⟨rfl, a2⟩
theorem o_do {tL Y : Int32} {tS B : Nat → Int32} {L : Nat} {c : Nat → Nat} (h : TX tL tS B Y L c) {R : Nat → Int32} {o k e : Nat} (ho : Ord L c R o k e) (ho2 : o ≤ 11) {z v w : Nat → Int32} {n a m : Nat} (hc : CR z v w n a m) : (f_X7_doPoint (nI k) (nI e) (nI n) v tL tS = some (0, v) ∧ f_X8_does (nI o) z R = some (0, z)) ∨ ∃ v' z' d, ¬ d = 0 ∧ f_X7_doPoint (nI k) (nI e) (nI n) v tL tS = some (1, v') ∧ f_X8_does (nI o) z R = some (d, z') ∧ CR z' v' w n a m := by
  obtain ⟨n1, n2⟩ := p_numIn h ho
  obtain ⟨h1, h2, h3, h4, h5, h6, h7⟩ := ho
  have hL := h.1
  have hn := hc.1.1.2.1
  have r0 := (h4 0 (by omega)).2
  have r1 := (h4 1 (by omega)).2
  have r2 := (h4 2 (by omega)).2
  simp only [Nat.add_zero] at r0
  have hs3 : f_X6_sign (nI (k + 3)) tL tS = nI (c (k + 3)) := p_sign h (by omega)
  have c43 : nI (c (k + 3)) = 43 ↔ c (k + 3) = 43 := nI_eq (b := 43) (by have := (h.2.2.2 (k + 3) (by omega)).2.2.2; omega) (by decide)
  unfold f_X7_doPoint f_X7_doPoint_J115 f_X8_does f_X8_does_J105 f_X8_does_J129
  rw [show nI k + 1 = nI (k + 1) from nI_1 k, show nI k + 2 = nI (k + 2) from nI_add k 2, show nI k + 3 = nI (k + 3) from nI_add k 3, show nI k + 4 = nI (k + 4) from nI_add k 4, p_sign h (show k < L by omega), p_sign h (show k + 1 < L by omega), p_sign h (show k + 2 < L by omega), hs3, n1, Option.bind_some]
  rw [show (5 : Int32) * nI o = nI (5 * o) from pk_mul 5 o, show nI (5 * o) + 1 = nI (5 * o + 1) from nI_1 _, show nI (5 * o) + 2 = nI (5 * o + 2) from nI_add _ 2, show nI (5 * o) + 3 = nI (5 * o + 3) from nI_add _ 3, show nI (5 * o) + 4 = nI (5 * o + 4) from nI_add _ 4]
  simp only [nI_clamp (show 5 * o < 2 ^ 31 by omega), nI_clamp (show 5 * o + 1 < 2 ^ 31 by omega), nI_clamp (show 5 * o + 2 < 2 ^ 31 by omega), nI_clamp (show 5 * o + 3 < 2 ^ 31 by omega), nI_clamp (show 5 * o + 4 < 2 ^ 31 by omega), dz_in_nI _ (show 5 * o < 60 by omega) (show 60 < 2 ^ 31 by decide), dz_in_nI _ (show 5 * o + 1 < 60 by omega) (show 60 < 2 ^ 31 by decide), dz_in_nI _ (show 5 * o + 2 < 60 by omega) (show 60 < 2 ^ 31 by decide), dz_in_nI _ (show 5 * o + 3 < 60 by omega) (show 60 < 2 ^ 31 by decide), dz_in_nI _ (show 5 * o + 4 < 60 by omega) (show 60 < 2 ^ 31 by decide)]
  rw [r0, r1, r2, g_point hc.1.1.2.2.1, n2, h5]
  by_cases g : f_X5_hasPoint (nI (c k) - 48) (nI (c (k + 1)) - 48) (nI (c (k + 2)) - 48) (nI n) = 0
  · rw [if_pos g, if_pos g]
    exact Or.inl ⟨rfl, rfl⟩
  · rw [if_neg g, if_neg g]
    obtain ⟨x, y, u, hx, hy, hu, e1, e2, e3⟩ := g_point_of (by omega) g
    have h512 := idN_512 hn hx hy hu
    rw [e1, e2, e3, p_place, p8_place, i3]
    simp only [nI_clamp (show 3 + (x + 8 * y + 64 * u) < 2 ^ 31 by omega), dz_in_nI _ (show 3 + (x + 8 * y + 64 * u) < 1027 by omega) (show 1027 < 2 ^ 31 by decide)]
    rw [hc.1.1.2.2.2 x y u hx hy hu, p_num v h512]
    have key : ∀ t : Int32, ((if f_X7_isNumber t = 0 then some ((0 : Int32), v) else some (1, f_X5_write (nI (idN n x y u)) t v)) = some (0, v) ∧ (if f_X8_isNumber t = 0 then some (f_X8_isNumber t, upd z (3 + (x + 8 * y + 64 * u)) (v (idN n x y u))) else some (f_X8_isNumber t, upd z (3 + (x + 8 * y + 64 * u)) t)) = some (0, z)) ∨ ∃ v' z' d, ¬ d = 0 ∧ (if f_X7_isNumber t = 0 then some ((0 : Int32), v) else some (1, f_X5_write (nI (idN n x y u)) t v)) = some (1, v') ∧ (if f_X8_isNumber t = 0 then some (f_X8_isNumber t, upd z (3 + (x + 8 * y + 64 * u)) (v (idN n x y u))) else some (f_X8_isNumber t, upd z (3 + (x + 8 * y + 64 * u)) t)) = some (d, z') ∧ CR z' v' w n a m := fun t => by
      rw [g_number]
      by_cases q : f_X7_isNumber t = 0
      · rw [if_pos q, if_pos q, q, ← hc.1.1.2.2.2 x y u hx hy hu, upd_self]
        exact Or.inl ⟨rfl, rfl⟩
      · obtain ⟨b1, b2⟩ := g_num_in q
        rw [if_neg q, if_neg q, p_write v t h512]
        exact Or.inr ⟨_, _, _, q, rfl, rfl, hc.put hx hy hu b1 b2⟩
    by_cases g3 : c (k + 3) = 43
    · rw [if_pos (c43.mpr g3), if_pos g3, if_pos rfl]
      exact key _
    · rw [if_neg (fun q => g3 (c43.mp q)), if_neg g3, if_neg (show ¬ (0 : Int32) = 1 by decide), Int32.add_zero]
      exact key _
