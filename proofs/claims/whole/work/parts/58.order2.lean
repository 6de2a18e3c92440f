/-! pure: texts, the model's reader: an order as a whole -/
theorem lt43 {tL Y : Int32} {tS B : Nat → Int32} {L : Nat} {c : Nat → Nat} (h : TX tL tS B Y L c) (k : Nat) : ltN L c k = 43 ↔ k < L ∧ c k = 43 := lt_eq (x := 43) h (by omega)
theorem lt45 {tL Y : Int32} {tS B : Nat → Int32} {L : Nat} {c : Nat → Nat} (h : TX tL tS B Y L c) (k : Nat) : ltN L c k = 45 ↔ k < L ∧ c k = 45 := lt_eq (x := 45) h (by omega)
theorem lt59 {tL Y : Int32} {tS B : Nat → Int32} {L : Nat} {c : Nat → Nat} (h : TX tL tS B Y L c) (k : Nat) : ltN L c k = 59 ↔ k < L ∧ c k = 59 := lt_eq (x := 59) h (by omega)
theorem lt61 {tL Y : Int32} {tS B : Nat → Int32} {L : Nat} {c : Nat → Nat} (h : TX tL tS B Y L c) (k : Nat) : ltN L c k = 61 ↔ k < L ∧ c k = 61 := lt_eq (x := 61) h (by omega)
theorem mkBad {L : Nat} {c : Nat → Nat} {k j q : Nat} (hkj : k ≤ j) (hj : j ≤ L) (hq : dq c j = q) (hq5 : q ≤ 5) (hi : ∀ i, k ≤ i → i ≤ j → ¬ dq c i = 9) (h9 : j < L → nxN q (c j) = 9) : Bad L c k j := by
  refine ⟨hkj, hj, hi, fun h => ?_, fun h => ?_⟩
  · rw [dq_s, hq]
    exact h9 h
  · rw [← h, hq]
    omega
theorem rO_tail {tL Y : Int32} {tS B : Nat → Int32} {L : Nat} {c : Nat → Nat} (h : TX tL tS B Y L c) {o p k : Nat} (ho : o ≤ 10) (hp : p < L) (hkp : k ≤ p) (hq : dq c p = 3) (hno : ∀ i, k ≤ i → i ≤ p → ¬ dq c i = 9) (hs : c p = 43 ∨ c p = 61) (R : Nat → Int32) : (∃ R' s j, f_X8_readOrder_J78 B Y (nI o) R (nI p) (-1) (if c p = 43 then 1 else 0) 1 = some (.inr (R', nI (o + 1), nI s, nI j)) ∧ s ≤ 100 ∧ Bad L c k j ∧ ∀ i, i < 5 * o + 3 → R' i = R i) ∨ ∃ R' e, f_X8_readOrder_J78 B Y (nI o) R (nI p) (-1) (if c p = 43 then 1 else 0) 1 = some (.inr (R', nI (o + 1), nI e, -1)) ∧ p + 2 ≤ e ∧ e ≤ L ∧ R' (5 * o + 3) = (if c p = 43 then 1 else 0) ∧ ((c (p + 1) = 45 ∧ p + 3 ≤ e ∧ R' (5 * o + 4) = -nI (dvN c (p + 2) (e - (p + 2))) ∧ ∀ i, p + 2 ≤ i → i < e → 48 ≤ c i ∧ c i ≤ 57) ∨ (¬ c (p + 1) = 45 ∧ R' (5 * o + 4) = nI (dvN c (p + 1) (e - (p + 1))) ∧ ∀ i, p + 1 ≤ i → i < e → 48 ≤ c i ∧ c i ≤ 57)) ∧ Good L c k e ∧ ∀ i, i < 5 * o + 3 → R' i = R i := by
  have hL := h.1
  have q4 : dq c (p + 1) = 4 := by
    rw [dq_s, hq, nx_3, if_pos (by omega)]
  have e78 := j78_ok h ho (show p ≤ 60 by omega) R (if c p = 43 then 1 else 0)
  have hno1 : ∀ i, k ≤ i → i ≤ p + 1 → ¬ dq c i = 9 := fun i h1 h2 => by
    rcases (show i ≤ p ∨ i = p + 1 by omega) with h3 | rfl
    · exact hno i h1 h3
    · omega
  by_cases m : p + 1 < L ∧ c (p + 1) = 45
  · have q5 : dq c (p + 2) = 5 := by
      rw [dq_s, q4, m.2]
      rfl
    have hno2 : ∀ i, k ≤ i → i ≤ p + 2 → ¬ dq c i = 9 := fun i h1 h2 => by
      rcases (show i ≤ p + 1 ∨ i = p + 2 by omega) with h3 | rfl
      · exact hno1 i h1 h3
      · omega
    rw [if_pos ((lt45 h _).mpr m)] at e78
    by_cases d : p + 2 < L ∧ (48 ≤ c (p + 2) ∧ c (p + 2) ≤ 57)
    · obtain ⟨e, e1, e2, e3, e4, e5, e6, e7⟩ := n_ok h d.1 d.2 (Or.inr q5)
      rw [e3, Option.bind_some] at e78
      refine Or.inr ⟨_, e, e78, by omega, e2, ?_, Or.inl ⟨m.2, by omega, ?_, e4⟩, ⟨fun i h1 h2 => ?_, e6, e7⟩, pres2 (by omega) (by omega)⟩
      · rw [pk_un (by omega), pk_us]
      · rw [pk_us]
      · rcases (show i ≤ p + 2 ∨ p + 2 ≤ i by omega) with h3 | h3
        · exact hno2 i h1 h3
        · exact e5 i h3 h2
    · obtain ⟨d', e3⟩ := n_bad h (k := p + 2) (by omega) (fun h1 h2 => d ⟨h1, h2⟩)
      rw [e3, Option.bind_some] at e78
      exact Or.inl ⟨_, p + 3, p + 2, e78, by omega, mkBad (by omega) (by omega) q5 (by omega) hno2 (fun h1 => nx_nd (Or.inr rfl) (fun h2 => d ⟨h1, h2⟩) (fun h3 => absurd h3 (by omega))), pres2 (by omega) (by omega)⟩
  · rw [if_neg (fun q => m ((lt45 h _).mp q))] at e78
    by_cases d : p + 1 < L ∧ (48 ≤ c (p + 1) ∧ c (p + 1) ≤ 57)
    · obtain ⟨e, e1, e2, e3, e4, e5, e6, e7⟩ := n_ok h d.1 d.2 (Or.inl q4)
      rw [e3, Option.bind_some] at e78
      refine Or.inr ⟨_, e, e78, by omega, e2, ?_, Or.inr ⟨fun q => m ⟨d.1, q⟩, ?_, e4⟩, ⟨fun i h1 h2 => ?_, e6, e7⟩, pres2 (by omega) (by omega)⟩
      · rw [pk_un (by omega), pk_us]
      · rw [pk_us]
      · rcases (show i ≤ p + 1 ∨ p + 1 ≤ i by omega) with h3 | h3
        · exact hno1 i h1 h3
        · exact e5 i h3 h2
    · obtain ⟨d', e3⟩ := n_bad h (k := p + 1) (by omega) (fun h1 h2 => d ⟨h1, h2⟩)
      rw [e3, Option.bind_some] at e78
      exact Or.inl ⟨_, p + 2, p + 1, e78, by omega, mkBad (by omega) (by omega) q4 (by omega) hno1 (fun h1 => nx_nd (Or.inl rfl) (fun h2 => d ⟨h1, h2⟩) (fun _ h3 => m ⟨h1, h3⟩)), pres2 (by omega) (by omega)⟩
theorem rO {tL Y : Int32} {tS B : Nat → Int32} {L : Nat} {c : Nat → Nat} (h : TX tL tS B Y L c) {o k : Nat} (ho : o ≤ 10) (hk : k ≤ L) (hq : dq c k = 0) (R : Nat → Int32) : (∃ R' s j, f_X8_readOrder B Y R (nI o) (nI k) (-1) = some (R', nI (o + 1), nI s, nI j) ∧ s ≤ 100 ∧ Bad L c k j ∧ ∀ i, i < 5 * o → R' i = R i) ∨ ∃ R' e, f_X8_readOrder B Y R (nI o) (nI k) (-1) = some (R', nI (o + 1), nI e, -1) ∧ Ord L c R' o k e ∧ Good L c k e ∧ ∀ i, i < 5 * o → R' i = R i := by
  have hL := h.1
  have hno0 : ∀ i, k ≤ i → i ≤ k → ¬ dq c i = 9 := fun i h1 h2 => by
    rw [show i = k by omega]
    omega
  have hend : ∀ {m : Nat} {r : (Nat → Int32) × Int32 × Int32 × Int32}, m < 10 → RS (fun s : Int32 × (Nat → Int32) × Int32 × Int32 => f_X8_readOrder_L9 B Y (nI o) s.1 s.2.1 s.2.2.1 s.2.2.2) m (nI 0, R, nI k, -1) r → f_X8_readOrder B Y R (nI o) (nI k) (-1) = some r := fun hm hr => hr.it (by omega)
  by_cases g0 : k < L ∧ (48 ≤ c k ∧ c k ≤ 55)
  · have q1 : dq c (k + 1) = 1 := by rw [dq_s, hq, nx_d (by omega) g0.2]
    have s0 := ok_step h (o := o) (i := 0) (p := k) ho (by omega) g0.1 g0.2 R
    have hno1 : ∀ i, k ≤ i → i ≤ k + 1 → ¬ dq c i = 9 := fun i h1 h2 => by
      rcases (show i = k ∨ i = k + 1 by omega) with rfl | rfl <;> omega
    by_cases g1 : k + 1 < L ∧ (48 ≤ c (k + 1) ∧ c (k + 1) ≤ 55)
    · have q2 : dq c (k + 2) = 2 := by rw [dq_s, q1, nx_d (by omega) g1.2]
      have s1 := ok_step h (o := o) (i := 1) (p := k + 1) ho (by omega) g1.1 g1.2 (upd R (5 * o + 0) (nI (c k) - 48))
      have hno2 : ∀ i, k ≤ i → i ≤ k + 2 → ¬ dq c i = 9 := fun i h1 h2 => by
        rcases (show i = k ∨ i = k + 1 ∨ i = k + 2 by omega) with rfl | rfl | rfl <;> omega
      by_cases g2 : k + 2 < L ∧ (48 ≤ c (k + 2) ∧ c (k + 2) ≤ 55)
      · have q3 : dq c (k + 3) = 3 := by rw [dq_s, q2, nx_d (by omega) g2.2]
        have s2 := ok_step h (o := o) (i := 2) (p := k + 2) ho (by omega) g2.1 g2.2 (upd (upd R (5 * o + 0) (nI (c k) - 48)) (5 * o + 1) (nI (c (k + 1)) - 48))
        have hno3 : ∀ i, k ≤ i → i ≤ k + 3 → ¬ dq c i = 9 := fun i h1 h2 => by
          rcases (show i = k ∨ i = k + 1 ∨ i = k + 2 ∨ i = k + 3 by omega) with rfl | rfl | rfl | rfl <;> omega
        obtain ⟨R3, hR3⟩ : ∃ R3, R3 = upd (upd (upd R (5 * o + 0) (nI (c k) - 48)) (5 * o + 1) (nI (c (k + 1)) - 48)) (5 * o + 2) (nI (c (k + 2)) - 48) := ⟨_, rfl⟩
        rw [← hR3] at s2
        have hpr : ∀ i, i < 5 * o → R3 i = R i := fun i hi => by
          rw [hR3, pk_un (by omega), pk_un (by omega), pk_un (by omega)]
        have e53 := j53 h ho (show k + 3 < 2 ^ 31 by omega) R3 (-1)
        by_cases g3 : k + 3 < L ∧ (c (k + 3) = 43 ∨ c (k + 3) = 61)
        · have e53' : f_X8_readOrder_L9 B Y (nI o) (nI 3) R3 (nI (k + 3)) (-1) = f_X8_readOrder_J78 B Y (nI o) R3 (nI (k + 3)) (-1) (if c (k + 3) = 43 then 1 else 0) 1 := by
            by_cases g4 : c (k + 3) = 43
            · rw [if_pos ((lt43 h _).mpr ⟨g3.1, g4⟩)] at e53
              rw [e53, if_pos g4]
            · rw [if_neg (fun q => g4 ((lt43 h _).mp q).2), if_pos ((lt61 h _).mpr ⟨g3.1, g3.2.resolve_left g4⟩)] at e53
              rw [e53, if_neg g4]
          rcases rO_tail h ho g3.1 (show k ≤ k + 3 by omega) q3 hno3 g3.2 R3 with ⟨R', s, j, a1, a2, a3, a4⟩ | ⟨R', e, a1, a2, a3, a4, a5, a6, a7⟩
          · exact Or.inl ⟨R', s, j, hend (m := 3) (by omega) ⟨_, s0, _, s1, _, s2, e53'.trans a1⟩, a2, a3, fun i hi => (a4 i (by omega)).trans (hpr i hi)⟩
          · refine Or.inr ⟨R', e, hend (m := 3) (by omega) ⟨_, s0, _, s1, _, s2, e53'.trans a1⟩, ⟨by omega, a3, fun i h1 h2 => ?_, fun t ht => ?_, a4, g3.2, ?_⟩, a6, fun i hi => (a7 i (by omega)).trans (hpr i hi)⟩
            · rcases (show i = k ∨ i = k + 1 ∨ i = k + 2 ∨ i = k + 3 ∨ i = k + 4 ∨ k + 5 ≤ i by omega) with rfl | rfl | rfl | rfl | rfl | h3
              · omega
              · omega
              · omega
              · omega
              · rcases a5 with ⟨b1, -, -, -⟩ | ⟨-, -, b3⟩
                · have b1' : c (k + 4) = 45 := b1
                  omega
                · have := b3 (k + 4) (by omega) h2
                  omega
              · rcases a5 with ⟨-, -, -, b3⟩ | ⟨-, -, b3⟩
                · have := b3 i (by omega) h2
                  omega
                · have := b3 i (by omega) h2
                  omega
            · rcases (show t = 0 ∨ t = 1 ∨ t = 2 by omega) with rfl | rfl | rfl
              · refine ⟨g0.2, ?_⟩
                rw [a7 _ (by omega), hR3, pk_un (by omega), pk_un (by omega), pk_us]
                rfl
              · refine ⟨g1.2, ?_⟩
                rw [a7 _ (by omega), hR3, pk_un (by omega), pk_us]
              · refine ⟨g2.2, ?_⟩
                rw [a7 _ (by omega), hR3, pk_us]
            · rcases a5 with ⟨b1, b2, b3, b4⟩ | ⟨b1, b2, b3⟩
              · exact Or.inl ⟨b1, b2, b3, b4⟩
              · exact Or.inr ⟨b1, b2, b3⟩
        · rw [if_neg (fun q => g3 (by
            have := (lt43 h _).mp q
            exact ⟨this.1, Or.inl this.2⟩)), if_neg (fun q => g3 (by
            have := (lt61 h _).mp q
            exact ⟨this.1, Or.inr this.2⟩))] at e53
          obtain ⟨R', a1, a2⟩ := j78_W h ho (show k + 4 < 2 ^ 31 by omega) (show k + 3 < 2 ^ 31 by omega) (w_bad (k + 3)) R3 0
          refine Or.inl ⟨R', k + 4, k + 3, hend (m := 3) (by omega) ⟨_, s0, _, s1, _, s2, e53.trans a1⟩, by omega, mkBad (by omega) (by omega) q3 (by omega) hno3 (fun h1 => ?_), fun i hi => (a2 i hi).trans (hpr i hi)⟩
          rw [nx_3, if_neg (fun q => g3 ⟨h1, by omega⟩)]
      · obtain ⟨d, b2⟩ := bad_step h (o := o) (i := 2) (p := k + 2) ho (by omega) (by omega) (fun h1 h2 => g2 ⟨h1, h2⟩) (upd (upd R (5 * o + 0) (nI (c k) - 48)) (5 * o + 1) (nI (c (k + 1)) - 48))
        obtain ⟨R', r1, r2⟩ := fail_run h ho (show k + 3 < 2 ^ 31 by omega) (show k + 2 < 2 ^ 31 by omega) 0 3 (upd (upd (upd R (5 * o + 0) (nI (c k) - 48)) (5 * o + 1) (nI (c (k + 1)) - 48)) (5 * o + 2) d) rfl
        refine Or.inl ⟨R', k + 3, k + 2, hend (m := 3) (by omega) ⟨_, s0, _, s1, _, b2, r1⟩, by omega, mkBad (by omega) (by omega) q2 (by omega) hno2 (fun h1 => nx_dn (by omega) (fun h2 => g2 ⟨h1, h2⟩)), fun i hi => ?_⟩
        rw [r2 i hi, pk_un (by omega), pk_un (by omega), pk_un (by omega)]
    · obtain ⟨d, b1⟩ := bad_step h (o := o) (i := 1) (p := k + 1) ho (by omega) (by omega) (fun h1 h2 => g1 ⟨h1, h2⟩) (upd R (5 * o + 0) (nI (c k) - 48))
      obtain ⟨R', r1, r2⟩ := fail_run h ho (show k + 2 < 2 ^ 31 by omega) (show k + 1 < 2 ^ 31 by omega) 1 2 (upd (upd R (5 * o + 0) (nI (c k) - 48)) (5 * o + 1) d) rfl
      refine Or.inl ⟨R', k + 2, k + 1, hend (m := 3) (by omega) ⟨_, s0, _, b1, r1⟩, by omega, mkBad (by omega) (by omega) q1 (by omega) hno1 (fun h1 => nx_dn (by omega) (fun h2 => g1 ⟨h1, h2⟩)), fun i hi => ?_⟩
      rw [r2 i hi, pk_un (by omega), pk_un (by omega)]
  · obtain ⟨d, b0⟩ := bad_step h (o := o) (i := 0) (p := k) ho (by omega) hk (fun h1 h2 => g0 ⟨h1, h2⟩) R
    obtain ⟨R', r1, r2⟩ := fail_run h ho (show k + 1 < 2 ^ 31 by omega) (show k < 2 ^ 31 by omega) 2 1 (upd R (5 * o + 0) d) rfl
    refine Or.inl ⟨R', k + 1, k, hend (m := 3) (by omega) ⟨_, b0, r1⟩, by omega, mkBad (Nat.le_refl k) hk hq (by omega) hno0 (fun h1 => nx_dn (by omega) (fun h2 => g0 ⟨h1, h2⟩)), fun i hi => ?_⟩
    rw [r2 i hi, pk_un (by omega)]
