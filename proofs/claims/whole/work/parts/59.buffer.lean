/-! pure: texts, the model's reader: the whole text -/
theorem Ord.congr {L : Nat} {c : Nat → Nat} {R R' : Nat → Int32} {o k e : Nat} (h : Ord L c R o k e) (hR : ∀ i, i < 5 * (o + 1) → R' i = R i) : Ord L c R' o k e := by
  obtain ⟨h1, h2, h3, h4, h5, h6, h7⟩ := h
  refine ⟨h1, h2, h3, fun t ht => ⟨(h4 t ht).1, (hR _ (by omega)).trans (h4 t ht).2⟩, (hR _ (by omega)).trans h5, h6, ?_⟩
  rw [hR _ (by omega)]
  exact h7
/-- the orders of the text from a place on, and their rows -/
def OL (L : Nat) (c : Nat → Nat) (R : Nat → Int32) : Nat → Nat → Nat → Prop
  | 0, _, _ => False
  | n + 1, o, k => ∃ e, Ord L c R o k e ∧ ((n = 0 ∧ e = L) ∨ (e < L ∧ c e = 59 ∧ OL L c R n (o + 1) (e + 1)))
theorem rB_end {B : Nat → Int32} {Y : Int32} (R : Nat → Int32) (O S W : Int32) : RS (fun s : Int32 × (Nat → Int32) × Int32 × Int32 × Int32 => f_X8_readBuffer_L17 B Y s.1 s.2.1 s.2.2.1 s.2.2.2.1 s.2.2.2.2) 0 (0, R, O, S, W) (W, R, O, S, W) := by
  show f_X8_readBuffer_L17 B Y 0 R O S W = _
  unfold f_X8_readBuffer_L17
  rw [if_pos rfl]
theorem rB_all {tL Y : Int32} {tS B : Nat → Int32} {L : Nat} {c : Nat → Nat} (h : TX tL tS B Y L c) : ∀ (N o k : Nat) (R : Nat → Int32), L - k < N → k ≤ L → dq c k = 0 → 6 * o ≤ k → (∀ i, i ≤ k → ¬ dq c i = 9) → ∃ t W R' O' S', t ≤ N ∧ RS (fun s : Int32 × (Nat → Int32) × Int32 × Int32 × Int32 => f_X8_readBuffer_L17 B Y s.1 s.2.1 s.2.2.1 s.2.2.2.1 s.2.2.2.2) t (1, R, nI o, nI k, -1) (W, R', O', S', W) ∧ ((∃ j, W = nI j ∧ Bad L c 0 j) ∨ ∃ n, W = -1 ∧ (dq c L = 6 ∨ dq c L = 7 ∨ dq c L = 8) ∧ (∀ i, i ≤ L → ¬ dq c i = 9) ∧ O' = nI (o + n) ∧ o + n ≤ 11 ∧ OL L c R' n o k) ∧ ∀ i, i < 5 * o → R' i = R i := by
  have hL := h.1
  intro N
  induction N with
  | zero => intro o k R hN; omega
  | succ N ih =>
    intro o k R hN hk hq ho hno
    have e0 : ∀ r, f_X8_readOrder B Y R (nI o) (nI k) (-1) = some r → f_X8_readBuffer_L17 B Y 1 R (nI o) (nI k) (-1) = if r.2.2.2 = -1 then if Y ≤ r.2.2.1 then f_X8_readBuffer_J48 B Y r else f_X8_readBuffer_J49 B Y r 1 else f_X8_readBuffer_J48 B Y r := fun r hr => by
      unfold f_X8_readBuffer_L17
      rw [if_neg (by decide), hr, Option.bind_some]
    have e48 : ∀ r, f_X8_readBuffer_J48 B Y r = some (.inl (0, r.1, r.2.1, r.2.2.1, r.2.2.2)) := fun r => by
      unfold f_X8_readBuffer_J48 f_X8_readBuffer_J49
      rw [if_pos rfl]
    rcases rO h (o := o) (by omega) hk hq R with ⟨R', s, j, a1, a2, a3, a4⟩ | ⟨R', e, a1, a2, a3, a4⟩
    · have e1 := e0 _ a1
      rw [if_neg (nI_m1 (by have := a3.2.1; omega)), e48] at e1
      refine ⟨1, nI j, R', nI (o + 1), nI s, by omega, ⟨_, e1, rB_end R' _ _ _⟩, Or.inl ⟨j, rfl, by omega, a3.2.1, fun i h1 h2 => ?_, a3.2.2.2⟩, a4⟩
      rcases (show i ≤ k ∨ k ≤ i by omega) with h3 | h3
      · exact hno i h3
      · exact a3.2.2.1 i h3 h2
    · have e1 := e0 _ a1
      have heL := a2.2.1
      have hno2 : ∀ i, i ≤ e → ¬ dq c i = 9 := fun i h1 => by
        rcases (show i ≤ k ∨ k ≤ i by omega) with h3 | h3
        · exact hno i h3
        · exact a3.1 i h3 h1
      rw [if_pos rfl, h.2.2.1] at e1
      by_cases g : e = L
      · rw [if_pos (nI_le (by omega) (by omega)), ← h.2.2.1, e48] at e1
        refine ⟨1, -1, R', nI (o + 1), nI e, by omega, ⟨_, e1, rB_end R' _ _ _⟩, Or.inr ⟨1, rfl, by rw [← g]; exact a3.2.1, by rw [← g]; exact hno2, rfl, by omega, e, a2, Or.inl ⟨rfl, g⟩⟩, a4⟩
      · have he : e < L := by omega
        rw [if_neg (nI_ge he (by omega))] at e1
        have n1 := a3.2.2 he
        unfold f_X8_readBuffer_J49 f_X8_readBuffer_J69 f_X8_readBuffer_J85 at e1
        rw [if_neg (by decide)] at e1
        dsimp only at e1
        rw [← h.2.2.1, p_letter h (by omega), Option.bind_some, w_ok (by decide), w_bad] at e1
        dsimp only at e1
        by_cases g2 : c e = 59
        · rw [if_pos ((lt59 h e).mpr ⟨he, g2⟩), if_pos rfl] at e1
          rw [if_pos g2] at n1
          have hk5 := a2.1
          obtain ⟨t, W, R'', O', S', b1, b2, b3, b4⟩ := ih (o + 1) (e + 1) R' (by omega) (by omega) n1 (by omega) (fun i h1 => by
            rcases (show i ≤ e ∨ i = e + 1 by omega) with h3 | rfl
            · exact hno2 i h3
            · rw [dq_s, n1]; omega)
          refine ⟨t + 1, W, R'', O', S', by omega, ⟨_, e1, b2⟩, ?_, fun i hi => (b4 i (by omega)).trans (a4 i hi)⟩
          rcases b3 with b3 | ⟨n, c1, c2, c3, c4, c5, c6⟩
          · exact Or.inl b3
          · exact Or.inr ⟨n + 1, c1, c2, c3, by rw [c4]; exact congrArg nI (by omega), by omega, e, a2.congr b4, Or.inr ⟨he, g2, c6⟩⟩
        · rw [if_neg (fun q => g2 ((lt59 h e).mp q).2), if_neg (nI_m1 (by omega))] at e1
          rw [if_neg g2] at n1
          exact ⟨1, nI e, R', nI (o + 1), nI (e + 1), by omega, ⟨_, e1, rB_end R' _ _ _⟩, Or.inl ⟨e, rfl, by omega, heL, fun i _ h2 => hno2 i h2, fun _ => by rw [dq_s, n1], fun q => absurd q g⟩, a4⟩
/-- the model's reader: what it says of a text -/
theorem p8_readBuffer {tL Y : Int32} {tS B : Nat → Int32} {L : Nat} {c : Nat → Nat} (h : TX tL tS B Y L c) (R : Nat → Int32) : ∃ W R' O' S', f_X8_readBuffer B Y R = some (W, R', O', S', W) ∧ ((∃ j, W = nI j ∧ Bad L c 0 j) ∨ ∃ n, W = -1 ∧ (dq c L = 6 ∨ dq c L = 7 ∨ dq c L = 8) ∧ (∀ i, i ≤ L → ¬ dq c i = 9) ∧ O' = nI n ∧ n ≤ 11 ∧ OL L c R' n 0 0) := by
  have hL := h.1
  obtain ⟨t, W, R', O', S', h1, h2, h3, -⟩ := rB_all h (L + 1) 0 0 R (by omega) (by omega) rfl (by omega) (fun i hi => by
    rw [show i = 0 by omega]
    show ¬ (0 : Nat) = 9
    omega)
  refine ⟨W, R', O', S', h2.it (by omega), ?_⟩
  simp only [Nat.zero_add] at h3
  exact h3
theorem o_firstError {tL Y : Int32} {tS B : Nat → Int32} (h : TR tL tS B Y) (R : Nat → Int32) : ∃ s R' O' S' W', f_X7_firstError tL tS = some s ∧ f_X8_firstError B Y R = some (s, 0, R', O', S', W') := by
  obtain ⟨L, c, h⟩ := h
  have hL := h.1
  obtain ⟨W, R', O', S', e1, e2⟩ := p8_readBuffer h R
  unfold f_X7_firstError f_X8_firstError
  rw [e1, Option.bind_some]
  rcases e2 with ⟨j, rfl, -, b2, b3, b4, b5⟩ | ⟨n, rfl, b1, b2, -⟩
  · rw [if_neg (nI_m1 (by omega))]
    by_cases g : j < L
    · rw [p_findH h g (fun k hk => b3 (k + 1) (by omega) (by omega)) (b4 g)]
      exact ⟨_, _, _, _, _, rfl, rfl⟩
    · rw [p_findN h (fun k hk => b3 (k + 1) (by omega) (by omega)), show j = L by omega]
      exact ⟨_, _, _, _, _, rfl, rfl⟩
  · rw [if_pos rfl, p_findN h (fun k hk => b2 (k + 1) (by omega)), h.2.2.1]
    exact ⟨_, _, _, _, _, rfl, rfl⟩
