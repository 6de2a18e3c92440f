/-! pure: texts, the model's reader: letters, digits, numbers -/
def ltN (L : Nat) (c : Nat → Nat) (k : Nat) : Int32 := if k < L then nI (c k) else -1
theorem p_letter {tL Y : Int32} {tS B : Nat → Int32} {L : Nat} {c : Nat → Nat} (h : TX tL tS B Y L c) {k : Nat} (hk : k < 2 ^ 31) : f_X8_letter B Y (nI k) = some (ltN L c k) := by
  obtain ⟨h1, -, rfl, h4⟩ := h
  unfold f_X8_letter ltN
  by_cases e : k < L
  · rw [if_neg (nI_ge e (by omega)), if_pos e, dz_in_nI _ (by omega) (by decide), nI_clamp (by omega), (h4 k e).2.1]
  · rw [if_pos (nI_le (by omega) (by omega)), if_neg e]
theorem w_ok {p : Int32} (hp : ¬ p = 0) (k : Nat) : f_X8_wants p (nI k) (-1) = (nI (k + 1), -1) := by
  unfold f_X8_wants f_X8_wants_J21
  rw [if_pos rfl, if_neg hp, nI_1]
theorem w_bad (k : Nat) : f_X8_wants 0 (nI k) (-1) = (nI (k + 1), nI k) := by
  unfold f_X8_wants f_X8_wants_J21
  rw [if_pos rfl, if_pos rfl, nI_1]
theorem w_fail (p : Int32) (s : Nat) {j : Nat} (hj : j < 2 ^ 31) : f_X8_wants p (nI s) (nI j) = (nI s, nI j) := by
  unfold f_X8_wants
  rw [if_neg (nI_m1 hj)]
theorem in_all : ∀ x : Fin 127, f_X8_in (nI x.1 - 48) 0 7 = (if 48 ≤ x.1 ∧ x.1 ≤ 55 then 1 else 0) ∧ f_X8_in (nI x.1 - 48) 0 9 = (if 48 ≤ x.1 ∧ x.1 ≤ 57 then 1 else 0) := by decide +kernel
theorem in7_y {x : Nat} (h : 48 ≤ x ∧ x ≤ 55) : f_X8_in (nI x - 48) 0 7 = 1 := (in_all ⟨x, by omega⟩).1.trans (if_pos h)
theorem in9_y {x : Nat} (h : 48 ≤ x ∧ x ≤ 57) : f_X8_in (nI x - 48) 0 9 = 1 := (in_all ⟨x, by omega⟩).2.trans (if_pos h)
theorem in7_n {tL Y : Int32} {tS B : Nat → Int32} {L : Nat} {c : Nat → Nat} (h : TX tL tS B Y L c) {k : Nat} (hn : k < L → ¬ (48 ≤ c k ∧ c k ≤ 55)) : f_X8_in (ltN L c k - 48) 0 7 = 0 := by
  unfold ltN
  by_cases e : k < L
  · have := (h.2.2.2 k e).2.2.2
    rw [if_pos e]
    exact (in_all ⟨c k, by omega⟩).1.trans (if_neg (hn e))
  · rw [if_neg e]
    decide
theorem in9_n {tL Y : Int32} {tS B : Nat → Int32} {L : Nat} {c : Nat → Nat} (h : TX tL tS B Y L c) {k : Nat} (hn : k < L → ¬ (48 ≤ c k ∧ c k ≤ 57)) : f_X8_in (ltN L c k - 48) 0 9 = 0 := by
  unfold ltN
  by_cases e : k < L
  · have := (h.2.2.2 k e).2.2.2
    rw [if_pos e]
    exact (in_all ⟨c k, by omega⟩).2.trans (if_neg (hn e))
  · rw [if_neg e]
    decide
theorem lt_in {L : Nat} (c : Nat → Nat) {k : Nat} (hk : k < L) : ltN L c k = nI (c k) := if_pos hk
theorem d_ok {tL Y : Int32} {tS B : Nat → Int32} {L : Nat} {c : Nat → Nat} (h : TX tL tS B Y L c) {k : Nat} (hk : k < L) (hd : 48 ≤ c k ∧ c k ≤ 55) : f_X8_digit B Y (nI k) (-1) = some (nI (c k) - 48, nI (k + 1), -1) := by
  have hL := h.1
  unfold f_X8_digit
  rw [p_letter h (by omega), Option.bind_some, lt_in c hk, in7_y hd, w_ok (by decide)]
theorem d_bad {tL Y : Int32} {tS B : Nat → Int32} {L : Nat} {c : Nat → Nat} (h : TX tL tS B Y L c) {k : Nat} (hk : k ≤ L) (hn : k < L → ¬ (48 ≤ c k ∧ c k ≤ 55)) : ∃ d, f_X8_digit B Y (nI k) (-1) = some (d, nI (k + 1), nI k) := by
  have hL := h.1
  refine ⟨ltN L c k - 48, ?_⟩
  unfold f_X8_digit
  rw [p_letter h (by omega), Option.bind_some, in7_n h hn, w_bad]
theorem d_fail {tL Y : Int32} {tS B : Nat → Int32} {L : Nat} {c : Nat → Nat} (h : TX tL tS B Y L c) {s j : Nat} (hs : s < 2 ^ 31) (hj : j < 2 ^ 31) : ∃ d, f_X8_digit B Y (nI s) (nI j) = some (d, nI s, nI j) := by
  refine ⟨ltN L c s - 48, ?_⟩
  unfold f_X8_digit
  rw [p_letter h hs, Option.bind_some, w_fail _ s hj]
theorem n_fail {tL Y : Int32} {tS B : Nat → Int32} {L : Nat} {c : Nat → Nat} (h : TX tL tS B Y L c) {s j : Nat} (hs : s < 2 ^ 31) (hj : j < 2 ^ 31) : ∃ d, f_X8_number B Y (nI s) (nI j) = some (d, nI s, nI j) := by
  refine ⟨ltN L c s - 48, ?_⟩
  unfold f_X8_number
  rw [p_letter h hs, Option.bind_some, w_fail _ s hj, p_letter h hs, Option.bind_some]
  refine RS.it (k := 0) ?_ (by omega)
  show f_X8_number_L27 B Y (nI s) (nI j) _ _ _ (nI s) = _
  unfold f_X8_number_L27
  rw [w_fail _ s hj, if_neg (nI_m1 hj)]
theorem n_bad {tL Y : Int32} {tS B : Nat → Int32} {L : Nat} {c : Nat → Nat} (h : TX tL tS B Y L c) {k : Nat} (hk : k ≤ L) (hn : k < L → ¬ (48 ≤ c k ∧ c k ≤ 57)) : ∃ d, f_X8_number B Y (nI k) (-1) = some (d, nI (k + 1), nI k) := by
  have hL := h.1
  refine ⟨ltN L c k - 48, ?_⟩
  unfold f_X8_number
  rw [p_letter h (by omega), Option.bind_some, in9_n h hn, w_bad, p_letter h (by omega), Option.bind_some]
  refine RS.it (k := 0) ?_ (by omega)
  show f_X8_number_L27 B Y (nI k) (-1) (ltN L c k) _ _ (nI (k + 1)) = _
  unfold f_X8_number_L27
  rw [in9_n h hn, w_bad, if_neg (nI_m1 (by omega))]
/-- the number that some digits tell -/
def dvN (c : Nat → Nat) (k : Nat) : Nat → Nat
  | 0 => 0
  | t + 1 => 10 * dvN c k t + (c (k + t) - 48)
theorem l_stop {tL Y : Int32} {tS B : Nat → Int32} {L : Nat} {c : Nat → Nat} (h : TX tL tS B Y L c) {k x p : Nat} (hk : 48 ≤ c k ∧ c k ≤ 57) (hn : p < L → ¬ (48 ≤ c p ∧ c p ≤ 57)) : f_X8_number_L27 B Y (nI k) (-1) (nI (c k)) (nI x) (ltN L c p - 48) (nI p) = some (.inr (nI x, nI p, -1)) := by
  unfold f_X8_number_L27
  rw [in9_y hk, w_ok (by decide), if_pos rfl, in9_n h hn, if_pos rfl]
  split <;> rfl
theorem l_big {tL Y : Int32} {tS B : Nat → Int32} {L : Nat} {c : Nat → Nat} (h : TX tL tS B Y L c) {k x p : Nat} (hk : 48 ≤ c k ∧ c k ≤ 57) (hx : 100 ≤ x) (hx2 : x ≤ 999) : f_X8_number_L27 B Y (nI k) (-1) (nI (c k)) (nI x) (ltN L c p - 48) (nI p) = some (.inr (nI x, nI p, -1)) := by
  by_cases hp : p < L ∧ (48 ≤ c p ∧ c p ≤ 57)
  · unfold f_X8_number_L27
    rw [in9_y hk, w_ok (by decide), if_pos rfl, lt_in c hp.1, in9_y hp.2, if_neg (nI_nle (by omega) (by omega)), if_neg (show ¬ (1 : Int32) = 0 by decide), show (48 : Int32) = nI 48 from rfl, pk_sub hp.2.1, show (10 : Int32) = nI 10 from rfl, pk_mul, nI_add, if_pos (show (999 : Int32) < nI (10 * x + (c p - 48)) from nI_lt (a := 999) (by omega) (by omega))]
  · exact l_stop h hk (fun q r => hp ⟨q, r⟩)
theorem l_step {tL Y : Int32} {tS B : Nat → Int32} {L : Nat} {c : Nat → Nat} (h : TX tL tS B Y L c) {k x p : Nat} (hk : 48 ≤ c k ∧ c k ≤ 57) (hp : p < L) (hd : 48 ≤ c p ∧ c p ≤ 57) (hx : 1 ≤ x) (hx2 : x ≤ 99) : f_X8_number_L27 B Y (nI k) (-1) (nI (c k)) (nI x) (ltN L c p - 48) (nI p) = some (.inl (nI (10 * x + (c p - 48)), ltN L c (p + 1) - 48, nI (p + 1))) := by
  have hL := h.1
  unfold f_X8_number_L27
  rw [in9_y hk, w_ok (by decide), if_pos rfl, lt_in c hp, in9_y hd, if_neg (nI_nle (by omega) (by omega)), if_neg (show ¬ (1 : Int32) = 0 by decide), nI_1, p_letter h (by omega), Option.bind_some, show nI (c p) - 48 = nI (c p - 48) from pk_sub (b := 48) hd.1, show (10 : Int32) = nI 10 from rfl, pk_mul, nI_add, if_neg (show ¬ (999 : Int32) < nI (10 * x + (c p - 48)) from nI_nlt (a := 999) (by omega) (by omega))]
theorem nx_dig {q x : Nat} (hq : q = 4 ∨ q = 5) (hx : 48 ≤ x ∧ x ≤ 57) : nxN q x = if x = 48 then 8 else 6 := by
  unfold nxN fdN
  rcases hq with rfl | rfl
  · rw [if_neg (by omega), if_neg (by omega), if_pos rfl, if_neg (by omega)]
    by_cases e : x = 48
    · rw [if_pos e, if_pos e]
    · rw [if_neg e, if_neg e, if_pos (by omega)]
  · rw [if_neg (by omega), if_neg (by omega), if_neg (by omega), if_pos rfl]
    by_cases e : x = 48
    · rw [if_pos e, if_pos e]
    · rw [if_neg e, if_neg e, if_pos (by omega)]
theorem nx_more {q x : Nat} (hq : q = 6 ∨ q = 7) (hx : 48 ≤ x ∧ x ≤ 57) : nxN q x = q + 1 := by
  unfold nxN
  rw [if_neg (by omega), if_neg (by omega), if_neg (by omega), if_neg (by omega), if_pos hq, if_pos hx]
theorem nx_end {q x : Nat} (hq : q = 6 ∨ q = 7 ∨ q = 8) (hx : q = 8 ∨ ¬ (48 ≤ x ∧ x ≤ 57)) : nxN q x = if x = 59 then 0 else 9 := by
  unfold nxN
  rw [if_neg (by omega), if_neg (by omega), if_neg (by omega), if_neg (by omega)]
  by_cases e : q = 6 ∨ q = 7
  · rw [if_pos e, if_neg (by omega)]
  · rw [if_neg e, if_pos (by omega)]
theorem n_ok {tL Y : Int32} {tS B : Nat → Int32} {L : Nat} {c : Nat → Nat} (h : TX tL tS B Y L c) {k : Nat} (hk : k < L) (hd : 48 ≤ c k ∧ c k ≤ 57) (hq : dq c k = 4 ∨ dq c k = 5) : ∃ e, k < e ∧ e ≤ L ∧ f_X8_number B Y (nI k) (-1) = some (nI (dvN c k (e - k)), nI e, -1) ∧ (∀ i, k ≤ i → i < e → 48 ≤ c i ∧ c i ≤ 57) ∧ (∀ i, k ≤ i → i ≤ e → ¬ dq c i = 9) ∧ (dq c e = 6 ∨ dq c e = 7 ∨ dq c e = 8) ∧ (e < L → nxN (dq c e) (c e) = if c e = 59 then 0 else 9) := by
  have hL := h.1
  have v1 : dvN c k 1 = c k - 48 := by
    show 10 * 0 + (c (k + 0) - 48) = _
    rw [Nat.add_zero]
    omega
  have v2 : dvN c k 2 = 10 * (c k - 48) + (c (k + 1) - 48) := by
    show 10 * dvN c k 1 + (c (k + 1) - 48) = _
    rw [v1]
  have v3 : dvN c k 3 = 10 * (10 * (c k - 48) + (c (k + 1) - 48)) + (c (k + 2) - 48) := by
    show 10 * dvN c k 2 + (c (k + 2) - 48) = _
    rw [v2]
  have q1 : dq c (k + 1) = if c k = 48 then 8 else 6 := nx_dig hq hd
  have hnum : ∀ {r : Int32 × Int32 × Int32} {t : Nat}, t < 10 → RS (fun s : Int32 × Int32 × Int32 => f_X8_number_L27 B Y (nI k) (-1) (nI (c k)) s.1 s.2.1 s.2.2) t (nI (c k - 48), ltN L c (k + 1) - 48, nI (k + 1)) r → f_X8_number B Y (nI k) (-1) = some r := by
    intro r t ht hr
    unfold f_X8_number
    rw [p_letter h (by omega), Option.bind_some, lt_in c hk, in9_y hd, w_ok (by decide), p_letter h (by omega), Option.bind_some, show nI (c k) - 48 = nI (c k - 48) from pk_sub (b := 48) hd.1]
    exact hr.it (by omega)
  by_cases h0 : c k = 48
  · rw [if_pos h0] at q1
    refine ⟨k + 1, by omega, by omega, ?_, ?_, ?_, Or.inr (Or.inr q1), fun _ => nx_end (Or.inr (Or.inr q1)) (Or.inl q1)⟩
    · rw [Nat.add_sub_cancel_left, v1]
      refine hnum (t := 0) (by omega) ?_
      show f_X8_number_L27 B Y (nI k) (-1) (nI (c k)) (nI (c k - 48)) _ (nI (k + 1)) = _
      unfold f_X8_number_L27
      rw [in9_y hd, w_ok (by decide), if_pos rfl, if_pos (show nI (c k - 48) ≤ 0 by rw [h0]; decide)]
    · intro i h1 h2
      rw [show i = k by omega]
      exact hd
    · intro i h1 h2
      rcases (show i = k ∨ i = k + 1 by omega) with rfl | rfl
      · omega
      · omega
  · rw [if_neg h0] at q1
    by_cases g1 : k + 1 < L ∧ (48 ≤ c (k + 1) ∧ c (k + 1) ≤ 57)
    · have q2 : dq c (k + 2) = 7 := (nx_more (Or.inl q1) g1.2).trans (by rw [q1])
      by_cases g2 : k + 2 < L ∧ (48 ≤ c (k + 2) ∧ c (k + 2) ≤ 57)
      · have q3 : dq c (k + 3) = 8 := (nx_more (Or.inr q2) g2.2).trans (by rw [q2])
        refine ⟨k + 3, by omega, by omega, ?_, ?_, ?_, Or.inr (Or.inr q3), fun _ => nx_end (Or.inr (Or.inr q3)) (Or.inl q3)⟩
        · rw [Nat.add_sub_cancel_left, v3]
          refine hnum (t := 2) (by omega) ⟨_, l_step h hd g1.1 g1.2 (by omega) (by omega), _, l_step (p := k + 2) h hd g2.1 g2.2 (by omega) (by omega), l_big h hd (by omega) (by omega)⟩
        · intro i h1 h2
          rcases (show i = k ∨ i = k + 1 ∨ i = k + 2 by omega) with rfl | rfl | rfl
          · exact hd
          · exact g1.2
          · exact g2.2
        · intro i h1 h2
          rcases (show i = k ∨ i = k + 1 ∨ i = k + 2 ∨ i = k + 3 by omega) with rfl | rfl | rfl | rfl <;> omega
      · refine ⟨k + 2, by omega, by omega, ?_, ?_, ?_, Or.inr (Or.inl q2), fun r => nx_end (Or.inr (Or.inl q2)) (Or.inr (fun q => g2 ⟨r, q⟩))⟩
        · rw [Nat.add_sub_cancel_left, v2]
          refine hnum (t := 1) (by omega) ⟨_, l_step h hd g1.1 g1.2 (by omega) (by omega), l_stop h hd (fun r q => g2 ⟨r, q⟩)⟩
        · intro i h1 h2
          rcases (show i = k ∨ i = k + 1 by omega) with rfl | rfl
          · exact hd
          · exact g1.2
        · intro i h1 h2
          rcases (show i = k ∨ i = k + 1 ∨ i = k + 2 by omega) with rfl | rfl | rfl <;> omega
    · refine ⟨k + 1, by omega, by omega, ?_, ?_, ?_, Or.inl q1, fun r => nx_end (Or.inl q1) (Or.inr (fun q => g1 ⟨r, q⟩))⟩
      · rw [Nat.add_sub_cancel_left, v1]
        exact hnum (t := 0) (by omega) (l_stop h hd (fun r q => g1 ⟨r, q⟩))
      · intro i h1 h2
        rw [show i = k by omega]
        exact hd
      · intro i h1 h2
        rcases (show i = k ∨ i = k + 1 by omega) with rfl | rfl <;> omega
