/-! pure: texts, the class's side -/
/-- a loop that ends after a number of turns -/
def RS {σ ε : Type} (b : σ → Option (σ ⊕ ε)) : Nat → σ → ε → Prop
  | 0, s, e => b s = some (.inr e)
  | k + 1, s, e => ∃ s', b s = some (.inl s') ∧ RS b k s' e
theorem RS.seq {σ ε : Type} {b : σ → Option (σ ⊕ ε)} : ∀ {k : Nat} {s : σ} {e : ε}, RS b k s e → ∃ q : Nat → σ, q 0 = s ∧ (∀ i, i < k → b (q i) = some (.inl (q (i + 1)))) ∧ b (q k) = some (.inr e) := by
  intro k
  induction k with
  | zero => intro s e h; exact ⟨fun _ => s, rfl, fun i hi => absurd hi (Nat.not_lt_zero i), h⟩
  | succ k ih =>
    intro s e h
    obtain ⟨s', h1, h2⟩ := h
    obtain ⟨q, q0, q1, q2⟩ := ih h2
    refine ⟨fun i => match i with | 0 => s | i + 1 => q i, rfl, fun i hi => ?_, q2⟩
    cases i with
    | zero =>
      show b s = some (.inl (q 0))
      rw [q0]
      exact h1
    | succ i => exact q1 i (by omega)
theorem RS.it {σ ε : Type} {b : σ → Option (σ ⊕ ε)} {k : Nat} {s : σ} {e : ε} (h : RS b k s e) (hk : k < 10000000) : dz_it b s = some e := by
  obtain ⟨q, q0, q1, q2⟩ := h.seq
  exact dz_it_count q k q0.symm hk q1 q2
/-- the texts of both sides: the same signs -/
def TX (tL : Int32) (tS B : Nat → Int32) (Y : Int32) (L : Nat) (c : Nat → Nat) : Prop := L ≤ 60 ∧ tL = nI L ∧ Y = nI L ∧ ∀ k, k < L → tS k = nI (c k) ∧ B k = nI (c k) ∧ 33 ≤ c k ∧ c k ≤ 126
def TR (tL : Int32) (tS B : Nat → Int32) (Y : Int32) : Prop := ∃ L c, TX tL tS B Y L c
def fdN (x : Nat) : Nat := if x = 48 then 8 else if 49 ≤ x ∧ x ≤ 57 then 6 else 9
def nxN (q x : Nat) : Nat := if q ≤ 2 then (if 48 ≤ x ∧ x ≤ 55 then q + 1 else 9) else if q = 3 then (if x = 61 ∨ x = 43 then 4 else 9) else if q = 4 then (if x = 45 then 5 else fdN x) else if q = 5 then fdN x else if q = 6 ∨ q = 7 then (if 48 ≤ x ∧ x ≤ 57 then q + 1 else if x = 59 then 0 else 9) else if q = 8 then (if x = 59 then 0 else 9) else 9
theorem nx_all : ∀ q : Fin 10, ∀ x : Fin 127, f_X6_next (nI q.1) (nI x.1) = nI (nxN q.1 x.1) ∧ nxN q.1 x.1 < 10 := by decide +kernel
theorem p_nx {q x : Nat} (hq : q < 10) (hx : x < 127) : f_X6_next (nI q) (nI x) = nI (nxN q x) := (nx_all ⟨q, hq⟩ ⟨x, hx⟩).1
theorem nx_lt {q x : Nat} (hq : q < 10) (hx : x < 127) : nxN q x < 10 := (nx_all ⟨q, hq⟩ ⟨x, hx⟩).2
/-- the state after some signs -/
def dq (c : Nat → Nat) : Nat → Nat
  | 0 => 0
  | k + 1 => nxN (dq c k) (c k)
theorem dq_s (c : Nat → Nat) (k : Nat) : dq c (k + 1) = nxN (dq c k) (c k) := rfl
theorem p_sign {tL Y : Int32} {tS B : Nat → Int32} {L : Nat} {c : Nat → Nat} (h : TX tL tS B Y L c) {k : Nat} (hk : k < L) : f_X6_sign (nI k) tL tS = nI (c k) := by
  obtain ⟨h1, rfl, -, h4⟩ := h
  unfold f_X6_sign
  rw [if_neg (nI_ge hk (by omega)), p_cell _ (by omega) (by decide), (h4 k hk).1]
theorem dq_lt {tL Y : Int32} {tS B : Nat → Int32} {L : Nat} {c : Nat → Nat} (h : TX tL tS B Y L c) : ∀ k, k ≤ L → dq c k < 10 := by
  intro k
  induction k with
  | zero => intro _; exact (show 0 < 10 by decide)
  | succ k ih =>
    intro hk
    have := (h.2.2.2 k (by omega)).2.2.2
    exact nx_lt (ih (by omega)) (by omega)
theorem dq_9 {c : Nat → Nat} {k : Nat} (h : dq c k = 9) : ∀ d, dq c (k + d) = 9 := by
  intro d
  induction d with
  | zero => exact h
  | succ d ih =>
    show nxN (dq c (k + d)) (c (k + d)) = 9
    rw [ih]
    rfl
theorem p_find_s {tL Y : Int32} {tS B : Nat → Int32} {L : Nat} {c : Nat → Nat} (h : TX tL tS B Y L c) {k : Nat} (hk : k < L) : f_X6_findError_L4 tL tS (nI (dq c k)) (nI k) = if dq c (k + 1) = 9 then some (.inr (nI k)) else some (.inl (nI (dq c (k + 1)), nI (k + 1))) := by
  have hq := dq_lt h k (by omega)
  have hc := (h.2.2.2 k hk).2.2.2
  have hq2 := dq_lt h (k + 1) hk
  unfold f_X6_findError_L4
  rw [p_sign h hk, p_nx hq (by omega), nI_1, h.2.1, if_neg (nI_ge hk (by have := h.1; omega)), ← dq_s]
  by_cases e : dq c (k + 1) = 9
  · rw [if_pos e, if_pos (by rw [e]; rfl)]
  · rw [if_neg e, if_neg (show ¬ nI (dq c (k + 1)) = 9 from fun q => e ((nI_eq (b := 9) (by omega) (by decide)).mp q))]
theorem p_findN {tL Y : Int32} {tS B : Nat → Int32} {L : Nat} {c : Nat → Nat} (h : TX tL tS B Y L c) (hn : ∀ k, k < L → ¬ dq c (k + 1) = 9) : f_X6_findError tL tS = some (nI L) := by
  have hL := h.1
  refine dz_it_count (fun k => (nI (dq c k), nI k)) L rfl (by omega) (fun k hk => ?_) ?_
  · exact (p_find_s h hk).trans (if_neg (hn k hk))
  · show f_X6_findError_L4 tL tS _ (nI L) = _
    unfold f_X6_findError_L4
    rw [h.2.1, if_pos (nI_le (Nat.le_refl _) (by omega))]
theorem p_findH {tL Y : Int32} {tS B : Nat → Int32} {L : Nat} {c : Nat → Nat} (h : TX tL tS B Y L c) {j : Nat} (hj : j < L) (hn : ∀ k, k < j → ¬ dq c (k + 1) = 9) (h9 : dq c (j + 1) = 9) : f_X6_findError tL tS = some (nI j) := by
  have hL := h.1
  refine dz_it_count (fun k => (nI (dq c k), nI k)) j rfl (by omega) (fun k hk => ?_) ?_
  · exact (p_find_s h (by omega)).trans (if_neg (hn k hk))
  · exact (p_find_s h hj).trans (if_pos h9)
theorem p_tells {tL Y : Int32} {tS B : Nat → Int32} {L : Nat} {c : Nat → Nat} (h : TX tL tS B Y L c) : f_X6_tellsPoints tL tS = some (if dq c L = 6 ∨ dq c L = 7 ∨ dq c L = 8 then 1 else 0) := by
  have hL := h.1
  have hq := dq_lt h L (Nat.le_refl L)
  refine dz_it_count (fun k => (nI (dq c k), nI k)) L rfl (by omega) (fun k hk => ?_) ?_
  · show f_X6_tellsPoints_L4 tL tS (nI (dq c k)) (nI k) = some (Sum.inl (nI (dq c (k + 1)), nI (k + 1)))
    have hc := (h.2.2.2 k hk).2.2.2
    unfold f_X6_tellsPoints_L4
    rw [p_sign h hk, p_nx (dq_lt h k (by omega)) (by omega), nI_1, h.2.1, if_neg (nI_ge hk (by omega)), ← dq_s]
  · show f_X6_tellsPoints_L4 tL tS (nI (dq c L)) (nI L) = _
    have e6 : nI (dq c L) = 6 ↔ dq c L = 6 := nI_eq (b := 6) (by omega) (by decide)
    have e7 : nI (dq c L) = 7 ↔ dq c L = 7 := nI_eq (b := 7) (by omega) (by decide)
    have e8 : nI (dq c L) = 8 ↔ dq c L = 8 := nI_eq (b := 8) (by omega) (by decide)
    unfold f_X6_tellsPoints_L4 f_X6_tellsPoints_J46
    rw [h.2.1, if_pos (nI_le (Nat.le_refl _) (by omega))]
    by_cases q6 : dq c L = 6
    · rw [if_pos (e6.mpr q6), if_pos (Or.inl q6)]
    · rw [if_neg (fun q => q6 (e6.mp q))]
      by_cases q7 : dq c L = 7
      · rw [if_pos (e7.mpr q7), if_pos (Or.inr (Or.inl q7))]
      · rw [if_neg (fun q => q7 (e7.mp q))]
        by_cases q8 : dq c L = 8
        · rw [if_pos (e8.mpr q8), if_pos (Or.inr (Or.inr q8))]
        · rw [if_neg (fun q => q8 (e8.mp q)), if_neg (fun q => q.elim q6 (fun q => q.elim q7 q8))]
theorem o_append {tL Y : Int32} {tS B : Nat → Int32} (h : TR tL tS B Y) (p : Int32) : (f_X7_append p tL tS = .inl 2 ∧ f_X8_append p B Y = some (0, 1, B, Y)) ∨ (f_X7_append p tL tS = .inl 3 ∧ f_X8_append p B Y = some (0, 2, B, Y)) ∨ ∃ s l t B' Y', f_X7_append p tL tS = .inr (s, l, t) ∧ f_X8_append p B Y = some (s, 0, B', Y') ∧ TR l t B' Y' := by
  obtain ⟨L, c, h1, rfl, rfl, h4⟩ := h
  unfold f_X7_append f_X8_append f_X8_append_J30 f_X8_in f_X8_in_J14
  by_cases q1 : p < 33
  · rw [if_pos q1, if_pos q1, if_pos rfl, if_neg (by decide)]
    exact Or.inl ⟨rfl, rfl⟩
  · rw [if_neg q1, if_neg q1]
    by_cases q2 : p ≤ 126
    · rw [if_pos q2, if_neg (Int32.not_lt.mpr q2), if_neg (show ¬ (1 : Int32) = 0 by decide)]
      by_cases q3 : L < 60
      · rw [if_pos (show nI L < 60 from nI_lt (b := 60) q3 (by decide)), if_neg (show ¬ nI L = 60 from fun q => by have := (nI_eq (b := 60) (by omega) (by decide)).mp q; omega), if_pos (show (0 : Int32) ≤ 0 by decide), dz_in_nI _ q3 (by decide), nI_clamp (by omega), nI_1]
        unfold f_X6_attach
        rw [p_setCell _ _ q3 (by decide), nI_1]
        have a1 := Int32.le_iff_toInt_le.mp (Int32.not_lt.mp q1)
        have a2 := Int32.le_iff_toInt_le.mp q2
        have e1 : (33 : Int32).toInt = 33 := rfl
        have e0 : (0 : Int32).toInt = 0 := rfl
        have hp : ¬ p < 0 := fun q => by
          have := Int32.lt_iff_toInt_lt.mp q
          omega
        obtain ⟨j, hj, rfl⟩ := nI_of2 (M := 126) (n := 126) rfl hp q2
        have hj2 := nI_toInt (n := j) (by omega)
        refine Or.inr (Or.inr ⟨_, _, _, _, _, rfl, rfl, L + 1, fun k => if k = L then j else c k, by omega, rfl, rfl, fun k hk => ?_⟩)
        show upd tS L (nI j) k = nI (if k = L then j else c k) ∧ upd B L (nI j) k = nI (if k = L then j else c k) ∧ 33 ≤ (if k = L then j else c k) ∧ (if k = L then j else c k) ≤ 126
        by_cases e : k = L
        · rw [e, pk_us, pk_us, if_pos rfl]
          exact ⟨rfl, rfl, by omega, hj⟩
        · rw [pk_un e, pk_un e, if_neg e]
          exact h4 k (by omega)
      · have e : L = 60 := by omega
        rw [if_neg (show ¬ nI L < 60 from nI_nlt (b := 60) (by omega) (by omega)), if_pos (show nI L = 60 by rw [e]; rfl), if_neg (show ¬ (2 : Int32) ≤ 0 by decide)]
        exact Or.inr (Or.inl ⟨rfl, rfl⟩)
    · rw [if_neg q2, if_pos (Int32.not_le.mp q2), if_pos rfl, if_neg (by decide)]
      exact Or.inl ⟨rfl, rfl⟩
theorem o_clearBuffer {tL Y : Int32} {tS B : Nat → Int32} (h : TR tL tS B Y) : ∃ s, f_X7_clearBuffer tL = (s, 0) ∧ f_X8_clearBuffer Y = (s, 0, 0) ∧ TR 0 tS B 0 := by
  obtain ⟨L, c, h1, rfl, rfl, h4⟩ := h
  exact ⟨nI L, rfl, rfl, 0, c, by omega, rfl, rfl, fun k hk => absurd hk (Nat.not_lt_zero k)⟩
