/-! pure: texts, the model's reader: one order -/
theorem pres2 {R : Nat → Int32} {a b : Nat} {x y : Int32} {n : Nat} (ha : n ≤ a) (hb : n ≤ b) : ∀ i, i < n → upd (upd R a x) b y i = R i := fun i hi => by
  rw [pk_un (by omega), pk_un (by omega)]
theorem j144 {o : Nat} (ho : o ≤ 10) (R : Nat → Int32) (r : Int32 × Int32 × Int32) (x y : Int32) : f_X8_readOrder_J144 (nI o) R r x y = some (.inr (upd (upd R (5 * o + 3) y) (5 * o + 4) x, nI (o + 1), r.2.1, r.2.2)) := by
  unfold f_X8_readOrder_J144
  rw [show (5 : Int32) = nI 5 from rfl, show (4 : Int32) = nI 4 from rfl, show (3 : Int32) = nI 3 from rfl, pk_mul, nI_add, nI_add, dz_in_nI _ (by omega) (by decide), nI_clamp (by omega), nI_clamp (by omega), nI_1]
theorem j78_W {tL Y : Int32} {tS B : Nat → Int32} {L : Nat} {c : Nat → Nat} (h : TX tL tS B Y L c) {o s j : Nat} (ho : o ≤ 10) (hs : s < 2 ^ 31) (hj : j < 2 ^ 31) {S W s78 : Int32} (hw : f_X8_wants s78 S W = (nI s, nI j)) (R : Nat → Int32) (s53 : Int32) : ∃ R', f_X8_readOrder_J78 B Y (nI o) R S W s53 s78 = some (.inr (R', nI (o + 1), nI s, nI j)) ∧ ∀ i, i < 5 * o → R' i = R i := by
  obtain ⟨d, hd⟩ := n_fail h hs hj
  refine ⟨upd (upd R (5 * o + 3) s53) (5 * o + 4) d, ?_, pres2 (by omega) (by omega)⟩
  unfold f_X8_readOrder_J78 f_X8_readOrder_J102 f_X8_readOrder_J103 f_X8_readOrder_J118
  rw [hw, if_neg (nI_m1 hj), if_pos rfl]
  dsimp only
  rw [Int32.add_zero, hd, Option.bind_some, if_pos rfl, j144 ho]
theorem j78_ok {tL Y : Int32} {tS B : Nat → Int32} {L : Nat} {c : Nat → Nat} (h : TX tL tS B Y L c) {o k : Nat} (ho : o ≤ 10) (hk : k ≤ 60) (R : Nat → Int32) (s53 : Int32) : f_X8_readOrder_J78 B Y (nI o) R (nI k) (-1) s53 1 = if ltN L c (k + 1) = 45 then (f_X8_number B Y (nI (k + 2)) (-1)).bind (fun r => some (.inr (upd (upd R (5 * o + 3) s53) (5 * o + 4) (-r.1), nI (o + 1), r.2.1, r.2.2))) else (f_X8_number B Y (nI (k + 1)) (-1)).bind (fun r => some (.inr (upd (upd R (5 * o + 3) s53) (5 * o + 4) r.1, nI (o + 1), r.2.1, r.2.2))) := by
  unfold f_X8_readOrder_J78 f_X8_readOrder_J102 f_X8_readOrder_J103 f_X8_readOrder_J118
  rw [w_ok (by decide), if_pos rfl]
  dsimp only
  rw [p_letter h (by omega), Option.bind_some, Int32.add_zero, nI_1]
  simp only [j144 ho, if_true]
  by_cases e : ltN L c (k + 1) = 45
  · rw [if_pos e, if_pos e, if_neg (by decide)]
    refine congrArg _ (funext fun r => ?_)
    rw [if_neg (by decide)]
  · rw [if_neg e, if_neg e]
theorem j53 {tL Y : Int32} {tS B : Nat → Int32} {L : Nat} {c : Nat → Nat} (h : TX tL tS B Y L c) {o k : Nat} (ho : o ≤ 10) (hk : k < 2 ^ 31) (R : Nat → Int32) (W : Int32) : f_X8_readOrder_L9 B Y (nI o) (nI 3) R (nI k) W = if ltN L c k = 43 then f_X8_readOrder_J78 B Y (nI o) R (nI k) W 1 1 else if ltN L c k = 61 then f_X8_readOrder_J78 B Y (nI o) R (nI k) W 0 1 else f_X8_readOrder_J78 B Y (nI o) R (nI k) W 0 0 := by
  unfold f_X8_readOrder_L9 f_X8_readOrder_J53 f_X8_readOrder_J73
  rw [if_pos (by decide), p_letter h hk, Option.bind_some, Option.bind_some, Option.bind_some, show (5 : Int32) = nI 5 from rfl, show (3 : Int32) = nI 3 from rfl, pk_mul, nI_add, dz_in_nI _ (by omega) (by decide)]
  by_cases e : ltN L c k = 43
  · rw [if_pos e, if_pos e, if_pos e]
  · rw [if_neg e, if_neg e, dz_in_nI _ (by omega) (by decide), Option.bind_some, if_neg e, Option.bind_some]
theorem fail_run {tL Y : Int32} {tS B : Nat → Int32} {L : Nat} {c : Nat → Nat} (h : TX tL tS B Y L c) {o s j : Nat} (ho : o ≤ 10) (hs : s < 2 ^ 31) (hj : j < 2 ^ 31) : ∀ (m i : Nat) (R : Nat → Int32), i + m = 3 → ∃ R', RS (fun s : Int32 × (Nat → Int32) × Int32 × Int32 => f_X8_readOrder_L9 B Y (nI o) s.1 s.2.1 s.2.2.1 s.2.2.2) m (nI i, R, nI s, nI j) (R', nI (o + 1), nI s, nI j) ∧ ∀ i, i < 5 * o → R' i = R i := by
  intro m
  induction m with
  | zero =>
    intro i R hi
    have hw := fun p => w_fail p s hj
    obtain ⟨R1, a1, b1⟩ := j78_W h ho hs hj (hw 1) R 1
    obtain ⟨R2, a2, b2⟩ := j78_W h ho hs hj (hw 1) R 0
    obtain ⟨R3, a3, b3⟩ := j78_W h ho hs hj (hw 0) R 0
    have e := j53 h ho hs R (nI j)
    rw [a1, a2, a3] at e
    rw [show i = 3 by omega]
    by_cases q : ltN L c s = 43
    · rw [if_pos q] at e
      exact ⟨R1, e, b1⟩
    · rw [if_neg q] at e
      by_cases q2 : ltN L c s = 61
      · rw [if_pos q2] at e
        exact ⟨R2, e, b2⟩
      · rw [if_neg q2] at e
        exact ⟨R3, e, b3⟩
  | succ m ih =>
    intro i R hi
    obtain ⟨d, hd⟩ := d_fail h hs hj
    obtain ⟨R', r1, r2⟩ := ih (i + 1) (upd R (5 * o + i) d) (by omega)
    refine ⟨R', ⟨_, ?_, r1⟩, fun k hk => ?_⟩
    · show f_X8_readOrder_L9 B Y (nI o) (nI i) R (nI s) (nI j) = _
      unfold f_X8_readOrder_L9
      rw [if_neg (show ¬ (3 : Int32) ≤ nI i from nI_ge (b := 3) (by omega) (by decide)), hd, Option.bind_some, show (5 : Int32) = nI 5 from rfl, pk_mul, nI_add, dz_in_nI _ (by omega) (by decide), nI_clamp (by omega), nI_1]
    · rw [r2 k hk, pk_un (by omega)]
/-- a digit of an order read -/
theorem ok_step {tL Y : Int32} {tS B : Nat → Int32} {L : Nat} {c : Nat → Nat} (h : TX tL tS B Y L c) {o i p : Nat} (ho : o ≤ 10) (hi : i < 3) (hp : p < L) (hd : 48 ≤ c p ∧ c p ≤ 55) (R : Nat → Int32) : f_X8_readOrder_L9 B Y (nI o) (nI i) R (nI p) (-1) = some (.inl (nI (i + 1), upd R (5 * o + i) (nI (c p) - 48), nI (p + 1), -1)) := by
  unfold f_X8_readOrder_L9
  rw [if_neg (show ¬ (3 : Int32) ≤ nI i from nI_ge (b := 3) (by omega) (by decide)), d_ok h hp hd, Option.bind_some, show (5 : Int32) = nI 5 from rfl, pk_mul, nI_add, dz_in_nI _ (by omega) (by decide), nI_clamp (by omega), nI_1]
theorem bad_step {tL Y : Int32} {tS B : Nat → Int32} {L : Nat} {c : Nat → Nat} (h : TX tL tS B Y L c) {o i p : Nat} (ho : o ≤ 10) (hi : i < 3) (hp : p ≤ L) (hd : p < L → ¬ (48 ≤ c p ∧ c p ≤ 55)) (R : Nat → Int32) : ∃ d, f_X8_readOrder_L9 B Y (nI o) (nI i) R (nI p) (-1) = some (.inl (nI (i + 1), upd R (5 * o + i) d, nI (p + 1), nI p)) := by
  obtain ⟨d, h1⟩ := d_bad h hp hd
  refine ⟨d, ?_⟩
  unfold f_X8_readOrder_L9
  rw [if_neg (show ¬ (3 : Int32) ≤ nI i from nI_ge (b := 3) (by omega) (by decide)), h1, Option.bind_some, show (5 : Int32) = nI 5 from rfl, pk_mul, nI_add, dz_in_nI _ (by omega) (by decide), nI_clamp (by omega), nI_1]
/-- an order of the text and its row -/
def Ord (L : Nat) (c : Nat → Nat) (R : Nat → Int32) (o k e : Nat) : Prop := k + 5 ≤ e ∧ e ≤ L ∧ (∀ i, k ≤ i → i < e → ¬ c i = 59) ∧ (∀ t, t < 3 → (48 ≤ c (k + t) ∧ c (k + t) ≤ 55) ∧ R (5 * o + t) = nI (c (k + t)) - 48) ∧ R (5 * o + 3) = (if c (k + 3) = 43 then 1 else 0) ∧ (c (k + 3) = 43 ∨ c (k + 3) = 61) ∧ ((c (k + 4) = 45 ∧ k + 6 ≤ e ∧ R (5 * o + 4) = -nI (dvN c (k + 5) (e - (k + 5))) ∧ ∀ i, k + 5 ≤ i → i < e → 48 ≤ c i ∧ c i ≤ 57) ∨ (¬ c (k + 4) = 45 ∧ R (5 * o + 4) = nI (dvN c (k + 4) (e - (k + 4))) ∧ ∀ i, k + 4 ≤ i → i < e → 48 ≤ c i ∧ c i ≤ 57))
/-- the reader fails at a place, as the signs do -/
def Bad (L : Nat) (c : Nat → Nat) (k j : Nat) : Prop := k ≤ j ∧ j ≤ L ∧ (∀ i, k ≤ i → i ≤ j → ¬ dq c i = 9) ∧ (j < L → dq c (j + 1) = 9) ∧ (j = L → ¬ (dq c L = 6 ∨ dq c L = 7 ∨ dq c L = 8))
def Good (L : Nat) (c : Nat → Nat) (k e : Nat) : Prop := (∀ i, k ≤ i → i ≤ e → ¬ dq c i = 9) ∧ (dq c e = 6 ∨ dq c e = 7 ∨ dq c e = 8) ∧ (e < L → nxN (dq c e) (c e) = if c e = 59 then 0 else 9)
theorem nx_d {q x : Nat} (hq : q ≤ 2) (hx : 48 ≤ x ∧ x ≤ 55) : nxN q x = q + 1 := by
  unfold nxN
  rw [if_pos hq, if_pos hx]
theorem nx_dn {q x : Nat} (hq : q ≤ 2) (hx : ¬ (48 ≤ x ∧ x ≤ 55)) : nxN q x = 9 := by
  unfold nxN
  rw [if_pos hq, if_neg hx]
theorem nx_3 {x : Nat} : nxN 3 x = if x = 61 ∨ x = 43 then 4 else 9 := by
  unfold nxN
  rw [if_neg (by omega), if_pos rfl]
theorem nx_nd {q x : Nat} (hq : q = 4 ∨ q = 5) (hx : ¬ (48 ≤ x ∧ x ≤ 57)) (h45 : q = 4 → ¬ x = 45) : nxN q x = 9 := by
  unfold nxN fdN
  rcases hq with rfl | rfl
  · rw [if_neg (by omega), if_neg (by omega), if_pos rfl, if_neg (h45 rfl), if_neg (by omega), if_neg (by omega)]
  · rw [if_neg (by omega), if_neg (by omega), if_neg (by omega), if_pos rfl, if_neg (by omega), if_neg (by omega)]
theorem nx_45 : nxN 4 45 = 5 := rfl
theorem lt_eq {tL Y : Int32} {tS B : Nat → Int32} {L : Nat} {c : Nat → Nat} (h : TX tL tS B Y L c) {k x : Nat} (hx : x ≤ 126) : ltN L c k = nI x ↔ k < L ∧ c k = x := by
  unfold ltN
  by_cases e : k < L
  · have := (h.2.2.2 k e).2.2.2
    rw [if_pos e, nI_eq (by omega) (by omega)]
    exact ⟨fun q => ⟨e, q⟩, fun q => q.2⟩
  · rw [if_neg e]
    exact ⟨fun q => absurd q.symm (nI_m1 (by omega)), fun q => absurd q.1 e⟩
