/-! pure: read, the loops -/
theorem rd_walk {tL Y : Int32} {tS B : Nat → Int32} {L : Nat} {c : Nat → Nat} (h : TX tL tS B Y L c) {D : Int32} {r28 : Int32 × Int32 × (Nat → SV)} {C st : Int32} {v : Nat → Int32} {t : Nat} {r : Nat ⊕ (Int32 × (Nat → Int32) × Int32 × Int32 × (Nat → SV) × Int32)} : ∀ (m p : Nat), (∀ i, p ≤ i → i < p + m → i < L ∧ ¬ c i = 59) → RS (fun s : Int32 × Int32 × Int32 × (Nat → Int32) => f_X7_read_L37 D tL tS r28 s.1 s.2.1 s.2.2.1 s.2.2.2) t (C, st, nI (p + m), v) r → RS (fun s : Int32 × Int32 × Int32 × (Nat → Int32) => f_X7_read_L37 D tL tS r28 s.1 s.2.1 s.2.2.1 s.2.2.2) (t + m) (C, st, nI p, v) r := by
  have hL := h.1
  intro m
  induction m with
  | zero => intro p _ hr; exact hr
  | succ m ih =>
    intro p hp hr
    obtain ⟨p1, p2⟩ := hp p (by omega) (by omega)
    have hc := (h.2.2.2 p p1).2.2.2
    refine ⟨(C, st, nI (p + 1), v), ?_, ih (p + 1) (fun i h1 h2 => hp i (by omega) (by omega)) (by rw [show p + 1 + m = p + (m + 1) by omega]; exact hr)⟩
    show f_X7_read_L37 D tL tS r28 C st (nI p) v = _
    unfold f_X7_read_L37 f_X7_read_J91
    rw [p_sign h p1, h.2.1, if_neg (nI_nlt (by omega) (by omega)), if_neg (fun q => by have := (nI_eq (by omega) (by omega)).mp q; omega), if_neg (show ¬ nI (c p) = 59 from fun q => p2 ((nI_eq (b := 59) (by omega) (by decide)).mp q)), nI_1]
theorem rd_at {tL Y : Int32} {tS B : Nat → Int32} {L : Nat} {c : Nat → Nat} (h : TX tL tS B Y L c) {D : Int32} {r28 : Int32 × Int32 × (Nat → SV)} {C st : Int32} {v : Nat → Int32} {e : Nat} (he : e = L ∨ (e < L ∧ c e = 59)) : f_X7_read_L37 D tL tS r28 C st (nI e) v = f_X7_read_J72 D tL tS r28 v C st (nI e) := by
  have hL := h.1
  unfold f_X7_read_L37
  rcases he with rfl | ⟨h1, h2⟩
  · rw [h.2.1, if_neg (nI_nlt (Nat.le_refl _) (by omega)), if_pos rfl]
  · rw [p_sign h h1, h2, if_pos (show nI 59 = 59 from rfl)]
    rw [h.2.1, if_neg (nI_nlt (by omega) (by omega)), if_neg (fun q => by have := (nI_eq (by omega) (by omega)).mp q; omega)]
