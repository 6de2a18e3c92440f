/-! pure: read, both sides -/
theorem rd_all {tL Y : Int32} {tS B : Nat → Int32} {L : Nat} {c : Nat → Nat} (h : TX tL tS B Y L c) {R : Nat → Int32} {w : Nat → Int32} {n a m : Nat} (r28 : Int32 × Int32 × (Nat → SV)) (W S : Int32) (r27 : (Nat → Int32) × Int32) (T : Nat) (hT : T ≤ 11) : ∀ (q o k : Nat) (v z : Nat → Int32), OL L c R q o k → CR z v w n a m → o + q = T → k ≤ L → ∃ t7 t8 i v' z', t7 ≤ 100 * q + 100 ∧ t8 ≤ q ∧ RS (fun s : Int32 × Int32 × Int32 × (Nat → Int32) => f_X7_read_L37 (nI n) tL tS r28 s.1 s.2.1 s.2.2.1 s.2.2.2) t7 (nI o, nI k, nI k, v) (.inr (nI i, v', r28.1, r28.2.1, r28.2.2, 0)) ∧ RS (fun s : Int32 × (Nat → Int32) => f_X8_read_L32 (W, R, nI T, S, W) r27 0 s.1 s.2) t8 (nI o, z) (nI i, 0, z', r27.1, r27.2, 0, R, nI T, S, W) ∧ CR z' v' w n a m := by
  have hL := h.1
  intro q
  induction q with
  | zero => intro o k v z h0; exact h0.elim
  | succ q ih =>
    intro o k v z hO hc hq hk
    obtain ⟨e, hord, hend⟩ := hO
    have h1 := hord.1
    have h2 := hord.2.1
    have h3 := hord.2.2.1
    have he : e = L ∨ (e < L ∧ c e = 59) := by
      rcases hend with ⟨-, q1⟩ | ⟨q1, q2, -⟩
      · exact Or.inl q1
      · exact Or.inr ⟨q1, q2⟩
    have hw : ∀ {t : Nat} {r}, RS (fun s : Int32 × Int32 × Int32 × (Nat → Int32) => f_X7_read_L37 (nI n) tL tS r28 s.1 s.2.1 s.2.2.1 s.2.2.2) t (nI o, nI k, nI e, v) r → RS (fun s : Int32 × Int32 × Int32 × (Nat → Int32) => f_X7_read_L37 (nI n) tL tS r28 s.1 s.2.1 s.2.2.1 s.2.2.2) (t + (e - k)) (nI o, nI k, nI k, v) r := fun hr => rd_walk h (e - k) k (fun i i1 i2 => ⟨by omega, h3 i i1 (by omega)⟩) (by rw [show k + (e - k) = e by omega]; exact hr)
    have e7 := rd_at h (D := nI n) (r28 := r28) (C := nI o) (st := nI k) (v := v) he
    have e8 : f_X8_read_L32 (W, R, nI T, S, W) r27 0 (nI o) z = Option.bind (f_X8_does (nI o) z R) (fun r42 => if r42.1 = 0 then (f_X8_read_J54 r42.2 (W, R, nI T, S, W) r27 0 (nI o)) else some (.inl ((nI o + 1), r42.2))) := by
      unfold f_X8_read_L32
      rw [if_neg (nI_ge (by omega) (by omega))]
    unfold f_X7_read_J72 at e7
    rcases o_do h hord (by omega) hc with ⟨d1, d2⟩ | ⟨v', z', d, hd, d1, d2, hc'⟩
    · rw [d1, Option.bind_some, if_pos rfl] at e7
      rw [d2, Option.bind_some, if_pos rfl] at e8
      exact ⟨0 + (e - k), 0, o, v, z, by omega, by omega, hw e7, e8, hc⟩
    · rw [d1, Option.bind_some, if_neg (show ¬ (1 : Int32) = 0 by decide)] at e7
      rw [d2, Option.bind_some, if_neg hd] at e8
      unfold f_X7_read_J91 at e7
      dsimp only at e7 e8
      rw [nI_1, nI_1] at e7
      rw [nI_1] at e8
      rcases hend with ⟨q1, q2⟩ | ⟨q1, q2, q3⟩
      · refine ⟨1 + (e - k), 1, o + 1, v', z', by omega, by omega, hw ⟨_, e7, ?_⟩, ⟨_, e8, ?_⟩, hc'⟩
        · show f_X7_read_L37 (nI n) tL tS r28 (nI (o + 1)) (nI (e + 1)) (nI (e + 1)) v' = _
          unfold f_X7_read_L37
          rw [h.2.1, if_pos (nI_lt (by omega) (by omega))]
          rfl
        · show f_X8_read_L32 (W, R, nI T, S, W) r27 0 (nI (o + 1)) z' = _
          unfold f_X8_read_L32
          rw [if_pos (nI_le (by omega) (by omega))]
          rfl
      · obtain ⟨t7, t8, i, v2, z2, b1, b2, b3, b4, b5⟩ := ih (o + 1) (e + 1) v' z' q3 hc' (by omega) (by omega)
        exact ⟨t7 + 1 + (e - k), t8 + 1, i, v2, z2, by omega, by omega, hw ⟨_, e7, b3⟩, ⟨_, e8, b4⟩, b5⟩
theorem o_read {tL Y : Int32} {tS B : Nat → Int32} (hx : TR tL tS B Y) {z v w U : Nat → Int32} {n a m : Nat} {oO oS V : Int32} {hv : Nat → SV} (h : CR z v w n a m) (hh : HR oO oS hv U V) (R : Nat → Int32) : (∃ R' O' S' W', f_X7_read (nI n) (nI a) (nI m) v w oO oS hv tL tS = some (.inl 2) ∧ f_X8_read z U V B Y R = some (0, 1, z, U, V, Y, R', O', S', W')) ∨ ∃ s v' O S H z' U' V' R' O' S' W', f_X7_read (nI n) (nI a) (nI m) v w oO oS hv tL tS = some (.inr (s, v', O, S, H, 0)) ∧ f_X8_read z U V B Y R = some (s, 0, z', U', V', 0, R', O', S', W') ∧ CR z' v' w n a m ∧ HR O S H U' V' := by
  obtain ⟨L, c, hx⟩ := hx
  have hL := hx.1
  obtain ⟨W, R', O', S', e1, e2⟩ := p8_readBuffer hx R
  unfold f_X7_read f_X8_read f_X8_read_J14
  rw [e1, Option.bind_some, p_tells hx, Option.bind_some]
  rcases e2 with ⟨j, rfl, -, b2, b3, b4, b5⟩ | ⟨q, rfl, b1, b2, rfl, b3, b4⟩
  · have hno : ¬ (dq c L = 6 ∨ dq c L = 7 ∨ dq c L = 8) := by
      rcases (show j < L ∨ j = L by omega) with g | g
      · have := dq_9 (b4 g) (L - (j + 1))
        rw [show j + 1 + (L - (j + 1)) = L by omega] at this
        omega
      · exact b5 g
    rw [if_neg hno, if_pos rfl, if_neg (nI_m1 (by omega)), if_neg (show ¬ (1 : Int32) ≤ 0 by decide)]
    exact Or.inl ⟨_, _, _, _, rfl, rfl⟩
  · obtain ⟨O, S, H, U', V', d1, d2, d3⟩ := o_save h hh
    obtain ⟨t7, t8, i, v2, z2, c1, c2, c3, c4, c5⟩ := rd_all hx (O, S, H) (-1) S' (U', V') q b3 q 0 0 v z b4 h (by omega) (by omega)
    rw [if_pos b1, if_neg (show ¬ (1 : Int32) = 0 by decide), if_pos rfl, if_pos (show (0 : Int32) ≤ 0 by decide), d1, d2, Option.bind_some, Option.bind_some]
    exact Or.inr ⟨nI i, v2, O, S, H, z2, U', V', R', nI q, S', -1, c3.it (by omega), c4.it (by omega), c5, d3⟩
