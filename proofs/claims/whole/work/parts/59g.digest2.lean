/-! pure: the digest, both sides, the rest -/
/-! what would be -/
def gR (v : Nat → Int32) (n m : Nat) (h : Int64) : Nat → Int64 := mx (fun k => Int32.toInt64 (rBy v n k (nI m))) h
def gIx (v : Nat → Int32) (n a m : Nat) (c k : Int32) : Int64 := Int32.toInt64 (iTold v n a (nI m) 0 1 0 c k)
def gJx (v : Nat → Int32) (n a m : Nat) (h : Int64) : Int64 := 31 * (31 * (31 * (31 * h + gIx v n a m 7 0) + gIx v n a m 7 1) + gIx v n a m 0 0) + gIx v n a m 0 1
def gK (v : Nat → Int32) (n : Nat) (h : Int64) : Nat → Int64 := mx (fun k => Int32.toInt64 (eTold v n (nI k))) h
def gH (v : Nat → Int32) (n : Nat) (h : Int64) : Nat → Int64 := mx (fun k => Int32.toInt64 (hTold v n (nI k))) h
theorem w7_ifKept {n k : Nat} (hn2 : 2 ≤ n) (hn : n ≤ 8) (hk : k < 3) (m : Nat) (v : Nat → Int32) (lD : Int32) (lS lF lG lR : Nat → Int32) : ∃ t, f_X7_ifKept (nI k) (nI n) (nI m) v lD lS lF lG lR = some (.inr (rBy v n k (nI m), t)) := by
  unfold f_X7_ifKept
  rw [if_neg (show ¬ f_X7_isAxis (nI k) = 0 from a3 (P := fun k => ¬ f_X7_isAxis (nI k) = 0) (by decide) (by decide) (by decide) hk), p_roomBy hn2 hn hk, ob_some]
  exact ⟨_, rfl⟩
theorem w150 {n a m : Nat} (hn2 : 2 ≤ n) (hn : n ≤ 8) (ha : a < 3) (v : Nat → Int32) {b : Int64} (hb : f_X7_bitsOf (shrV v n a (nI m)) = some b) (r103 : Int32 × (Nat → Int32) × (Nat → Int32) × (Nat → Int32) × (Nat → Int32) × Int32 × Int32 × Int32) (r144 : Int32 × Int32 × Int32 × Int32) (r83 : Int32 × (Nat → Int32) × Int32 × (Nat → Int32) × (Nat → Int32) × (Nat → Int32) × (Nat → Int32)) (h83 : r83.2.1 = v) (h144 : ∀ p, f_X1_told p r144.1 r144.2.1 r144.2.2.1 r144.2.2.2 = hTold v n p) (H : Int64) :
    ∃ t, dz_it (fun s : Int64 × Int32 => f_X7_withWhatWouldBe_L150 (nI n) (nI a) (nI m) r103 r144 r83 s.1 s.2) (H, 0) = some (.inr (.inr (31 * gH v n H 4 + b, v, t))) := by
  obtain ⟨t, ht⟩ := p_share hn2 hn ha (nI m) v r103.1 r103.2.1 r103.2.2.1 r103.2.2.2.1 r103.2.2.2.2.1
  refine ⟨?_, dz_it_count (fun k => (gH v n H k, nI k)) 4 rfl (by omega) (fun k hk => ?_) ?_⟩
  · exact (t.1, t.2.1, t.2.2.1, t.2.2.2.1, t.2.2.2.2, r103.2.2.2.2.2.1, r103.2.2.2.2.2.2.1, r103.2.2.2.2.2.2.2, r144.1, r144.2.1, r144.2.2.1, r144.2.2.2)
  · show f_X7_withWhatWouldBe_L150 _ _ _ _ _ _ (gH v n H k) (nI k) = _
    unfold f_X7_withWhatWouldBe_L150
    rw [if_neg (show ¬ (3 : Int32) < nI k from nI_nlt (a := 3) (by omega) (by omega)), h144, m7, nI_1]
    rfl
  · show f_X7_withWhatWouldBe_L150 _ _ _ _ _ _ (gH v n H 4) (nI 4) = _
    unfold f_X7_withWhatWouldBe_L150
    rw [if_pos (show (3 : Int32) < nI 4 by decide), h83, ht, ob_some, hb, ob_some, m7]
theorem w109 {n a m : Nat} (hn2 : 2 ≤ n) (hn : n ≤ 8) (ha : a < 3) (v : Nat → Int32) (hv : Bd v n) {b : Int64} (hb : f_X7_bitsOf (shrV v n a (nI m)) = some b) (hA hF hL : Int32) (r103 : Int32 × (Nat → Int32) × (Nat → Int32) × (Nat → Int32) × (Nat → Int32) × Int32 × Int32 × Int32) (r83 : Int32 × (Nat → Int32) × Int32 × (Nat → Int32) × (Nat → Int32) × (Nat → Int32) × (Nat → Int32)) (h83 : r83.2.1 = v) (h103 : ∀ p, f_X3_told p r103.2.2.2.2.2.1 r103.2.2.2.2.2.2.1 r103.2.2.2.2.2.2.2 = eTold v n p) (H : Int64) :
    ∃ t, dz_it (fun s : Int64 × Int32 => f_X7_withWhatWouldBe_L109 (nI n) (nI a) (nI m) hA hF hL r103 r83 s.1 s.2) (H, 0) = some (.inr (31 * gH v n (gK v n H 3) 4 + b, v, t)) := by
  have hnn : n * n ≤ 64 := Nat.mul_le_mul hn hn
  have h0 : 0 < n * n := Nat.mul_pos (by omega) (by omega)
  obtain ⟨r144, hr⟩ : ∃ r, r = fN (cStep v n) (hA, hF, hL, -1000000) (3 * (n * n)) := ⟨_, rfl⟩
  have h144 : ∀ p, f_X1_told p r144.1 r144.2.1 r144.2.2.1 r144.2.2.2 = hTold v n p := by
    intro p
    obtain ⟨b, w, e1, e2, _⟩ := h_same hv hn2 hn hA hF hL (3 * (n * n) - 1)
    rw [show 3 * (n * n) - 1 + 1 = 3 * (n * n) by omega] at e1 e2
    unfold hTold
    rw [hr, e2, e1]
  obtain ⟨t, ht⟩ := w150 hn2 hn ha v hb r103 r144 r83 h83 h144 (gK v n H 3)
  refine ⟨t, dz_it_count (fun k => (gK v n H k, nI k)) 3 rfl (by omega) (fun k hk => ?_) ?_⟩
  · show f_X7_withWhatWouldBe_L109 _ _ _ _ _ _ _ _ (gK v n H k) (nI k) = _
    unfold f_X7_withWhatWouldBe_L109
    rw [if_neg (show ¬ (2 : Int32) < nI k from nI_nlt (a := 2) (by omega) (by omega)), h103, m7, nI_1]
    rfl
  · show f_X7_withWhatWouldBe_L109 _ _ _ _ _ _ _ _ (gK v n H 3) (nI 3) = _
    unfold f_X7_withWhatWouldBe_L109
    rw [if_pos (show (2 : Int32) < nI 3 by decide), h83, p_hlook hn2 hn, ob_some, ← hr, ht]
theorem p_withWhat {n a m : Nat} (hn2 : 2 ≤ n) (hn : n ≤ 8) (ha : a < 3) (v : Nat → Int32) (hv : Bd v n) {b : Int64} (hb : f_X7_bitsOf (shrV v n a (nI m)) = some b) (hA hF hL eA eM lD : Int32) (lS lF lG lR : Nat → Int32) (H : Int64) :
    ∃ t, f_X7_withWhatWouldBe H (nI n) (nI a) (nI m) v lD lS lF lG lR eA eM hA hF hL = some (31 * gH v n (gK v n (gJx v n a m (gR v n m H 3)) 3) 4 + b, v, t) := by
  have : ∃ e, f_X7_withWhatWouldBe H (nI n) (nI a) (nI m) v lD lS lF lG lR eA eM hA hF hL = some e ∧ e.1 = 31 * gH v n (gK v n (gJx v n a m (gR v n m H 3)) 3) 4 + b ∧ e.2.1 = v := by
    unfold f_X7_withWhatWouldBe
    refine dz_it_inv (fun k s => s.1 = gR v n m H k ∧ s.2.1 = nI k) 3 (by omega) (fun k s hk hI => ?_) (fun s hI => ?_) ⟨rfl, rfl⟩
    · obtain ⟨s1, s2, s3, s4, s5, s6, s7⟩ := s
      obtain ⟨rfl, rfl⟩ := hI
      obtain ⟨t, ht⟩ := w7_ifKept hn2 hn hk m v s3 s4 s5 s6 s7
      show ∃ s', f_X7_withWhatWouldBe_L5 (nI n) (nI a) (nI m) v eA eM hA hF hL (gR v n m H k) (nI k) s3 s4 s5 s6 s7 = _ ∧ _
      unfold f_X7_withWhatWouldBe_L5
      rw [if_neg (show ¬ (3 : Int32) ≤ nI k from nI_ge (b := 3) hk (by omega)), ht, ob_some, dz_ok_inr, m7, nI_1]
      exact ⟨_, rfl, rfl, rfl⟩
    · obtain ⟨s1, s2, s3, s4, s5, s6, s7⟩ := s
      obtain ⟨rfl, rfl⟩ := hI
      have i7 : ¬ f_X7_isNumber 7 = 0 := by decide
      have i0 : ¬ f_X7_isNumber 0 = 0 := by decide
      have n0 : ¬ (0 : Int32) < 0 := by decide
      have n1 : ¬ (1 : Int32) < 0 := by decide
      have l0 : (0 : Int32) ≤ 1 := by decide
      have l1 : (1 : Int32) ≤ 1 := by decide
      have q0 : 0 < n := by omega
      have q1 : 1 < n := by omega
      obtain ⟨t1, h1⟩ := p7_ifPut (v := v) hn2 hn ha q0 q1 q0 7 0 (nI m) i7 n0 l0 s3 s4 s5 s6 s7
      obtain ⟨t2, h2⟩ := p7_ifPut (v := v) hn2 hn ha q0 q1 q0 7 1 (nI m) i7 n1 l1 t1.1 t1.2.1 t1.2.2.1 t1.2.2.2.1 t1.2.2.2.2
      obtain ⟨t3, h3⟩ := p7_ifPut (v := v) hn2 hn ha q0 q1 q0 0 0 (nI m) i0 n0 l0 t2.1 t2.2.1 t2.2.2.1 t2.2.2.2.1 t2.2.2.2.2
      obtain ⟨t4, h4⟩ := p7_ifPut (v := v) hn2 hn ha q0 q1 q0 0 1 (nI m) i0 n1 l1 t3.1 t3.2.1 t3.2.2.1 t3.2.2.2.1 t3.2.2.2.2
      obtain ⟨c, hc⟩ := p_look3 (v := v) hn2 hn t4.1 t4.2.1 t4.2.2.1 t4.2.2.2.1 t4.2.2.2.2 eA eM
      have hs := (b_same (R := fun a k => rBy v n a (nI k)) (fun a k => rBy_le hn2 hn v a _) eA eM 191).1
      rw [show (191 + 1 : Nat) = 192 from rfl] at hs
      rw [hs] at hc
      obtain ⟨Bq, hBq⟩ : ∃ B, B = fN (bMtep (fun a k => rBy v n a (nI k))) (-1, -1, -1) 192 := ⟨_, rfl⟩
      rw [← hBq] at hc
      have hE : ∀ p, f_X3_told p Bq.1 Bq.2.1 Bq.2.2 = eTold v n p := fun p => by
        unfold eTold
        rw [hBq]
      obtain ⟨t, ht⟩ := w109 hn2 hn ha v hv hb hA hF hL (c.1, c.2.1, c.2.2.1, c.2.2.2.1, c.2.2.2.2, Bq) (iTold v n a (nI m) 0 1 0 0 1, v, t4) rfl hE (gJx v n a m (gR v n m H 3))
      show ∃ s', f_X7_withWhatWouldBe_L5 (nI n) (nI a) (nI m) v eA eM hA hF hL (gR v n m H 3) (nI 3) s3 s4 s5 s6 s7 = _ ∧ _
      unfold f_X7_withWhatWouldBe_L5
      rw [if_pos (show (3 : Int32) ≤ nI 3 by decide)]
      rw [show f_X7_ifPut 0 1 0 7 0 (nI n) (nI a) (nI m) v s3 s4 s5 s6 s7 = _ from h1, ob_some, dz_ok_inr]
      rw [show f_X7_ifPut 0 1 0 7 1 (nI n) (nI a) (nI m) v t1.1 t1.2.1 t1.2.2.1 t1.2.2.2.1 t1.2.2.2.2 = _ from h2, ob_some, dz_ok_inr]
      rw [show f_X7_ifPut 0 1 0 0 0 (nI n) (nI a) (nI m) v t2.1 t2.2.1 t2.2.2.1 t2.2.2.2.1 t2.2.2.2.2 = _ from h3, ob_some, dz_ok_inr]
      rw [show f_X7_ifPut 0 1 0 0 1 (nI n) (nI a) (nI m) v t3.1 t3.2.1 t3.2.2.1 t3.2.2.2.1 t3.2.2.2.2 = _ from h4, ob_some, dz_ok_inr]
      rw [hc, ob_some]
      exact ⟨_, ht, rfl, rfl⟩
  obtain ⟨⟨e1, e2, e3⟩, h1, h2, h3⟩ := this
  exact ⟨e3, by rw [h1, show e1 = _ from h2, show e2 = _ from h3]⟩
/-! the text -/
def gTx (c : Nat → Nat) (L : Nat) (h : Int64) : Int64 := mx (fun k => Int32.toInt64 (nI (c k))) h L
theorem p_withText {tL : Int32} {tS B : Nat → Int32} {Y : Int32} {L : Nat} {c : Nat → Nat} (h : TX tL tS B Y L c) (H : Int64) : f_X7_withText H tL tS = some (gTx c L (31 * H + Int32.toInt64 (nI L))) := by
  obtain ⟨h1, rfl, -, h4⟩ := h
  refine dz_it_count (fun k => (mx (fun k => Int32.toInt64 (nI (c k))) (31 * H + Int32.toInt64 (nI L)) k, nI k)) L rfl (by omega) (fun k hk => ?_) ?_
  · show f_X7_withText_L16 _ _ (mx (fun k => Int32.toInt64 (nI (c k))) (31 * H + Int32.toInt64 (nI L)) k) (nI k) = _
    unfold f_X7_withText_L16 f_X6_sign
    rw [if_neg (nI_ge hk (by omega)), if_neg (nI_ge hk (by omega)), p_cell _ (by omega) (by omega), (h4 k hk).1, m7, nI_1]
    rfl
  · show f_X7_withText_L16 _ _ _ (nI L) = _
    unfold f_X7_withText_L16
    rw [if_pos (nI_le (Nat.le_refl L) (by omega))]
    rfl
/-! the class's digest -/
def gA (v : Nat → Int32) (n a m : Nat) (s : Int32) : Nat → Int64 := mx (fun k => Int32.toInt64 (cTold v n a (nI m) s k)) 2861
theorem p_digest {z v w : Nat → Int32} {n a m : Nat} {tL : Int32} {tS B : Nat → Int32} {Y : Int32} {L : Nat} {c : Nat → Nat} (hx : TX tL tS B Y L c) (h : CR z v w n a m) {b : Int64} (hb : f_X7_bitsOf (shrV v n a (nI m)) = some b) {F : Int64 → Int64} (hF : ∀ H, f_X7_withOrder H (nI n) (nI a) v = some (F H)) (oS lD : Int32) (lS lF lG lR : Nat → Int32) (eA eM hA hG hL : Int32) :
    ∃ t, f_X7_digest (nI n) (nI a) (nI m) v w oS tL tS lD lS lF lG lR eA eM hA hG hL = some (gTx c L (31 * (31 * gH v n (gK v n (gJx v n a m (gR v n m (gG v w n (F (gE v n (gDa v n m (gC v n (31 * gA v n a m oS 9 + Int32.toInt64 (nI m))) 3))) 4) 3)) 3) 4 + b) + Int32.toInt64 (nI L)), v, t) := by
  obtain ⟨⟨⟨hn2, hn, hz0, -⟩, hz1, ha, hz2, -⟩, hBv, -⟩ := h
  have hn3 : n * n * n ≤ 512 := cube_le hn
  have : ∃ e, f_X7_digest (nI n) (nI a) (nI m) v w oS tL tS lD lS lF lG lR eA eM hA hG hL = some e ∧ e.1 = gTx c L (31 * (31 * gH v n (gK v n (gJx v n a m (gR v n m (gG v w n (F (gE v n (gDa v n m (gC v n (31 * gA v n a m oS 9 + Int32.toInt64 (nI m))) 3))) 4) 3)) 3) 4 + b) + Int32.toInt64 (nI L)) ∧ e.2.1 = v := by
    unfold f_X7_digest
    refine dz_it_inv (fun k s => s.1 = gA v n a m oS k ∧ s.2.1 = nI k) 9 (by omega) (fun k s hk hI => ?_) (fun s hI => ?_) ⟨rfl, rfl⟩
    · obtain ⟨s1, s2, s3, s4, s5, s6, s7⟩ := s
      obtain ⟨rfl, rfl⟩ := hI
      obtain ⟨t, ht⟩ := p7_count hn2 hn ha hk (nI m) oS v s3 s4 s5 s6 s7
      show ∃ s', f_X7_digest_L6 (nI n) (nI a) (nI m) v w oS tL tS eA eM hA hG hL (gA v n a m oS k) (nI k) s3 s4 s5 s6 s7 = _ ∧ _
      unfold f_X7_digest_L6
      rw [if_neg (show ¬ (8 : Int32) < nI k from nI_nlt (a := 8) (by omega) (by omega)), ht, ob_some, dz_ok_inr, m7, nI_1]
      exact ⟨_, rfl, rfl, rfl⟩
    · obtain ⟨s1, s2, s3, s4, s5, s6, s7⟩ := s
      obtain ⟨rfl, rfl⟩ := hI
      obtain ⟨H1, hH1⟩ : ∃ H, H = 31 * gA v n a m oS 9 + Int32.toInt64 (nI m) := ⟨_, rfl⟩
      obtain ⟨t1, h1⟩ := p_withSlices (m := m) hn2 hn v (gC v n H1) s3 s4 s5 s6 s7
      obtain ⟨t2, h2⟩ := p_withDiff hn v w (F (gE v n (gDa v n m (gC v n H1) 3)))
      obtain ⟨t3, h3⟩ := p_withWhat (m := m) hn2 hn ha v hBv hb hA hG hL eA eM t1.1 t1.2.1 t1.2.2.1 t1.2.2.2.1 t1.2.2.2.2 (gG v w n (F (gE v n (gDa v n m (gC v n H1) 3))) 4)
      show ∃ s', f_X7_digest_L6 (nI n) (nI a) (nI m) v w oS tL tS eA eM hA hG hL (gA v n a m oS 9) (nI 9) s3 s4 s5 s6 s7 = _ ∧ _
      unfold f_X7_digest_L6
      rw [if_pos (show (8 : Int32) < nI 9 by decide), m7, ← hH1]
      refine ⟨(gTx c L (31 * (31 * gH v n (gK v n (gJx v n a m (gR v n m (gG v w n (F (gE v n (gDa v n m (gC v n (H1)) 3))) 4) 3)) 3) 4 + b) + Int32.toInt64 (nI L)), v, t3.1, t3.2.1, t3.2.2.1, t3.2.2.2.1, t3.2.2.2.2.1, t2.1, t2.2.1, t2.2.2.1, t2.2.2.2, t3.2.2.2.2.2.1, t3.2.2.2.2.2.2.1, t3.2.2.2.2.2.2.2.1, t3.2.2.2.2.2.2.2.2.1, t3.2.2.2.2.2.2.2.2.2.1, t3.2.2.2.2.2.2.2.2.2.2.1, t3.2.2.2.2.2.2.2.2.2.2.2), dz_it_count (fun k => (mx (fun k => Int32.toInt64 (v k)) H1 k, nI k)) (n * n * n) rfl (by omega) (fun k hk => ?_) ?_, ?_, ?_⟩
      · show f_X7_digest_L44 _ _ _ _ _ _ _ _ _ _ _ _ _ _ _ _ _ (mx (fun k => Int32.toInt64 (v k)) H1 k) (nI k) = _
        unfold f_X7_digest_L44
        rw [p_points, if_neg (nI_ge hk (by omega)), p_num v (by omega), m7, nI_1]
        rfl
      · show f_X7_digest_L44 _ _ _ _ _ _ _ _ _ _ _ _ _ _ _ _ _ (mx (fun k => Int32.toInt64 (v k)) H1 (n * n * n)) (nI (n * n * n)) = _
        unfold f_X7_digest_L44
        rw [p_points, if_pos (nI_le (Nat.le_refl _) (by omega)), show f_X7_withSlices (mx (fun k => Int32.toInt64 (v k)) H1 (n * n * n)) (nI n) (nI m) v s3 s4 s5 s6 s7 = _ from h1, ob_some, p_withLines hn, ob_some, hF, ob_some, h2, ob_some, h3, ob_some, p_withText hx, ob_some]
      · rfl
      · rfl
  obtain ⟨⟨e1, e2, e3⟩, h1, h2, h3⟩ := this
  exact ⟨e3, by rw [h1, show e1 = _ from h2, show e2 = _ from h3]⟩
/-! the model's digest -/
theorem d219 {tL : Int32} {tS B : Nat → Int32} {Y : Int32} {L : Nat} {c : Nat → Nat} (hx : TX tL tS B Y L c) (z : Nat → Int32) (H : Int64) :
    dz_it (fun s : Int32 × Int64 => f_X8_digest_L219 B Y z s.1 s.2) (0, H) = some (.inr (.inr (.inr (.inr (.inr (.inr (gTx c L H, 0, z, gTx c L H))))))) := by
  obtain ⟨h1, -, rfl, h4⟩ := hx
  refine dz_it_count (fun k => (nI k, mx (fun k => Int32.toInt64 (nI (c k))) H k)) L rfl (by omega) (fun k hk => ?_) ?_
  · show f_X8_digest_L219 B _ z (nI k) (mx (fun k => Int32.toInt64 (nI (c k))) H k) = _
    unfold f_X8_digest_L219
    rw [if_neg (nI_ge hk (by omega)), dz_in_nI _ (by omega) (by omega), nI_clamp (by omega), (h4 k hk).2.1, m8, nI_1]
    rfl
  · show f_X8_digest_L219 B _ z (nI L) _ = _
    unfold f_X8_digest_L219
    rw [if_pos (nI_le (Nat.le_refl L) (by omega))]
    rfl
theorem d176 {z v w : Nat → Int32} {n a m : Nat} (h : MR z v w n a m) {tL : Int32} {tS B : Nat → Int32} {Y : Int32} {L : Nat} {c : Nat → Nat} (hx : TX tL tS B Y L c) {b : Int64} (hb : f_X8_bitsOf (shrV v n a (nI m)) = some b) (H : Int64) {T : Int64} (hT : T = gTx c L (31 * (31 * gH v n H 4 + b) + Int32.toInt64 (nI L))) :
    dz_it (fun s : Int32 × Int64 => f_X8_digest_L176 B Y z s.1 s.2) (0, H) = some (.inr (.inr (.inr (.inr (.inr (T, 0, z, T)))))) := by
  refine dz_it_count (fun k => (nI k, gH v n H k)) 4 rfl (by omega) (fun k hk => ?_) ?_
  · show f_X8_digest_L176 B _ z (nI k) (gH v n H k) = _
    unfold f_X8_digest_L176
    rw [if_neg (show ¬ (3 : Int32) < nI k from nI_nlt (a := 3) (by omega) (by omega)), p8_heaviestOf h.1, ob_some, m8, nI_1]
    rfl
  · show f_X8_digest_L176 B _ z (nI 4) (gH v n H 4) = _
    unfold f_X8_digest_L176
    rw [if_pos (show (3 : Int32) < nI 4 by decide), p8_share h.1 h.2.1 h.2.2.1, ob_some, h.2.2.2.1, hb, ob_some, m8, m8, d219 hx, hT, hx.2.2.1]
theorem d153 {z v w : Nat → Int32} {n a m : Nat} (h : MR z v w n a m) {tL : Int32} {tS B : Nat → Int32} {Y : Int32} {L : Nat} {c : Nat → Nat} (hx : TX tL tS B Y L c) {b : Int64} (hb : f_X8_bitsOf (shrV v n a (nI m)) = some b) (H : Int64) {T : Int64} (hT : T = gTx c L (31 * (31 * gH v n (gK v n H 3) 4 + b) + Int32.toInt64 (nI L))) :
    dz_it (fun s : Int32 × (Nat → Int32) × Int64 => f_X8_digest_L153 B Y s.1 s.2.1 s.2.2) (0, z, H) = some (.inr (.inr (.inr (.inr (T, 0, z, T))))) := by
  refine dz_it_count (fun k => (nI k, z, gK v n H k)) 3 rfl (by omega) (fun k hk => ?_) ?_
  · show f_X8_digest_L153 B _ (nI k) z (gK v n H k) = _
    unfold f_X8_digest_L153
    rw [if_neg (show ¬ (2 : Int32) < nI k from nI_nlt (a := 2) (by omega) (by omega)), p8_bestOf h.1, ob_some, m8, nI_1]
    rfl
  · show f_X8_digest_L153 B _ (nI 3) z (gK v n H 3) = _
    unfold f_X8_digest_L153
    rw [if_pos (show (2 : Int32) < nI 3 by decide), d176 h hx hb _ hT]
theorem d114 {z v w : Nat → Int32} {n a m : Nat} (h : MR z v w n a m) {tL : Int32} {tS B : Nat → Int32} {Y : Int32} {L : Nat} {c : Nat → Nat} (hx : TX tL tS B Y L c) {b : Int64} (hb : f_X8_bitsOf (shrV v n a (nI m)) = some b) (H : Int64) {T : Int64} (hT : T = gTx c L (31 * (31 * gH v n (gK v n (gJx v n a m H) 3) 4 + b) + Int32.toInt64 (nI L))) :
    dz_it (fun s : Int32 × (Nat → Int32) × Int64 => f_X8_digest_L114 B Y s.1 s.2.1 s.2.2) (0, z, H) = some (.inr (.inr (.inr (T, 0, z, T)))) := by
  have hn2 := h.1.1
  have q0 : 0 < n := by omega
  have q1 : 1 < n := by omega
  have hw : ∀ p k, f_X8_wouldPut 0 1 0 p k z = some (iTold v n a (nI m) 0 1 0 p k, z) := fun p k => by
    rw [← h.2.2.2.1]
    exact p8_wouldPut h.1 h.2.1 h.2.2.1 q0 q1 q0 p k
  have hs : RS (fun s : Int32 × (Nat → Int32) × Int64 => f_X8_digest_L114 B Y s.1 s.2.1 s.2.2) 4 (0, z, H) (.inr (.inr (.inr (T, 0, z, T)))) := by
    refine ⟨(1, z, 31 * H + gIx v n a m 7 0), ?_, (2, z, 31 * (31 * H + gIx v n a m 7 0) + gIx v n a m 7 1), ?_, (3, z, 31 * (31 * (31 * H + gIx v n a m 7 0) + gIx v n a m 7 1) + gIx v n a m 0 0), ?_, (4, z, gJx v n a m H), ?_, ?_⟩
    · show f_X8_digest_L114 B Y 0 z H = _
      unfold f_X8_digest_L114 f_X8_digest_J135
      rw [if_neg (show ¬ (4 : Int32) ≤ 0 by decide), if_neg (show ¬ (2 : Int32) ≤ 0 by decide), hw, ob_some]
      rfl
    · show f_X8_digest_L114 B Y 1 z _ = _
      unfold f_X8_digest_L114 f_X8_digest_J135
      rw [if_neg (show ¬ (4 : Int32) ≤ 1 by decide), if_neg (show ¬ (2 : Int32) ≤ 1 by decide), hw, ob_some]
      rfl
    · show f_X8_digest_L114 B Y 2 z _ = _
      unfold f_X8_digest_L114 f_X8_digest_J135
      rw [if_neg (show ¬ (4 : Int32) ≤ 2 by decide), if_pos (show (2 : Int32) ≤ 2 by decide), hw, ob_some]
      rfl
    · show f_X8_digest_L114 B Y 3 z _ = _
      unfold f_X8_digest_L114 f_X8_digest_J135
      rw [if_neg (show ¬ (4 : Int32) ≤ 3 by decide), if_pos (show (2 : Int32) ≤ 3 by decide), hw, ob_some]
      rfl
    · show f_X8_digest_L114 B Y 4 z (gJx v n a m H) = _
      unfold f_X8_digest_L114
      rw [if_pos (show (4 : Int32) ≤ 4 by decide), d153 h hx hb _ hT]
  exact hs.it (by omega)
theorem d91 {z v w : Nat → Int32} {n a m : Nat} (h : MR z v w n a m) {tL : Int32} {tS B : Nat → Int32} {Y : Int32} {L : Nat} {c : Nat → Nat} (hx : TX tL tS B Y L c) {b : Int64} (hb : f_X8_bitsOf (shrV v n a (nI m)) = some b) (H : Int64) {T : Int64} (hT : T = gTx c L (31 * (31 * gH v n (gK v n (gJx v n a m (gR v n m H 3)) 3) 4 + b) + Int32.toInt64 (nI L))) :
    dz_it (fun s : Int32 × Int64 => f_X8_digest_L91 z B Y s.1 s.2) (0, H) = some (.inr (.inr (T, 0, z, T))) := by
  refine dz_it_count (fun k => (nI k, gR v n m H k)) 3 rfl (by omega) (fun k hk => ?_) ?_
  · show f_X8_digest_L91 z B _ (nI k) (gR v n m H k) = _
    unfold f_X8_digest_L91
    rw [if_neg (show ¬ (3 : Int32) ≤ nI k from nI_ge (b := 3) hk (by omega)), p8_roomBy h.1 hk, ob_some, m8, nI_1, h.2.2.2.1]
    rfl
  · show f_X8_digest_L91 z B _ (nI 3) (gR v n m H 3) = _
    unfold f_X8_digest_L91
    rw [if_pos (show (3 : Int32) ≤ nI 3 by decide), d114 h hx hb _ hT]
theorem d68 {z v w : Nat → Int32} {n a m : Nat} (h : MR z v w n a m) {tL : Int32} {tS B : Nat → Int32} {Y : Int32} {L : Nat} {c : Nat → Nat} (hx : TX tL tS B Y L c) {b : Int64} (hb : f_X8_bitsOf (shrV v n a (nI m)) = some b) (H : Int64) {T : Int64} (hT : T = gTx c L (31 * (31 * gH v n (gK v n (gJx v n a m (gR v n m (gG v w n H 4) 3)) 3) 4 + b) + Int32.toInt64 (nI L))) :
    dz_it (fun s : Int32 × Int64 => f_X8_digest_L68 z B Y s.1 s.2) (0, H) = some (.inr (T, 0, z, T)) := by
  refine dz_it_count (fun k => (nI k, gG v w n H k)) 4 rfl (by omega) (fun k hk => ?_) ?_
  · show f_X8_digest_L68 z B _ (nI k) (gG v w n H k) = _
    unfold f_X8_digest_L68
    rw [if_neg (show ¬ (3 : Int32) < nI k from nI_nlt (a := 3) (by omega) (by omega)), p8_dtold h, ob_some, m8, nI_1]
    rfl
  · show f_X8_digest_L68 z B _ (nI 4) (gG v w n H 4) = _
    unfold f_X8_digest_L68
    rw [if_pos (show (3 : Int32) < nI 4 by decide), d91 h hx hb _ hT]
theorem o_digest {z v w : Nat → Int32} {n a m : Nat} {tL : Int32} {tS B : Nat → Int32} {Y : Int32} (h : CR z v w n a m) (hx : TR tL tS B Y) (S lD : Int32) (lS lF lG lR : Nat → Int32) (eA eM hA hG hL : Int32) :
    ∃ s t, f_X7_digest (nI n) (nI a) (nI m) v w S tL tS lD lS lF lG lR eA eM hA hG hL = some (s, v, t) ∧ f_X8_digest z S B Y = some (s, 0, z, s) := by
  obtain ⟨L, c, hx⟩ := hx
  have hM := h.1
  obtain ⟨f0, f1, f5, hF, g0, g1, g5⟩ := o_order hM.1 hM.2.1 hM.2.2.1
  obtain ⟨b, hb7, hb8⟩ := (shrV_ok hM.1.1 hM.1.2.1 v a (nI m)).2
  obtain ⟨t, ht⟩ := p_digest hx h hb7 (F := fun H => f5 (f1 (f0 H))) hF S lD lS lF lG lR eA eM hA hG hL
  refine ⟨_, t, ht, ?_⟩
  refine dz_it_count (fun k => (nI k, gA v n a m S k)) 9 rfl (by omega) (fun k hk => ?_) ?_
  · show f_X8_digest_L14 z S B Y (nI k) (gA v n a m S k) = _
    unfold f_X8_digest_L14
    rw [if_neg (show ¬ (8 : Int32) < nI k from nI_nlt (a := 8) (by omega) (by omega)), p8_counted hM S hk, ob_some, m8, nI_1]
    rfl
  · show f_X8_digest_L14 z S B Y (nI 9) (gA v n a m S 9) = _
    unfold f_X8_digest_L14
    rw [if_pos (show (8 : Int32) < nI 9 by decide), hM.2.2.2.1, m8, p8_mixCube hM.1 hM.2.2.2.1, ob_some, g0, ob_some, g1, ob_some, g5, ob_some, d68 hM hx hb8 _ rfl]
