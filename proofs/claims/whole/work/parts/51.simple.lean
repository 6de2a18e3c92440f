/-! pure: the simple commands -/
theorem MR.put {z v w : Nat → Int32} {n a m x y u : Nat} (h : MR z v w n a m) (hx : x < n) (hy : y < n) (hu : u < n) (c : Int32) : MR (upd z (3 + (x + 8 * y + 64 * u)) c) (upd v (idN n x y u) c) w n a m := by
  obtain ⟨h1, h2, h3, h4, h5, h6, h7, h8⟩ := h
  have hn := h1.2.1
  refine ⟨h1.put hx hy hu c, ?_, h3, ?_, h5, h6, fun x' y' u' hx' hy' hu' => ?_, fun k hk hk2 => ?_⟩
  · rw [pk_un (by omega)]; exact h2
  · rw [pk_un (by omega)]; exact h4
  · rw [pk_un (by omega)]; exact h7 x' y' u' hx' hy' hu'
  · have : k ≠ x + 8 * y + 64 * u := fun q => hk2 ⟨by omega, by omega, by omega⟩
    rw [pk_un (by omega), pk_un (by omega)]
    exact h8 k hk hk2
theorem Bd.put {v : Nat → Int32} {n : Nat} (h : Bd v n) (k : Nat) {c : Int32} (h1 : -999 ≤ c.toInt) (h2 : c.toInt ≤ 999) : Bd (upd v k c) n := by
  intro x y w hx hy hw
  unfold upd
  split
  · exact ⟨h1, h2⟩
  · exact h x y w hx hy hw
theorem CR.put {z v w : Nat → Int32} {n a m x y u : Nat} (h : CR z v w n a m) (hx : x < n) (hy : y < n) (hu : u < n) {c : Int32} (h1 : -999 ≤ c.toInt) (h2 : c.toInt ≤ 999) : CR (upd z (3 + (x + 8 * y + 64 * u)) c) (upd v (idN n x y u) c) w n a m := ⟨h.1.put hx hy hu c, h.2.1.put _ h1 h2, h.2.2⟩
theorem g_num_in {c : Int32} (h : ¬ f_X7_isNumber c = 0) : -999 ≤ c.toInt ∧ c.toInt ≤ 999 := by
  unfold f_X7_isNumber at h
  by_cases h1 : c < -999
  · rw [if_pos h1] at h; exact absurd rfl h
  · rw [if_neg h1] at h
    by_cases h2 : 999 < c
    · rw [if_pos h2] at h; exact absurd rfl h
    · have a1 := Int32.le_iff_toInt_le.mp (Int32.not_lt.mp h1)
      have a2 := Int32.le_iff_toInt_le.mp (Int32.not_lt.mp h2)
      have e1 : (-999 : Int32).toInt = -999 := rfl
      have e2 : (999 : Int32).toInt = 999 := rfl
      omega
theorem o_put {z v w U : Nat → Int32} {n a m : Nat} {oO oS V : Int32} {hv : Nat → SV} (h : CR z v w n a m) (hh : HR oO oS hv U V) (p q r c : Int32) : (f_X7_put p q r c (nI n) (nI a) (nI m) v w oO oS hv = some (.inl 1) ∧ f_X8_put p q r c z U V = some (0, 1, z, U, V)) ∨ (f_X7_put p q r c (nI n) (nI a) (nI m) v w oO oS hv = some (.inl 2) ∧ f_X8_put p q r c z U V = some (0, 2, z, U, V)) ∨ ∃ s v' O S H z' U' V', f_X7_put p q r c (nI n) (nI a) (nI m) v w oO oS hv = some (.inr (s, v', O, S, H)) ∧ f_X8_put p q r c z U V = some (s, 0, z', U', V') ∧ CR z' v' w n a m ∧ HR O S H U' V' := by
  have h0 : z 0 = nI n := h.1.1.2.2.1
  have hn := h.1.1.2.1
  unfold f_X7_put f_X8_put f_X8_put_J28
  rw [g_point h0, g_number]
  by_cases h1 : f_X5_hasPoint p q r (nI n) = 0
  · rw [if_pos h1, if_pos h1, if_neg (by decide)]
    exact Or.inl ⟨rfl, rfl⟩
  · rw [if_neg h1, if_neg h1]
    by_cases h2 : f_X7_isNumber c = 0
    · rw [if_pos h2, if_pos h2, if_neg (by decide)]
      exact Or.inr (Or.inl ⟨rfl, rfl⟩)
    · obtain ⟨x, y, u, hx, hy, hu, rfl, rfl, rfl⟩ := g_point_of (by omega) h1
      obtain ⟨O, S, H, U', V', e1, e2, e3⟩ := o_save h hh
      obtain ⟨b1, b2⟩ := g_num_in h2
      have h512 := idN_512 hn hx hy hu
      rw [if_neg h2, if_neg h2, if_pos (by decide), e1, e2, Option.bind_some, Option.bind_some, p_place, p_num v h512, p_write v c h512, p8_place, i3, dz_in_nI _ (by omega) (by decide), dz_in_nI _ (by omega) (by decide), nI_clamp (by omega), h.1.1.2.2.2 x y u hx hy hu]
      exact Or.inr (Or.inr ⟨_, _, O, S, H, _, U', V', rfl, rfl, h.put hx hy hu b1 b2, e3⟩)
theorem CR.set1 {z v w : Nat → Int32} {n a m : Nat} (h : CR z v w n a m) {b : Nat} (hb : b < 3) : CR (upd z 1 (nI b)) v w n b m := by
  obtain ⟨⟨⟨h1, h2, h3, h4⟩, h5, h6, h7, h8, h9, h10, h11⟩, h12, h13⟩ := h
  refine ⟨⟨⟨h1, h2, ?_, fun x y u hx hy hu => ?_⟩, pk_us, hb, ?_, h8, h9, fun x y u hx hy hu => ?_, fun k hk hk2 => ?_⟩, h12, h13⟩
  · rw [pk_un (by omega)]; exact h3
  · rw [pk_un (by omega)]; exact h4 x y u hx hy hu
  · rw [pk_un (by omega)]; exact h7
  · rw [pk_un (by omega)]; exact h10 x y u hx hy hu
  · rw [pk_un (by omega), pk_un (by omega)]; exact h11 k hk hk2
theorem CR.set2 {z v w : Nat → Int32} {n a m : Nat} (h : CR z v w n a m) {b : Nat} (hb : 1 ≤ b) (hb2 : b ≤ 64) : CR (upd z 2 (nI b)) v w n a b := by
  obtain ⟨⟨⟨h1, h2, h3, h4⟩, h5, h6, h7, h8, h9, h10, h11⟩, h12, h13⟩ := h
  refine ⟨⟨⟨h1, h2, ?_, fun x y u hx hy hu => ?_⟩, ?_, h6, pk_us, hb, hb2, fun x y u hx hy hu => ?_, fun k hk hk2 => ?_⟩, h12, h13⟩
  · rw [pk_un (by omega)]; exact h3
  · rw [pk_un (by omega)]; exact h4 x y u hx hy hu
  · rw [pk_un (by omega)]; exact h5
  · rw [pk_un (by omega)]; exact h10 x y u hx hy hu
  · rw [pk_un (by omega), pk_un (by omega)]; exact h11 k hk hk2
theorem of_ge1 {p : Int32} {M : Int32} {n : Nat} (hM : M.toInt = n) (h : ¬ p < 1) (h5 : p ≤ M) : ∃ j, 1 ≤ j ∧ j ≤ n ∧ p = nI j := by
  have h1 := Int32.le_iff_toInt_le.mp (Int32.not_lt.mp h)
  have e1 : (1 : Int32).toInt = 1 := rfl
  have e0 : (0 : Int32).toInt = 0 := rfl
  have hp : ¬ p < 0 := fun q => by
    have := Int32.lt_iff_toInt_lt.mp q
    omega
  obtain ⟨j, hj, rfl⟩ := nI_of2 hM hp h5
  refine ⟨j, ?_, hj, rfl⟩
  rcases Nat.eq_zero_or_pos j with rfl | h0
  · exact absurd (show nI 0 < 1 by decide) h
  · exact h0
theorem o_set {z v w U : Nat → Int32} {n a m : Nat} {oO oS V : Int32} {hv : Nat → SV} (h : CR z v w n a m) (hh : HR oO oS hv U V) (p : Int32) : (f_X7_set p (nI n) (nI a) (nI m) v w oO oS hv = some (.inl 2) ∧ f_X8_set p z U V = some (0, 1, z, U, V)) ∨ ∃ s b O S H z' U' V', f_X7_set p (nI n) (nI a) (nI m) v w oO oS hv = some (.inr (s, nI b, O, S, H)) ∧ f_X8_set p z U V = some (s, 0, z', U', V') ∧ CR z' v w n a b ∧ HR O S H U' V' := by
  have h2 : z 2 = nI m := h.1.2.2.2.1
  unfold f_X7_set f_X8_set f_X8_set_J16 f_X8_in f_X8_in_J14
  by_cases h4 : p < 1
  · rw [if_pos h4, if_pos h4, if_pos rfl, if_neg (by decide)]
    exact Or.inl ⟨rfl, rfl⟩
  · rw [if_neg h4, if_neg h4]
    by_cases h5 : p ≤ 64
    · obtain ⟨b, hb1, hb2, rfl⟩ := of_ge1 (M := 64) (n := 64) rfl h4 h5
      obtain ⟨O, S, H, U', V', e1, e2, e3⟩ := o_save h hh
      rw [if_pos h5, if_neg (Int32.not_lt.mpr h5), if_neg (by decide), if_pos (by decide), e1, e2, Option.bind_some, Option.bind_some, h2]
      exact Or.inr ⟨_, b, O, S, H, _, U', V', rfl, rfl, h.set2 hb1 hb2, e3⟩
    · rw [if_neg h5, if_pos (Int32.not_le.mp h5), if_pos rfl, if_neg (by decide)]
      exact Or.inl ⟨rfl, rfl⟩
theorem o_keep {z v w U : Nat → Int32} {n a m : Nat} {oO oS V : Int32} {hv : Nat → SV} (h : CR z v w n a m) (hh : HR oO oS hv U V) (p : Int32) (lD : Int32) (lS lF lG lR : Nat → Int32) : (f_X7_keep p (nI n) (nI a) (nI m) v w oO oS hv lD lS lF lG lR = some (.inl 2) ∧ f_X8_keep p z U V = some (0, 1, z, U, V)) ∨ ∃ s b O S H t z' U' V', f_X7_keep p (nI n) (nI a) (nI m) v w oO oS hv lD lS lF lG lR = some (.inr (s, nI b, O, S, H, t)) ∧ f_X8_keep p z U V = some (s, 0, z', U', V') ∧ CR z' v w n b m ∧ HR O S H U' V' := by
  unfold f_X7_keep f_X8_keep f_X8_keep_J13
  rw [g_axis]
  by_cases h1 : f_X7_isAxis p = 0
  · rw [if_pos h1, if_pos h1, if_neg (by decide)]
    exact Or.inl ⟨rfl, rfl⟩
  · obtain ⟨b, hb, rfl⟩ := g_axis_of h1
    obtain ⟨O, S, H, U', V', e1, e2, e3⟩ := o_save h hh
    have hc := h.set1 hb
    rw [if_neg h1, if_neg h1, if_pos (by decide), e1, e2, Option.bind_some, Option.bind_some, p_roomBy h.1.1.1 h.1.1.2.1 hb, p8_room hc.1.1 hc.1.2.1 hb, hc.1.2.2.2.1, Option.bind_some, Option.bind_some]
    exact Or.inr ⟨_, b, O, S, H, _, _, U', V', rfl, rfl, hc, e3⟩
theorem cpN_z (f : Nat → Int32) (d t k : Nat) (c : Int32) (hk : k = d + t) : upd (cpN f (fun _ => c) d t) k c = cpN f (fun _ => c) d (t + 1) := by
  rw [hk]
  exact cpN_s f (fun _ => c) d t
theorem p_clear (p : Int32) (v w : Nat → Int32) : f_X5_clear p v w = some (p, cpN v (fun _ => 0) 0 512, cpN w (fun _ => 0) 0 512) := by
  refine dz_it_count (fun t => (nI t, cpN v (fun _ => 0) 0 t, cpN w (fun _ => 0) 0 t)) 512 (by rw [cpN_0, cpN_0]; rfl) (by omega) (fun t ht => ?_) ?_
  · show f_X5_clear_L7 p (nI t) (cpN v (fun _ => 0) 0 t) (cpN w (fun _ => 0) 0 t) = _
    unfold f_X5_clear_L7
    rw [if_neg (show ¬ (512 : Int32) ≤ nI t from nI_ge (b := 512) ht (by decide)), p_setCell _ _ ht (by decide), p_setCell _ _ ht (by decide), cpN_z v 0 t t 0 (by omega), cpN_z w 0 t t 0 (by omega), nI_1]
  · show f_X5_clear_L7 p (nI 512) _ _ = _
    unfold f_X5_clear_L7
    rw [if_pos (by decide)]
theorem CR.clear {z v w : Nat → Int32} {n a m : Nat} (h : CR z v w n a m) {b : Nat} (hb : 2 ≤ b) (hb8 : b ≤ 8) : CR (upd (cpN z (fun _ => 0) 3 1024) 0 (nI b)) (cpN v (fun _ => 0) 0 512) (cpN w (fun _ => 0) 0 512) b a m := by
  obtain ⟨⟨⟨h1, h2, h3, h4⟩, h5, h6, h7, h8, h9, h10, h11⟩, h12, h13⟩ := h
  have e : ∀ f : Nat → Int32, ∀ x y u, x < b → y < b → u < b → cpN f (fun _ => 0) 0 512 (idN b x y u) = 0 := fun f x y u hx hy hu => cpN_in (by omega) (by have := idN_512 hb8 hx hy hu; omega)
  refine ⟨⟨⟨hb, hb8, pk_us, fun x y u hx hy hu => ?_⟩, ?_, h6, ?_, h8, h9, fun x y u hx hy hu => ?_, fun k hk hk2 => ⟨?_, ?_⟩⟩, fun x y u hx hy hu => ?_, fun x y u hx hy hu => ?_⟩
  · rw [pk_un (by omega), e v x y u hx hy hu, cpN_in (by omega) (by omega)]
  · rw [pk_un (by omega), cpN_out (by omega)]; exact h5
  · rw [pk_un (by omega), cpN_out (by omega)]; exact h7
  · rw [pk_un (by omega), e w x y u hx hy hu, cpN_in (by omega) (by omega)]
  · rw [pk_un (by omega), cpN_in (by omega) (by omega)]
  · rw [pk_un (by omega), cpN_in (by omega) (by omega)]
  · rw [e v x y u hx hy hu]; decide
  · rw [e w x y u hx hy hu]; decide
theorem o_begin {z v w U : Nat → Int32} {n a m : Nat} {oO oS V : Int32} {hv : Nat → SV} (h : CR z v w n a m) (hh : HR oO oS hv U V) (p : Int32) : (f_X7_begin p (nI n) (nI a) (nI m) v w oO oS hv = some (.inl 2) ∧ f_X8_begin p z U V = some (0, 1, z, U, V)) ∨ ∃ s b v' w' O S H z' U' V', f_X7_begin p (nI n) (nI a) (nI m) v w oO oS hv = some (.inr (s, nI b, v', w', O, S, H)) ∧ f_X8_begin p z U V = some (s, 0, z', U', V') ∧ CR z' v' w' b a m ∧ HR O S H U' V' := by
  unfold f_X7_begin f_X8_begin f_X8_begin_J16 f_X8_in f_X8_in_J14
  by_cases h4 : p < 2
  · rw [if_pos h4, if_pos h4, if_pos rfl, if_neg (by decide)]
    exact Or.inl ⟨rfl, rfl⟩
  · rw [if_neg h4, if_neg h4]
    by_cases h5 : p ≤ 8
    · obtain ⟨b, hb1, hb2, rfl⟩ := of_ge1 (p := p) (M := 8) (n := 8) rfl (fun q => h4 (by
        have := Int32.lt_iff_toInt_lt.mp q
        refine Int32.lt_iff_toInt_lt.mpr ?_
        have e1 : (1 : Int32).toInt = 1 := rfl
        have e2 : (2 : Int32).toInt = 2 := rfl
        omega)) h5
      have hb : 2 ≤ b := by
        rcases (show b = 1 ∨ 2 ≤ b by omega) with rfl | h2
        · exact absurd (show nI 1 < 2 by decide) h4
        · exact h2
      obtain ⟨O, S, H, U', V', e1, e2, e3⟩ := o_save h hh
      rw [if_pos h5, if_neg (Int32.not_lt.mpr h5), if_neg (by decide), if_pos (by decide), e1, e2, Option.bind_some, Option.bind_some, p_clear, Option.bind_some, p_points]
      refine Or.inr ⟨_, b, _, _, O, S, H, upd (cpN z (fun _ => 0) 3 1024) 0 (nI b), U', V', rfl, ?_, h.clear hb hb2, e3⟩
      refine dz_it_count (fun t => (nI (3 + t), cpN z (fun _ => 0) 3 t)) 1024 (by rw [cpN_0]; rfl) (by omega) (fun t ht => ?_) ?_
      · show f_X8_begin_L34 (nI b) (U', V') 0 (nI (3 + t)) (cpN z (fun _ => 0) 3 t) = _
        unfold f_X8_begin_L34
        rw [if_neg (show ¬ (1027 : Int32) ≤ nI (3 + t) from nI_ge (b := 1027) (by omega) (by decide)), dz_in_nI _ (by omega) (by decide), nI_clamp (by omega), cpN_z z 3 t (3 + t) 0 rfl, nI_1]
        rfl
      · show f_X8_begin_L34 (nI b) (U', V') 0 (nI (3 + 1024)) _ = _
        unfold f_X8_begin_L34
        rw [if_pos (by decide), pk_mul, pk_mul]
    · rw [if_neg h5, if_pos (Int32.not_le.mp h5), if_pos rfl, if_neg (by decide)]
      exact Or.inl ⟨rfl, rfl⟩
theorem s_diff {z v w : Nat → Int32} {n a m : Nat} (h : MR z v w n a m) : sCnt (zD z) 512 = sCnt (fun k => v k - w k) (n * n * n) := by
  unfold sCnt
  exact sSum_grid (g := fun k => if zD z k = 0 then 0 else 1) h.1.2.1 (fun k hk hk2 => if_pos (zD_out h k hk hk2)) (fun x y u hx hy hu => by
    show (if zD z (x + 8 * y + 64 * u) = 0 then (0 : Int32) else 1) = _
    rw [zD_in h x y u hx hy hu])
theorem o_mark {z v w U : Nat → Int32} {n a m : Nat} {oO oS V : Int32} {hv : Nat → SV} (h : CR z v w n a m) (hh : HR oO oS hv U V) : ∃ s w' O S H t z' U' V', f_X7_mark (nI n) (nI a) (nI m) v w oO oS hv = some (s, w', O, S, H, t) ∧ f_X8_mark z U V = some (s, 0, z', U', V') ∧ CR z' v w' n a m ∧ HR O S H U' V' := by
  obtain ⟨O, S, H, U', V', e1, e2, e3⟩ := o_save h hh
  refine ⟨sCnt (fun k => v k - w k) (n * n * n), f_X7_copyRow 512 v 512 w, O, S, H, (sCnt (fun k => v k - w k) (n * n * n), sSum (fun k => v k - w k) (n * n * n), gMx (fun k => v k - w k) (n * n * n), oI (gFi (fun k => v k - w k) id (n * n * n))), cpN z (fun k => z (3 + k)) 515 512, U', V', ?_, ?_, ?_, e3⟩
  · unfold f_X7_mark
    rw [p_dlook h.1.1.2.1, Option.bind_some, e1, Option.bind_some]
  · unfold f_X8_mark
    rw [e2, Option.bind_some, p8_differences, Option.bind_some, s_diff h.1]
    refine dz_it_count (fun t => (nI t, cpN z (fun k => z (3 + k)) 515 t)) 512 (by rw [cpN_0]; rfl) (by omega) (fun t ht => ?_) ?_
    · show f_X8_mark_L16 _ (U', V') (nI t) (cpN z (fun k => z (3 + k)) 515 t) = _
      unfold f_X8_mark_L16
      rw [if_neg (show ¬ (512 : Int32) ≤ nI t from nI_ge (b := 512) ht (by decide)), i3, i515, dz_in_nI _ (by omega) (by decide), dz_in_nI _ (by omega) (by decide), nI_clamp (by omega), nI_clamp (by omega), cpN_out (k := 3 + t) (by omega), nI_1]
      have := cpN_s z (fun k => z (3 + k)) 515 t
      rw [← this]
    · show f_X8_mark_L16 _ (U', V') (nI 512) _ = _
      unfold f_X8_mark_L16
      rw [if_pos (by decide)]
  · obtain ⟨⟨⟨h1, h2, h3, h4⟩, h5, h6, h7, h8, h9, h10, h11⟩, h12, h13⟩ := h
    have hw : ∀ x y u, x < n → y < n → u < n → f_X7_copyRow 512 v 512 w (idN n x y u) = v (idN n x y u) := fun x y u hx hy hu => p_copyRow v w (idN_512 h2 hx hy hu)
    refine ⟨⟨⟨h1, h2, ?_, fun x y u hx hy hu => ?_⟩, ?_, h6, ?_, h8, h9, fun x y u hx hy hu => ?_, fun k hk hk2 => ⟨?_, ?_⟩⟩, h12, fun x y u hx hy hu => ?_⟩
    · rw [cpN_out (by omega)]; exact h3
    · rw [cpN_out (by omega)]; exact h4 x y u hx hy hu
    · rw [cpN_out (by omega)]; exact h5
    · rw [cpN_out (by omega)]; exact h7
    · rw [cpN_in (by omega) (by omega), Nat.add_sub_cancel_left, hw x y u hx hy hu]; exact h4 x y u hx hy hu
    · rw [cpN_out (by omega)]; exact (h11 k hk hk2).1
    · rw [cpN_in (by omega) (by omega), Nat.add_sub_cancel_left]; exact (h11 k hk hk2).1
    · rw [hw x y u hx hy hu]; exact h12 x y u hx hy hu
theorem o_goBack {z v w U : Nat → Int32} {n a m : Nat} {oO oS V : Int32} {hv : Nat → SV} (h : CR z v w n a m) (hh : HR oO oS hv U V) : ∃ s v' O S H t z' U' V', f_X7_goBack (nI n) (nI a) (nI m) v w oO oS hv = some (s, v', O, S, H, t) ∧ f_X8_goBack z U V = some (s, 0, z', U', V') ∧ CR z' v' w n a m ∧ HR O S H U' V' := by
  obtain ⟨O, S, H, U', V', e1, e2, e3⟩ := o_save h hh
  refine ⟨sCnt (fun k => v k - w k) (n * n * n), f_X7_copyRow 512 w 512 v, O, S, H, (sCnt (fun k => v k - w k) (n * n * n), sSum (fun k => v k - w k) (n * n * n), gMx (fun k => v k - w k) (n * n * n), oI (gFi (fun k => v k - w k) id (n * n * n))), cpN z (fun k => z (515 + k)) 3 512, U', V', ?_, ?_, ?_, e3⟩
  · unfold f_X7_goBack
    rw [p_dlook h.1.1.2.1, Option.bind_some, e1, Option.bind_some]
  · unfold f_X8_goBack
    rw [e2, Option.bind_some, p8_differences, Option.bind_some, s_diff h.1]
    refine dz_it_count (fun t => (nI t, cpN z (fun k => z (515 + k)) 3 t)) 512 (by rw [cpN_0]; rfl) (by omega) (fun t ht => ?_) ?_
    · show f_X8_goBack_L16 _ (U', V') (nI t) (cpN z (fun k => z (515 + k)) 3 t) = _
      unfold f_X8_goBack_L16
      rw [if_neg (show ¬ (512 : Int32) ≤ nI t from nI_ge (b := 512) ht (by decide)), i3, i515, dz_in_nI _ (by omega) (by decide), dz_in_nI _ (by omega) (by decide), nI_clamp (by omega), nI_clamp (by omega), cpN_out (k := 515 + t) (by omega), nI_1]
      have := cpN_s z (fun k => z (515 + k)) 3 t
      rw [← this]
    · show f_X8_goBack_L16 _ (U', V') (nI 512) _ = _
      unfold f_X8_goBack_L16
      rw [if_pos (by decide)]
  · obtain ⟨⟨⟨h1, h2, h3, h4⟩, h5, h6, h7, h8, h9, h10, h11⟩, h12, h13⟩ := h
    have hw : ∀ x y u, x < n → y < n → u < n → f_X7_copyRow 512 w 512 v (idN n x y u) = w (idN n x y u) := fun x y u hx hy hu => p_copyRow w v (idN_512 h2 hx hy hu)
    refine ⟨⟨⟨h1, h2, ?_, fun x y u hx hy hu => ?_⟩, ?_, h6, ?_, h8, h9, fun x y u hx hy hu => ?_, fun k hk hk2 => ⟨?_, ?_⟩⟩, fun x y u hx hy hu => ?_, h13⟩
    · rw [cpN_out (by omega)]; exact h3
    · rw [cpN_in (by omega) (by omega), Nat.add_sub_cancel_left, hw x y u hx hy hu]; exact h10 x y u hx hy hu
    · rw [cpN_out (by omega)]; exact h5
    · rw [cpN_out (by omega)]; exact h7
    · rw [cpN_out (by omega)]; exact h10 x y u hx hy hu
    · rw [cpN_in (by omega) (by omega), Nat.add_sub_cancel_left]; exact (h11 k hk hk2).2
    · rw [cpN_out (by omega)]; exact (h11 k hk hk2).2
    · rw [hw x y u hx hy hu]; exact h13 x y u hx hy hu
