/-! pure: the cube shifted -/
theorem sSum_add (g : Nat → Int32) (a : Nat) : ∀ b, sSum g (a + b) = sSum g a + sSum (fun j => g (a + j)) b := by
  intro b
  induction b with
  | zero => exact (Int32.add_zero _).symm
  | succ b ih =>
    show sSum g (a + b) + g (a + b) = sSum g a + (sSum (fun j => g (a + j)) b + g (a + b))
    rw [ih, Int32.add_assoc]
theorem sSum_mul (g : Nat → Int32) (b : Nat) : ∀ a, sSum g (a * b) = sSum (fun i => sSum (fun j => g (i * b + j)) b) a := by
  intro a
  induction a with
  | zero => rw [Nat.zero_mul]; rfl
  | succ a ih =>
    rw [Nat.succ_mul, sSum_add, ih]
    rfl
theorem sSum_plus (f g : Nat → Int32) : ∀ b, sSum (fun j => f j + g j) b = sSum f b + sSum g b := by
  intro b
  induction b with
  | zero => rfl
  | succ b ih =>
    show sSum (fun j => f j + g j) b + (f b + g b) = (sSum f b + f b) + (sSum g b + g b)
    rw [ih]
    grind
theorem sSum_zero : ∀ b, sSum (fun _ => 0) b = 0 := by
  intro b
  induction b with
  | zero => rfl
  | succ b ih =>
    show sSum (fun _ => 0) b + 0 = 0
    rw [ih]
    rfl
theorem sSum_swap (g : Nat → Nat → Int32) (b : Nat) : ∀ a, sSum (fun i => sSum (fun j => g i j) b) a = sSum (fun j => sSum (fun i => g i j) a) b := by
  intro a
  induction a with
  | zero => exact (sSum_zero b).symm
  | succ a ih =>
    show sSum (fun i => sSum (fun j => g i j) b) a + sSum (fun j => g a j) b = sSum (fun j => sSum (fun i => g i j) a + g a j) b
    rw [ih, sSum_plus]
theorem sSum_3 (h : Nat → Int32) (n : Nat) : sSum h (n * n * n) = sSum (fun w => sSum (fun y => sSum (fun x => h (idN n x y w)) n) n) n := by
  rw [show n * n * n = n * (n * n) from Nat.mul_assoc n n n, sSum_mul]
  refine sSum_congr (fun w _ => ?_)
  rw [sSum_mul]
  refine sSum_congr (fun y _ => sSum_congr (fun x _ => ?_))
  refine congrArg h ?_
  unfold idN
  grind
theorem sSum_ax {n a : Nat} (h : Nat → Int32) (ha : a < 3) : sSum (fun l => sSum (fun f => sSum (fun i => h (ixN n a i f l)) n) n) n = sSum h (n * n * n) := by
  rw [sSum_3]
  refine a3 (P := fun a => sSum (fun l => sSum (fun f => sSum (fun i => h (ixN n a i f l)) n) n) n = sSum (fun w => sSum (fun y => sSum (fun x => h (idN n x y w)) n) n) n) ?_ ?_ ?_ ha
  · exact sSum_congr (fun l _ => sSum_congr (fun f _ => sSum_congr (fun i _ => congrArg h (ix0 n i f l))))
  · refine sSum_congr (fun l _ => ?_)
    rw [sSum_swap (fun f i => h (ixN n 1 i f l))]
    exact sSum_congr (fun i _ => sSum_congr (fun f _ => congrArg h (ix1 n i f l)))
  · rw [sSum_congr (fun l (_ : l < n) => sSum_swap (fun f i => h (ixN n 2 i f l)) n n), sSum_swap (fun l i => sSum (fun f => h (ixN n 2 i f l)) n)]
    exact sSum_congr (fun i _ => sSum_congr (fun l _ => sSum_congr (fun f _ => congrArg h (ix2 n i f l))))
def prv (n i : Nat) : Nat := if i = 0 then n - 1 else i - 1
theorem prv_lt {n i : Nat} (hi : i < n) : prv n i < n := by
  unfold prv
  split <;> omega
theorem prv_s (n i : Nat) : prv n (i + 1) = i := by
  unfold prv
  rw [if_neg (by omega)]
  omega
theorem prv_nx {n j : Nat} (hj : j < n) : prv n ((j + 1) % n) = j := by
  rcases (show j + 1 < n ∨ j + 1 = n by omega) with h | h
  · rw [Nat.mod_eq_of_lt h, prv_s]
  · rw [h, Nat.mod_self]
    unfold prv
    rw [if_pos rfl]
    omega
theorem nx_prv {n i : Nat} (hi : i < n) : (prv n i + 1) % n = i := by
  unfold prv
  split
  · rename_i h
    rw [h, show n - 1 + 1 = n by omega, Nat.mod_self]
  · rw [show i - 1 + 1 = i by omega, Nat.mod_eq_of_lt hi]
theorem ixN_inj3 {n a i f l i' f' l' : Nat} (ha : a < 3) (hi : i < n) (hf : f < n) (hl : l < n) (hi' : i' < n) (hf' : f' < n) (hl' : l' < n) : ixN n a i f l = ixN n a i' f' l' → i = i' ∧ f = f' ∧ l = l' := by
  refine a3 (P := fun a => ixN n a i f l = ixN n a i' f' l' → i = i' ∧ f = f' ∧ l = l') ?_ ?_ ?_ ha
  · rw [ix0, ix0]
    intro h
    exact idN_inj hi hf hi' hf' h
  · rw [ix1, ix1]
    intro h
    have := idN_inj hf hi hf' hi' h
    exact ⟨this.2.1, this.1, this.2.2⟩
  · rw [ix2, ix2]
    intro h
    have := idN_inj hf hl hf' hl' h
    exact ⟨this.2.2, this.1, this.2.1⟩
theorem pbN_inj {a i f l i' f' l' : Nat} (ha : a < 3) (hi : i < 8) (hf : f < 8) (hl : l < 8) (hi' : i' < 8) (hf' : f' < 8) (hl' : l' < 8) : pbN a i f l = pbN a i' f' l' → i = i' ∧ f = f' ∧ l = l' := by
  refine a3 (P := fun a => pbN a i f l = pbN a i' f' l' → i = i' ∧ f = f' ∧ l = l') ?_ ?_ ?_ ha
  · show i + 8 * f + 64 * l = i' + 8 * f' + 64 * l' → _
    omega
  · show f + 8 * i + 64 * l = f' + 8 * i' + 64 * l' → _
    omega
  · show f + 8 * l + 64 * i = f' + 8 * l' + 64 * i' → _
    omega
theorem pbN_in {n a i f l : Nat} (ha : a < 3) (hn : n ≤ 8) (hi : i < n) (hf : f < n) (hl : l < n) : pbN a i f l < 512 ∧ inN n (pbN a i f l) := by
  obtain ⟨x, y, w, hx, hy, hw, -, e⟩ := pt_of (a := a) (n := n) ha hi hf hl
  rw [e]
  exact ⟨by omega, by omega, by omega, by omega⟩
theorem pt_to {n a x y w : Nat} (ha : a < 3) (hx : x < n) (hy : y < n) (hw : w < n) : ∃ i f l, i < n ∧ f < n ∧ l < n ∧ idN n x y w = ixN n a i f l ∧ x + 8 * y + 64 * w = pbN a i f l := by
  refine a3 (P := fun a => ∃ i f l, i < n ∧ f < n ∧ l < n ∧ idN n x y w = ixN n a i f l ∧ x + 8 * y + 64 * w = pbN a i f l) ?_ ?_ ?_ ha
  · exact ⟨x, y, w, hx, hy, hw, (ix0 n x y w).symm, rfl⟩
  · exact ⟨y, x, w, hy, hx, hw, (ix1 n y x w).symm, rfl⟩
  · exact ⟨w, x, y, hw, hx, hy, (ix2 n w x y).symm, rfl⟩
/-- a line shifted up to a place of it -/
def lnV (n a f l : Nat) (u : Nat → Int32) (t : Nat) : Nat → Int32 := fN (fun r i => upd r (ixN n a i f l) (u (ixN n a (prv n i) f l))) u t
theorem lnV_s (n a f l : Nat) (u : Nat → Int32) (t : Nat) : lnV n a f l u (t + 1) = upd (lnV n a f l u t) (ixN n a t f l) (u (ixN n a (prv n t) f l)) := rfl
theorem lnV_at {n a f l i : Nat} (u : Nat → Int32) (ha : a < 3) (hf : f < n) (hl : l < n) (hi : i < n) : ∀ t, t ≤ n → lnV n a f l u t (ixN n a i f l) = if i < t then u (ixN n a (prv n i) f l) else u (ixN n a i f l) := by
  intro t
  induction t with
  | zero => intro _; rfl
  | succ t ih =>
    intro ht
    rw [lnV_s]
    by_cases e : i = t
    · rw [e, pk_us, if_pos (by omega)]
    · rw [pk_un (fun q => e (ixN_inj3 ha hi hf hl (by omega) hf hl q).1), ih (by omega)]
      by_cases h : i < t
      · rw [if_pos h, if_pos (by omega)]
      · rw [if_neg h, if_neg (by omega)]
theorem lnV_out {n a f l k : Nat} (u : Nat → Int32) (hk : ∀ i, i < n → k ≠ ixN n a i f l) : ∀ t, t ≤ n → lnV n a f l u t k = u k := by
  intro t
  induction t with
  | zero => intro _; rfl
  | succ t ih =>
    intro ht
    rw [lnV_s, pk_un (hk t (by omega)), ih (by omega)]
def lnC (n a f l : Nat) (u : Nat → Int32) (i : Nat) : Int32 := if u (ixN n a i f l) = u (ixN n a (prv n i) f l) then 0 else 1
theorem p_shiftLine {n a f l : Nat} (u : Nat → Int32) (hn2 : 2 ≤ n) (hn : n ≤ 8) (ha : a < 3) (hf : f < n) (hl : l < n) : f_X5_shiftLine (nI a) (nI f) (nI l) (nI n) u = some (sSum (lnC n a f l u) n, lnV n a f l u n) := by
  have hst : ∀ i, ixN n a i f l + stN n a = ixN n a (i + 1) f l := fun i => by
    unfold ixN
    rw [Nat.add_mul]
    omega
  have h1 : nI n - 1 = nI (n - 1) := by
    obtain ⟨k, rfl⟩ : ∃ k, n = k + 1 := ⟨n - 1, by omega⟩
    exact nI_pred k
  have h2 : ixN n a 0 f l + (n - 1) * stN n a = ixN n a (n - 1) f l := by
    unfold ixN
    omega
  unfold f_X5_shiftLine
  rw [p_lineStart n f l ha, p_step n ha, h1, pk_mul, nI_add, h2, p_num u (ixN_lt ha (by omega) hf hl hn)]
  refine dz_it_count (fun i => (sSum (lnC n a f l u) i, nI (ixN n a i f l), u (ixN n a (prv n i) f l), nI i, lnV n a f l u i)) n rfl (by omega) (fun i hi => ?_) ?_
  · show f_X5_shiftLine_L40 (nI a) (nI n) (sSum (lnC n a f l u) i) (nI (ixN n a i f l)) (u (ixN n a (prv n i) f l)) (nI i) (lnV n a f l u i) = some (Sum.inl (sSum (lnC n a f l u) i + lnC n a f l u i, nI (ixN n a (i + 1) f l), u (ixN n a (prv n (i + 1)) f l), nI (i + 1), lnV n a f l u (i + 1)))
    have h512 := ixN_lt ha hi hf hl hn
    unfold f_X5_shiftLine_L40 f_X5_shiftLine_J67
    rw [if_neg (nI_ge hi (by omega)), p_num _ h512, lnV_at u ha hf hl hi i (by omega), if_neg (Nat.lt_irrefl i), p_step n ha, nI_add, hst, p_write _ _ h512, nI_1, prv_s, lnV_s]
    unfold lnC
    by_cases e : u (ixN n a i f l) = u (ixN n a (prv n i) f l)
    · rw [if_pos e, if_pos e, Int32.add_zero]
    · rw [if_neg e, if_neg e]
  · show f_X5_shiftLine_L40 (nI a) (nI n) _ _ _ (nI n) _ = _
    unfold f_X5_shiftLine_L40
    rw [if_pos (nI_le (Nat.le_refl _) (by omega))]
/-- the lines shifted one after another -/
def shV (n a : Nat) (v : Nat → Int32) (t : Nat) : Nat → Int32 := fN (fun u t => lnV n a (t % n) (t / n) u n) v t
theorem shV_s {n f l : Nat} (a : Nat) (v : Nat → Int32) (hf : f < n) : shV n a v (l * n + f + 1) = lnV n a f l (shV n a v (l * n + f)) n := by
  show lnV n a ((l * n + f) % n) ((l * n + f) / n) _ n = _
  rw [Nat.mul_comm l, Nat.mul_add_mod, Nat.mod_eq_of_lt hf, Nat.mul_add_div (by omega), Nat.div_eq_of_lt hf, Nat.add_zero]
  rfl
theorem shV_at {n a : Nat} (v : Nat → Int32) (ha : a < 3) : ∀ t, t ≤ n * n → ∀ i f l, i < n → f < n → l < n → shV n a v t (ixN n a i f l) = if l * n + f < t then v (ixN n a (prv n i) f l) else v (ixN n a i f l) := by
  intro t
  induction t with
  | zero => intro _ i f l _ _ _; rfl
  | succ t ih =>
    intro ht i f l hi hf hl
    obtain ⟨h1, h2⟩ := sl_dm (n := n) (o := t) (by omega)
    have h3 : t / n * n + t % n = t := by rw [Nat.mul_comm]; exact Nat.div_add_mod _ _
    have hs := shV_s a v h1 (l := t / n)
    rw [h3] at hs
    rw [hs]
    by_cases e : f = t % n ∧ l = t / n
    · rw [e.1, e.2, lnV_at _ ha h1 h2 hi n (Nat.le_refl n), if_pos hi, ih (by omega) _ _ _ (prv_lt hi) h1 h2, h3, if_neg (by omega), if_pos (by omega)]
    · rw [lnV_out _ (fun i' hi' q => e (ixN_inj3 ha hi hf hl hi' h1 h2 q).2) n (Nat.le_refl n), ih (by omega) _ _ _ hi hf hl]
      have hne : ¬ l * n + f = t := fun q => e (by
        rw [← q]
        refine ⟨?_, ?_⟩
        · rw [Nat.mul_comm, Nat.mul_add_mod, Nat.mod_eq_of_lt hf]
        · rw [Nat.mul_comm, Nat.mul_add_div (by omega), Nat.div_eq_of_lt hf, Nat.add_zero])
      by_cases h : l * n + f < t
      · rw [if_pos h, if_pos (by omega)]
      · rw [if_neg h, if_neg (by omega)]
/-- the numbers that change in a line -/
def shL (n a : Nat) (v : Nat → Int32) (f l : Nat) : Int32 := sSum (lnC n a f l v) n
theorem p_shift {n a : Nat} (v : Nat → Int32) (hn2 : 2 ≤ n) (hn : n ≤ 8) (ha : a < 3) (r : Int32 × Int32 × (Nat → SV)) : dz_it (fun s : Int32 × Int32 × (Nat → Int32) => f_X7_shift_L32 (nI a) (nI n) r s.1 s.2.1 s.2.2) (0, 0, v) = some (.inr (sSum (fun l => sSum (fun f => shL n a v f l) n) n, shV n a v (n * n), r.1, r.2.1, r.2.2)) := by
  refine dz_it_count (fun l => (sSum (fun l => sSum (fun f => shL n a v f l) n) l, nI l, shV n a v (l * n))) n ?_ (by omega) (fun l hl => ?_) ?_
  · rw [Nat.zero_mul]; rfl
  · show f_X7_shift_L32 (nI a) (nI n) r (sSum (fun l => sSum (fun f => shL n a v f l) n) l) (nI l) (shV n a v (l * n)) = _
    unfold f_X7_shift_L32
    rw [if_neg (nI_ge hl (by omega))]
    refine dz_it_count (fun f => (sSum (fun l => sSum (fun f => shL n a v f l) n) l + sSum (fun f => shL n a v f l) f, nI f, shV n a v (l * n + f))) n ?_ (by omega) (fun f hf => ?_) ?_
    · show _ = (sSum (fun l => sSum (fun f => shL n a v f l) n) l + 0, nI 0, shV n a v (l * n))
      rw [Int32.add_zero]
      rfl
    · show f_X7_shift_L46 (nI a) (nI n) (nI l) (sSum (fun l => sSum (fun f => shL n a v f l) n) l + sSum (fun f => shL n a v f l) f) (nI f) (shV n a v (l * n + f)) = some (Sum.inl (sSum (fun l => sSum (fun f => shL n a v f l) n) l + (sSum (fun f => shL n a v f l) f + shL n a v f l), nI (f + 1), shV n a v (l * n + f + 1)))
      have hlt := fl_lt hf hl
      have hc : sSum (lnC n a f l (shV n a v (l * n + f))) n = shL n a v f l := sSum_congr (fun i hi => by
        unfold lnC
        rw [shV_at v ha _ (by omega) _ _ _ hi hf hl, shV_at v ha _ (by omega) _ _ _ (prv_lt hi) hf hl, if_neg (Nat.lt_irrefl _), if_neg (Nat.lt_irrefl _)])
      unfold f_X7_shift_L46
      rw [if_neg (nI_ge hf (by omega)), p_shiftLine _ hn2 hn ha hf hl, Option.bind_some, hc, nI_1, shV_s a v hf, Int32.add_assoc]
    · show f_X7_shift_L46 (nI a) (nI n) (nI l) _ (nI n) _ = _
      unfold f_X7_shift_L46
      rw [if_pos (nI_le (Nat.le_refl _) (by omega)), nI_1, show (l + 1) * n = l * n + n from Nat.succ_mul l n]
      rfl
  · show f_X7_shift_L32 (nI a) (nI n) r _ (nI n) _ = _
    unfold f_X7_shift_L32
    rw [if_pos (nI_le (Nat.le_refl _) (by omega))]
/-! the model -/
def shZ (n a : Nat) (z : Nat → Int32) (t : Nat) : Nat → Int32 := fN (fun u t => upd u (3 + pbN a ((t / (n * n) + 1) % n) (t % n) (t / n % n)) (z (3 + pbN a (t / (n * n)) (t % n) (t / n % n)))) z t
theorem shZ_s (n a : Nat) (z : Nat → Int32) (t : Nat) : shZ n a z (t + 1) = upd (shZ n a z t) (3 + pbN a ((t / (n * n) + 1) % n) (t % n) (t / n % n)) (z (3 + pbN a (t / (n * n)) (t % n) (t / n % n))) := rfl
theorem shZ_at {n a : Nat} (z : Nat → Int32) (hn2 : 2 ≤ n) (hn : n ≤ 8) (ha : a < 3) : ∀ t, t ≤ n * n * n → ∀ i f l, i < n → f < n → l < n → shZ n a z t (3 + pbN a i f l) = if prv n i * (n * n) + (l * n + f) < t then z (3 + pbN a (prv n i) f l) else z (3 + pbN a i f l) := by
  intro t
  induction t with
  | zero => intro _ i f l _ _ _; rfl
  | succ t ih =>
    intro ht i f l hi hf hl
    obtain ⟨h1, h2, h3⟩ := tn_lt (n := n) (t := t) hn2 (by omega)
    have hb := t_back (s := n) (t := t) (by omega)
    have h4 : (t / (n * n) + 1) % n < n := Nat.mod_lt _ (by omega)
    rw [shZ_s]
    by_cases e : i = (t / (n * n) + 1) % n ∧ f = t % n ∧ l = t / n % n
    · obtain ⟨rfl, rfl, rfl⟩ := e
      rw [pk_us, prv_nx h1, if_pos (by omega)]
    · rw [pk_un (fun q => e (pbN_inj ha (by omega) (by omega) (by omega) (by omega) (by omega) (by omega) (show pbN a i f l = _ by omega))), ih (by omega) _ _ _ hi hf hl]
      have hne : ¬ prv n i * (n * n) + (l * n + f) = t := fun q => e (by
        obtain ⟨p1, p2, p3⟩ := tn_parts (A := prv n i) hl hf
        rw [q] at p1 p2 p3
        rw [p1, p2, p3, nx_prv hi]
        exact ⟨rfl, rfl, rfl⟩)
      by_cases h : prv n i * (n * n) + (l * n + f) < t
      · rw [if_pos h, if_pos (by omega)]
      · rw [if_neg h, if_neg (by omega)]
theorem shZ_out {n a k : Nat} (z : Nat → Int32) (hn2 : 2 ≤ n) (hk : ∀ i f l, i < n → f < n → l < n → k ≠ 3 + pbN a i f l) : ∀ t, t ≤ n * n * n → shZ n a z t k = z k := by
  intro t
  induction t with
  | zero => intro _; rfl
  | succ t ih =>
    intro ht
    obtain ⟨h1, h2, h3⟩ := tn_lt (n := n) (t := t) hn2 (by omega)
    rw [shZ_s, pk_un (hk _ _ _ (Nat.mod_lt _ (by omega)) h2 h3), ih (by omega)]
theorem sh_all {n i f l : Nat} (hi : i < n) (hf : f < n) (hl : l < n) : prv n i * (n * n) + (l * n + f) < n * n * n := by
  have h1 := fl_lt hf hl
  have h2 : prv n i * (n * n) + n * n ≤ n * (n * n) := by rw [← Nat.succ_mul]; exact Nat.mul_le_mul_right _ (prv_lt hi)
  rw [Nat.mul_assoc]
  omega
theorem sh_CR {z v w : Nat → Int32} {n a m b : Nat} (h : CR z v w n a m) (hb : b < 3) : CR (shZ n b z (n * n * n)) (shV n b v (n * n)) w n a m := by
  obtain ⟨⟨⟨h1, h2, h3, h4⟩, h5, h6, h7, h8, h9, h10, h11⟩, h12, h13⟩ := h
  have hv : ∀ i f l, i < n → f < n → l < n → shV n b v (n * n) (ixN n b i f l) = v (ixN n b (prv n i) f l) := fun i f l hi hf hl => (shV_at v hb _ (Nat.le_refl _) i f l hi hf hl).trans (if_pos (fl_lt hf hl))
  have hz : ∀ i f l, i < n → f < n → l < n → shZ n b z (n * n * n) (3 + pbN b i f l) = z (3 + pbN b (prv n i) f l) := fun i f l hi hf hl => (shZ_at z h1 h2 hb _ (Nat.le_refl _) i f l hi hf hl).trans (if_pos (sh_all hi hf hl))
  have ho : ∀ k, (∀ i f l, i < n → f < n → l < n → k ≠ 3 + pbN b i f l) → shZ n b z (n * n * n) k = z k := fun k hk => shZ_out z h1 hk _ (Nat.le_refl _)
  have hfar : ∀ k, k < 3 ∨ 515 ≤ k → shZ n b z (n * n * n) k = z k := fun k hk => ho k (fun i f l hi hf hl => by
    have := (pbN_in hb h2 hi hf hl).1
    omega)
  have hout : ∀ k, k < 512 → ¬ inN n k → shZ n b z (n * n * n) (3 + k) = z (3 + k) := fun k hk hk2 => ho _ (fun i f l hi hf hl q => hk2 (by
    have := (pbN_in hb h2 hi hf hl).2
    rw [show k = pbN b i f l by omega]
    exact this))
  have hval : ∀ i f l, i < n → f < n → l < n → z (3 + pbN b i f l) = v (ixN n b i f l) := fun i f l hi hf hl => by
    obtain ⟨x, y, u, hx, hy, hu, e1, e2⟩ := pt_of (a := b) (n := n) hb hi hf hl
    rw [e1, e2]
    exact h4 x y u hx hy hu
  refine ⟨⟨⟨h1, h2, ?_, fun x y u hx hy hu => ?_⟩, ?_, h6, ?_, h8, h9, fun x y u hx hy hu => ?_, fun k hk hk2 => ⟨?_, ?_⟩⟩, fun x y u hx hy hu => ?_, h13⟩
  · rw [hfar 0 (by omega)]; exact h3
  · obtain ⟨i, f, l, hi, hf, hl, e1, e2⟩ := pt_to (a := b) hb hx hy hu
    rw [e1, e2, hz i f l hi hf hl, hv i f l hi hf hl]
    exact hval _ _ _ (prv_lt hi) hf hl
  · rw [hfar 1 (by omega)]; exact h5
  · rw [hfar 2 (by omega)]; exact h7
  · rw [hfar _ (by omega)]; exact h10 x y u hx hy hu
  · rw [hout k hk hk2]; exact (h11 k hk hk2).1
  · rw [hfar _ (by omega)]; exact (h11 k hk hk2).2
  · obtain ⟨i, f, l, hi, hf, hl, e1, e2⟩ := pt_to (a := b) hb hx hy hu
    rw [e1, hv i f l hi hf hl]
    exact h12.by hb (prv_lt hi) hf hl
theorem p8_others (z P : Nat → Int32) : f_X8_others z P = some (sSum (fun k => if z (3 + k) = P k then 0 else 1) 512) := by
  refine dz_it_count (fun t => (sSum (fun k => if z (3 + k) = P k then 0 else 1) t, nI t)) 512 rfl (by omega) (fun t ht => ?_) ?_
  · show f_X8_others_L4 z P (sSum (fun k => if z (3 + k) = P k then 0 else 1) t) (nI t) = some (Sum.inl (sSum (fun k => if z (3 + k) = P k then 0 else 1) t + (if z (3 + t) = P t then 0 else 1), nI (t + 1)))
    unfold f_X8_others_L4 f_X8_others_J34
    rw [if_neg (show ¬ (512 : Int32) ≤ nI t from nI_ge (b := 512) ht (by decide)), i3, dz_in_nI _ (by omega) (by decide), dz_in_nI _ (by omega) (by decide), nI_clamp (by omega), nI_clamp (by omega), nI_1]
    split <;> rfl
  · show f_X8_others_L4 z P _ (nI 512) = _
    unfold f_X8_others_L4
    rw [if_pos (by decide)]
theorem sh_count {z v w P : Nat → Int32} {n a m b : Nat} (h : CR z v w n a m) (hb : b < 3) : sSum (fun k => if shZ n b z (n * n * n) (3 + k) = cpN P (fun k => z (3 + k)) 0 512 k then (0 : Int32) else 1) 512 = sSum (fun l => sSum (fun f => shL n b v f l) n) n := by
  have hc := sh_CR h hb
  have hn := h.1.1.2.1
  have hP : ∀ k, k < 512 → cpN P (fun k => z (3 + k)) 0 512 k = z (3 + k) := fun k hk => (cpN_in (by omega) (by omega)).trans (by rw [Nat.sub_zero])
  rw [sSum_grid (n := n) (h := fun k => if shV n b v (n * n) k = v k then (0 : Int32) else 1) hn (fun k hk hk2 => if_pos (by
    rw [hP k hk, (h.1.2.2.2.2.2.2.2 k hk hk2).1, (hc.1.2.2.2.2.2.2.2 k hk hk2).1])) (fun x y u hx hy hu => by
    rw [hP _ (by omega), h.1.1.2.2.2 x y u hx hy hu, hc.1.1.2.2.2 x y u hx hy hu]), ← sSum_ax (a := b) _ hb]
  refine sSum_congr (fun l hl => sSum_congr (fun f hf => sSum_congr (fun i hi => ?_)))
  show (if shV n b v (n * n) (ixN n b i f l) = v (ixN n b i f l) then (0 : Int32) else 1) = lnC n b f l v i
  unfold lnC
  rw [(shV_at v hb _ (Nat.le_refl _) i f l hi hf hl).trans (if_pos (fl_lt hf hl))]
  by_cases e : v (ixN n b i f l) = v (ixN n b (prv n i) f l)
  · rw [if_pos e, if_pos e.symm]
  · rw [if_neg e, if_neg (fun q => e q.symm)]
theorem o_shift {z v w U : Nat → Int32} {n a m : Nat} {oO oS V : Int32} {hv : Nat → SV} (h : CR z v w n a m) (hh : HR oO oS hv U V) (p : Int32) (P : Nat → Int32) : (f_X7_shift p (nI n) (nI a) (nI m) v w oO oS hv = some (.inl 2) ∧ f_X8_shift p z U V P = some (0, 1, z, U, V, P)) ∨ ∃ s v' O S H z' U' V' P', f_X7_shift p (nI n) (nI a) (nI m) v w oO oS hv = some (.inr (s, v', O, S, H)) ∧ f_X8_shift p z U V P = some (s, 0, z', U', V', P') ∧ CR z' v' w n a m ∧ HR O S H U' V' := by
  unfold f_X7_shift f_X8_shift f_X8_shift_J13
  rw [g_axis]
  by_cases h1 : f_X7_isAxis p = 0
  · rw [if_pos h1, if_pos h1, if_neg (by decide)]
    exact Or.inl ⟨rfl, rfl⟩
  · obtain ⟨b, hb, rfl⟩ := g_axis_of h1
    obtain ⟨O, S, H, U', V', e1, e2, e3⟩ := o_save h hh
    have hn := h.1.1.2.1
    have hn2 := h.1.1.1
    have hnn : n * n ≤ 64 := Nat.mul_le_mul hn hn
    have h0 : 0 < n * n := Nat.mul_pos (by omega) (by omega)
    have h512 := cube_le hn
    have hz0 : z 0 = nI n := h.1.1.2.2.1
    rw [if_neg h1, if_neg h1, if_pos (by decide), e1, e2, Option.bind_some, Option.bind_some, p_shift v hn2 hn hb, p8_aside, Option.bind_some]
    refine Or.inr ⟨sSum (fun l => sSum (fun f => shL n b v f l) n) n, shV n b v (n * n), O, S, H, shZ n b z (n * n * n), U', V', cpN P (fun k => z (3 + k)) 0 512, rfl, ?_, sh_CR h hb, e3⟩
    refine dz_it_count (fun t => (nI t, shZ n b z t)) (n * n * n) rfl (by omega) (fun t ht => ?_) ?_
    · show f_X8_shift_L42 (nI b) z (U', V') (cpN P (fun k => z (3 + k)) 0 512) 0 (nI t) (shZ n b z t) = some (Sum.inl (nI (t + 1), shZ n b z (t + 1)))
      obtain ⟨q1, q2, q3⟩ := tn_lt hn2 ht
      have q4 : (t / (n * n) + 1) % n < n := Nat.mod_lt _ (by omega)
      have hd : t / n ≤ t := Nat.div_le_self _ _
      have p1 := (pbN_in hb hn q1 q2 q3).1
      have p2 := (pbN_in hb hn q4 q2 q3).1
      unfold f_X8_shift_L42
      rw [hz0, pk_mul, pk_mul, if_neg (nI_ge ht (by omega)), dz_nz_nI _ h0 (by omega), dz_nz_nI _ (by omega) (by omega), dz_nz_nI _ (by omega) (by omega), dz_nz_nI _ (by omega) (by omega), dz_nz_nI _ (by omega) (by omega), pk_rem (a := t) (d := n) (by omega) (by omega) (by omega), pk_div (a := t) (d := n) (by omega) (by omega) (by omega), pk_rem (a := t / n) (d := n) (by omega) (by omega) (by omega), pk_div (a := t) (d := n * n) (by omega) h0 (by omega), nI_1, nI_1, pk_rem (a := t / (n * n) + 1) (d := n) (by omega) (by omega) (by omega), p8_placeBy _ _ _ hb, p8_placeBy _ _ _ hb, i3, dz_in_nI _ p1 (by decide), dz_in_nI _ (by omega) (by decide), nI_clamp (by omega), nI_clamp (by omega), cpN_in (by omega) (by omega), Nat.sub_zero, shZ_s]
    · show f_X8_shift_L42 (nI b) z (U', V') (cpN P (fun k => z (3 + k)) 0 512) 0 (nI (n * n * n)) (shZ n b z (n * n * n)) = _
      unfold f_X8_shift_L42
      rw [hz0, pk_mul, pk_mul, if_pos (nI_le (Nat.le_refl _) (by omega)), p8_others, sh_count h hb, Option.bind_some]
