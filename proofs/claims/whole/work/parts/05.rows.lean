/-! the three row helpers of CubeSlices, by hand -/
theorem j_vpin {i : Int32} {n : Nat} (hn : n < 2 ^ 31) (h0 : ¬ i < 0) (h : ¬ Int32.ofNat n ≤ i) : vp_in i n := by
  rcases pk_ix i hn with h1 | h1 | ⟨j, hj, rfl⟩
  · exact absurd h1 h0
  · exact absurd h1 h
  · exact vp_in_nI hj hn
def f_X7_cell (n : Nat) (f : Nat → Int32) (i : Int32) : Int32 := if i < 0 then 0 else if Int32.ofNat n ≤ i then 0 else f i.toNatClampNeg
abbrev rm_X7_cell : Room := { frames := 1, cells := 0, slots := 0, locals := 16 }
theorem k_X7_cell : Cf yX7_cell wsX7_cell rm_X7_cell cX7_cell 2 (some .int) 2 := ⟨⟨_, rfl⟩, by decide +kernel, by decide +kernel, by decide +kernel⟩
set_option maxRecDepth 100000 in
set_option maxHeartbeats 4000000 in
theorem c_X7_cell (G : CG) (hl : (gL G).stackTraces = false) (q n : Nat) (f : Nat → Int32) (p1 : Int32) (hn : n < 2 ^ 31) : Ct G yX7_cell wsX7_cell rm_X7_cell [.ref q, .int p1] [(q, .inl (gI G, n, .inl f))] (fin1 (some (.int (f_X7_cell n f p1))) [(q, .inl (gI G, n, .inl f))]) 0 0 := by
  refine Ct.of (cc := cX7_cell) (N := 2) (ret := some .int) RX7 (by decide) rfl rfl hl (Nat.le_of_ble_eq_true rfl) (lv := [(0, .ref q), (1, .int p1)]) rfl (fun X hXG C hex hnm hQ => ?_)
  subst hXG
  obtain ⟨y, hf⟩ : ∃ y, f_X7_cell n f p1 = y := ⟨_, rfl⟩
  rw [hf] at hQ
  unfold f_X7_cell at hf
  refine j_aload_n C dX7_cell_0 rfl 0 rfl ?_
  refine j_ifnull C dX7_cell_1 ?_
  refine j_iload_n C dX7_cell_4 rfl 1 rfl ?_
  refine j_if_lt C (tgt := 20) dX7_cell_5 (by decide) (fun e => ?_) (fun e => ?_)
  · have hf := (if_pos e).symm.trans hf
    subst hf
    refine j_iconst C (v := 0) dX7_cell_20 (by decide) ?_
    exact j_iret C hQ rfl dX7_cell_21 (Nat.zero_le _) (Nat.zero_le _) ⟨rfl, rfl⟩
  · have hf := (if_neg e).symm.trans hf
    refine j_iload_n C dX7_cell_8 rfl 1 rfl ?_
    refine j_aload_n C dX7_cell_9 rfl 0 rfl ?_
    refine j_alen C (v := Int32.ofNat n) 0 rfl rfl dX7_cell_10 ?_
    refine j_icmp_ge C (tgt := 20) dX7_cell_11 (by decide) (fun e2 => ?_) (fun e2 => ?_)
    · have hf := (if_pos e2).symm.trans hf
      subst hf
      refine j_iconst C (v := 0) dX7_cell_20 (by decide) ?_
      exact j_iret C hQ rfl dX7_cell_21 (Nat.zero_le _) (Nat.zero_le _) ⟨rfl, rfl⟩
    · have hf := (if_neg e2).symm.trans hf
      subst hf
      refine j_aload_n C dX7_cell_14 rfl 0 rfl ?_
      refine j_iload_n C dX7_cell_15 rfl 1 rfl ?_
      refine j_iald C 0 rfl (j_vpin hn e e2) dX7_cell_16 ?_
      refine j_goto C (tgt := 21) dX7_cell_17 (by decide) ?_
      exact j_iret C hQ rfl dX7_cell_21 (Nat.zero_le _) (Nat.zero_le _) ⟨rfl, rfl⟩
def f_X7_setCell (n : Nat) (f : Nat → Int32) (i x : Int32) : Nat → Int32 := if i < 0 then f else if Int32.ofNat n ≤ i then f else upd f i.toNatClampNeg x
abbrev rm_X7_setCell : Room := { frames := 1, cells := 0, slots := 0, locals := 16 }
theorem k_X7_setCell : Cf yX7_setCell wsX7_setCell rm_X7_setCell cX7_setCell 3 none 3 := ⟨⟨_, rfl⟩, by decide +kernel, by decide +kernel, by decide +kernel⟩
set_option maxRecDepth 100000 in
set_option maxHeartbeats 4000000 in
theorem c_X7_setCell (G : CG) (hl : (gL G).stackTraces = false) (q n : Nat) (f : Nat → Int32) (p1 p2 : Int32) (hn : n < 2 ^ 31) : Ct G yX7_setCell wsX7_setCell rm_X7_setCell [.ref q, .int p1, .int p2] [(q, .inl (gI G, n, .inl f))] (fin1 none [(q, .inl (gI G, n, .inl (f_X7_setCell n f p1 p2)))]) 0 0 := by
  refine Ct.of (cc := cX7_setCell) (N := 3) (ret := none) RX7 (by decide) rfl rfl hl (Nat.le_of_ble_eq_true rfl) (lv := [(0, .ref q), (1, .int p1), (2, .int p2)]) rfl (fun X hXG C hex hnm hQ => ?_)
  subst hXG
  obtain ⟨y, hf⟩ : ∃ y, f_X7_setCell n f p1 p2 = y := ⟨_, rfl⟩
  rw [hf] at hQ
  unfold f_X7_setCell at hf
  refine j_aload_n C dX7_setCell_0 rfl 0 rfl ?_
  refine j_ifnull C dX7_setCell_1 ?_
  refine j_iload_n C dX7_setCell_4 rfl 1 rfl ?_
  refine j_if_lt C (tgt := 18) dX7_setCell_5 (by decide) (fun e => ?_) (fun e => ?_)
  · have hf := (if_pos e).symm.trans hf
    subst hf
    exact j_vret C hQ rfl dX7_setCell_18 (Nat.zero_le _) (Nat.zero_le _) ⟨rfl, rfl⟩
  · have hf := (if_neg e).symm.trans hf
    refine j_iload_n C dX7_setCell_8 rfl 1 rfl ?_
    refine j_aload_n C dX7_setCell_9 rfl 0 rfl ?_
    refine j_alen C (v := Int32.ofNat n) 0 rfl rfl dX7_setCell_10 ?_
    refine j_icmp_ge C (tgt := 18) dX7_setCell_11 (by decide) (fun e2 => ?_) (fun e2 => ?_)
    · have hf := (if_pos e2).symm.trans hf
      subst hf
      exact j_vret C hQ rfl dX7_setCell_18 (Nat.zero_le _) (Nat.zero_le _) ⟨rfl, rfl⟩
    · have hf := (if_neg e2).symm.trans hf
      subst hf
      refine j_aload_n C dX7_setCell_14 rfl 0 rfl ?_
      refine j_iload_n C dX7_setCell_15 rfl 1 rfl ?_
      refine j_iload_n C dX7_setCell_16 rfl 2 rfl ?_
      refine j_iast C (ws' := [(q, .inl (gI X.1, n, .inl (upd f p1.toNatClampNeg p2)))]) 0 rfl (j_vpin hn e e2) rfl dX7_setCell_17 ?_
      exact j_vret C hQ rfl dX7_setCell_18 (Nat.zero_le _) (Nat.zero_le _) ⟨rfl, rfl⟩
def f_X7_copyRow (n0 : Nat) (f : Nat → Int32) (n1 : Nat) (g : Nat → Int32) : Nat → Int32 := if Int32.ofNat n1 < Int32.ofNat n0 then g else va_cpy f g 0 0 n0
abbrev rm_X7_copyRow : Room := { frames := 1, cells := 0, slots := 0, locals := 40 }
theorem k_X7_copyRow : Cf yX7_copyRow wsX7_copyRow rm_X7_copyRow cX7_copyRow 2 none 2 := ⟨⟨_, rfl⟩, by decide +kernel, by decide +kernel, by decide +kernel⟩
theorem j_leN {a b : Nat} (ha : a < 2 ^ 31) (hb : b < 2 ^ 31) (h : ¬ Int32.ofNat b < Int32.ofNat a) : a ≤ b := by
  rcases Nat.lt_or_ge b a with h1 | h1
  · exact absurd (nI_lt h1 ha) h
  · exact h1
set_option maxRecDepth 100000 in
set_option maxHeartbeats 4000000 in
theorem c_X7_copyRow (G : CG) (hl : (gL G).stackTraces = false) (q0 q1 n0 n1 : Nat) (f g : Nat → Int32) (hn0 : n0 < 2 ^ 31) (hn1 : n1 < 2 ^ 31) : Ct G yX7_copyRow wsX7_copyRow rm_X7_copyRow [.ref q0, .ref q1] [(q0, .inl (gI G, n0, .inl f)), (q1, .inl (gI G, n1, .inl g))] (fin1 none [(q0, .inl (gI G, n0, .inl f)), (q1, .inl (gI G, n1, .inl (f_X7_copyRow n0 f n1 g)))]) 0 0 := by
  refine Ct.of (cc := cX7_copyRow) (N := 2) (ret := none) RX7 (by decide) rfl rfl hl (Nat.le_of_ble_eq_true rfl) (lv := [(0, .ref q0), (1, .ref q1)]) rfl (fun X hXG C hex hnm hQ => ?_)
  subst hXG
  obtain ⟨y, hf⟩ : ∃ y, f_X7_copyRow n0 f n1 g = y := ⟨_, rfl⟩
  rw [hf] at hQ
  unfold f_X7_copyRow at hf
  refine j_aload_n C dX7_copyRow_0 rfl 0 rfl ?_
  refine j_ifnull C dX7_copyRow_1 ?_
  refine j_aload_n C dX7_copyRow_4 rfl 1 rfl ?_
  refine j_ifnull C dX7_copyRow_5 ?_
  refine j_aload_n C dX7_copyRow_8 rfl 0 rfl ?_
  refine j_alen C (v := Int32.ofNat n0) 0 rfl rfl dX7_copyRow_9 ?_
  refine j_aload_n C dX7_copyRow_10 rfl 1 rfl ?_
  refine j_alen C (v := Int32.ofNat n1) 1 rfl rfl dX7_copyRow_11 ?_
  refine j_icmp_gt C (tgt := 24) dX7_copyRow_12 (by decide) (fun e => ?_) (fun e => ?_)
  · have hf := (if_pos e).symm.trans hf
    subst hf
    exact j_vret C hQ rfl dX7_copyRow_24 (Nat.zero_le _) (Nat.zero_le _) ⟨rfl, rfl⟩
  · have hf := (if_neg e).symm.trans hf
    subst hf
    refine j_aload_n C dX7_copyRow_15 rfl 0 rfl ?_
    refine j_iconst C (v := 0) dX7_copyRow_16 (by decide) ?_
    refine j_aload_n C dX7_copyRow_17 rfl 1 rfl ?_
    refine j_iconst C (v := 0) dX7_copyRow_18 (by decide) ?_
    refine j_aload_n C dX7_copyRow_19 rfl 0 rfl ?_
    refine j_alen C (v := Int32.ofNat n0) 0 rfl rfl dX7_copyRow_20 ?_
    have hcl : (Int32.ofNat n0).toNatClampNeg = n0 := nI_clamp hn0
    refine j_copy C (ws' := [(q0, .inl (gI X.1, n0, .inl f)), (q1, .inl (gI X.1, n1, .inl (va_cpy f g 0 0 n0)))]) 0 1 rfl rfl (nI_pos hn0) (by rw [hcl]; exact Nat.le_refl _) (by rw [hcl]; exact j_leN hn0 hn1 e) (by decide +kernel) (by decide +kernel) (by decide +kernel) (by decide +kernel) (by decide) (by decide +kernel) (by rw [hcl]; rfl) dX7_copyRow_21 ?_
    exact j_vret C hQ rfl dX7_copyRow_24 (Nat.zero_le _) (Nat.zero_le _) ⟨rfl, rfl⟩
