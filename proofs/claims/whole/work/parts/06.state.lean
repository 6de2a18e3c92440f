noncomputable section
def f_X7_formerOf (p1 : Int32) : Int32 :=
  if p1 = 0 then 1 else 0
abbrev rm_X7_formerOf : Room := { frames := 1, cells := 0, slots := 0, locals := 16 }
theorem k_X7_formerOf : Cf yX7_formerOf wsX7_formerOf rm_X7_formerOf cX7_formerOf 1 (some .int) 1 := ⟨⟨_, rfl⟩, by decide +kernel, by decide +kernel, by decide +kernel⟩
set_option maxRecDepth 100000 in
set_option maxHeartbeats 4000000 in
theorem b_X7_formerOf (G : CG) (hl : (gL G).stackTraces = false) (p1 : Int32) (y : Int32) (hf : f_X7_formerOf p1 = y) : Ct G yX7_formerOf wsX7_formerOf rm_X7_formerOf [.int p1] [] (fin1 (some (.int y)) []) 0 0 := by
  refine Ct.of (cc := cX7_formerOf) (N := 1) (ret := (some .int)) RX7 (by decide) rfl rfl hl (Nat.le_of_ble_eq_true rfl) (lv := [(0, .int p1)]) rfl (fun X hXG C hex hnm hQ => ?_)
  subst hXG
  unfold f_X7_formerOf at hf
  refine j_iload_n C dX7_formerOf_0 rfl 0 rfl ?_
  refine j_if_ne C (tgt := 8) dX7_formerOf_1 (by decide) (fun e1 => ?_) (fun e1 => ?_)
  · have hf := (if_neg e1).symm.trans hf
    refine j_iconst C (v := 0) dX7_formerOf_8 (by decide) ?_
    subst hf
    exact j_iret C hQ rfl dX7_formerOf_9 (Nat.zero_le _) (Nat.zero_le _) ⟨rfl, rfl⟩
  · have hf := (if_pos e1).symm.trans hf
    refine j_iconst C (v := 1) dX7_formerOf_4 (by decide) ?_
    refine j_goto C (tgt := 9) dX7_formerOf_5 (by decide) ?_
    subst hf
    exact j_iret C hQ rfl dX7_formerOf_9 (Nat.zero_le _) (Nat.zero_le _) ⟨rfl, rfl⟩
theorem c_X7_formerOf (G : CG) (hl : (gL G).stackTraces = false) (p1 : Int32) : Ct G yX7_formerOf wsX7_formerOf rm_X7_formerOf [.int p1] [] (fin1 (some (.int (f_X7_formerOf p1))) []) 0 0 := b_X7_formerOf G hl p1 _ rfl

def f_X7_latterOf (p1 : Int32) : Int32 :=
  if p1 = 2 then 1 else 2
abbrev rm_X7_latterOf : Room := { frames := 1, cells := 0, slots := 0, locals := 16 }
theorem k_X7_latterOf : Cf yX7_latterOf wsX7_latterOf rm_X7_latterOf cX7_latterOf 1 (some .int) 1 := ⟨⟨_, rfl⟩, by decide +kernel, by decide +kernel, by decide +kernel⟩
set_option maxRecDepth 100000 in
set_option maxHeartbeats 4000000 in
theorem b_X7_latterOf (G : CG) (hl : (gL G).stackTraces = false) (p1 : Int32) (y : Int32) (hf : f_X7_latterOf p1 = y) : Ct G yX7_latterOf wsX7_latterOf rm_X7_latterOf [.int p1] [] (fin1 (some (.int y)) []) 0 0 := by
  refine Ct.of (cc := cX7_latterOf) (N := 1) (ret := (some .int)) RX7 (by decide) rfl rfl hl (Nat.le_of_ble_eq_true rfl) (lv := [(0, .int p1)]) rfl (fun X hXG C hex hnm hQ => ?_)
  subst hXG
  unfold f_X7_latterOf at hf
  refine j_iload_n C dX7_latterOf_0 rfl 0 rfl ?_
  refine j_iconst C (v := 2) dX7_latterOf_1 (by decide) ?_
  refine j_icmp_ne C (tgt := 9) dX7_latterOf_2 (by decide) (fun e2 => ?_) (fun e2 => ?_)
  · have hf := (if_neg e2).symm.trans hf
    refine j_iconst C (v := 2) dX7_latterOf_9 (by decide) ?_
    subst hf
    exact j_iret C hQ rfl dX7_latterOf_10 (Nat.zero_le _) (Nat.zero_le _) ⟨rfl, rfl⟩
  · have hf := (if_pos e2).symm.trans hf
    refine j_iconst C (v := 1) dX7_latterOf_5 (by decide) ?_
    refine j_goto C (tgt := 10) dX7_latterOf_6 (by decide) ?_
    subst hf
    exact j_iret C hQ rfl dX7_latterOf_10 (Nat.zero_le _) (Nat.zero_le _) ⟨rfl, rfl⟩
theorem c_X7_latterOf (G : CG) (hl : (gL G).stackTraces = false) (p1 : Int32) : Ct G yX7_latterOf wsX7_latterOf rm_X7_latterOf [.int p1] [] (fin1 (some (.int (f_X7_latterOf p1))) []) 0 0 := b_X7_latterOf G hl p1 _ rfl

def f_X7_isAxis_J13 : Int32 :=
  0
def f_X7_isAxis (p1 : Int32) : Int32 :=
  if p1 < 0 then f_X7_isAxis_J13 else if 3 ≤ p1 then f_X7_isAxis_J13 else 1
abbrev rm_X7_isAxis : Room := { frames := 1, cells := 0, slots := 0, locals := 16 }
theorem k_X7_isAxis : Cf yX7_isAxis wsX7_isAxis rm_X7_isAxis cX7_isAxis 1 (some .boolean) 1 := ⟨⟨_, rfl⟩, by decide +kernel, by decide +kernel, by decide +kernel⟩
set_option maxRecDepth 100000 in
set_option maxHeartbeats 4000000 in
theorem b_X7_isAxis (G : CG) (hl : (gL G).stackTraces = false) (p1 : Int32) (y : Int32) (hf : f_X7_isAxis p1 = y) : Ct G yX7_isAxis wsX7_isAxis rm_X7_isAxis [.int p1] [] (fin1 (some (.int y)) []) 0 0 := by
  refine Ct.of (cc := cX7_isAxis) (N := 1) (ret := (some .boolean)) RX7 (by decide) rfl rfl hl (Nat.le_of_ble_eq_true rfl) (lv := [(0, .int p1)]) rfl (fun X hXG C hex hnm hQ => ?_)
  subst hXG
  unfold f_X7_isAxis at hf
  refine j_iload_n C dX7_isAxis_0 rfl 0 rfl ?_
  have k13 : f_X7_isAxis_J13 = y → Jt X [] 0 0 13 [(0, .int p1)] [] := by
    intro  hf
    unfold f_X7_isAxis_J13 at hf
    refine j_iconst C (v := 0) dX7_isAxis_13 (by decide) ?_
    subst hf
    exact j_zret C hQ rfl rfl dX7_isAxis_14 (Nat.zero_le _) (Nat.zero_le _) ⟨rfl, rfl⟩
  refine j_if_lt C (tgt := 13) dX7_isAxis_1 (by decide) (fun e1 => ?_) (fun e1 => ?_)
  · have hf := (if_pos e1).symm.trans hf
    refine j_loc [0] rfl ?_
    exact k13  hf
  · have hf := (if_neg e1).symm.trans hf
    refine j_iload_n C dX7_isAxis_4 rfl 0 rfl ?_
    refine j_iconst C (v := 3) dX7_isAxis_5 (by decide) ?_
    refine j_icmp_ge C (tgt := 13) dX7_isAxis_6 (by decide) (fun e6 => ?_) (fun e6 => ?_)
    · have hf := (if_pos e6).symm.trans hf
      refine j_loc [0] rfl ?_
      exact k13  hf
    · have hf := (if_neg e6).symm.trans hf
      refine j_iconst C (v := 1) dX7_isAxis_9 (by decide) ?_
      refine j_goto C (tgt := 14) dX7_isAxis_10 (by decide) ?_
      subst hf
      exact j_zret C hQ rfl rfl dX7_isAxis_14 (Nat.zero_le _) (Nat.zero_le _) ⟨rfl, rfl⟩
theorem c_X7_isAxis (G : CG) (hl : (gL G).stackTraces = false) (p1 : Int32) : Ct G yX7_isAxis wsX7_isAxis rm_X7_isAxis [.int p1] [] (fin1 (some (.int (f_X7_isAxis p1))) []) 0 0 := b_X7_isAxis G hl p1 _ rfl
theorem z_X7_isAxis (p1 : Int32) : narrow .boolean (.int (f_X7_isAxis p1)) = .int (f_X7_isAxis p1) := by
  unfold f_X7_isAxis
  repeat' (first | split | rfl)

def f_X7_isNumber_J18 : Int32 :=
  0
def f_X7_isNumber (p1 : Int32) : Int32 :=
  if p1 < (-999) then f_X7_isNumber_J18 else if 999 < p1 then f_X7_isNumber_J18 else 1
abbrev rm_X7_isNumber : Room := { frames := 1, cells := 0, slots := 0, locals := 16 }
theorem k_X7_isNumber : Cf yX7_isNumber wsX7_isNumber rm_X7_isNumber cX7_isNumber 1 (some .boolean) 1 := ⟨⟨_, rfl⟩, by decide +kernel, by decide +kernel, by decide +kernel⟩
set_option maxRecDepth 100000 in
set_option maxHeartbeats 4000000 in
theorem b_X7_isNumber (G : CG) (hl : (gL G).stackTraces = false) (p1 : Int32) (y : Int32) (hf : f_X7_isNumber p1 = y) : Ct G yX7_isNumber wsX7_isNumber rm_X7_isNumber [.int p1] [] (fin1 (some (.int y)) []) 0 0 := by
  refine Ct.of (cc := cX7_isNumber) (N := 1) (ret := (some .boolean)) RX7 (by decide) rfl rfl hl (Nat.le_of_ble_eq_true rfl) (lv := [(0, .int p1)]) rfl (fun X hXG C hex hnm hQ => ?_)
  subst hXG
  unfold f_X7_isNumber at hf
  refine j_iload_n C dX7_isNumber_0 rfl 0 rfl ?_
  refine j_sipush C (v := (-999)) dX7_isNumber_1 (by decide) ?_
  have k18 : f_X7_isNumber_J18 = y → Jt X [] 0 0 18 [(0, .int p1)] [] := by
    intro  hf
    unfold f_X7_isNumber_J18 at hf
    refine j_iconst C (v := 0) dX7_isNumber_18 (by decide) ?_
    subst hf
    exact j_zret C hQ rfl rfl dX7_isNumber_19 (Nat.zero_le _) (Nat.zero_le _) ⟨rfl, rfl⟩
  refine j_icmp_lt C (tgt := 18) dX7_isNumber_4 (by decide) (fun e4 => ?_) (fun e4 => ?_)
  · have hf := (if_pos e4).symm.trans hf
    refine j_loc [0] rfl ?_
    exact k18  hf
  · have hf := (if_neg e4).symm.trans hf
    refine j_iload_n C dX7_isNumber_7 rfl 0 rfl ?_
    refine j_sipush C (v := 999) dX7_isNumber_8 (by decide) ?_
    refine j_icmp_gt C (tgt := 18) dX7_isNumber_11 (by decide) (fun e11 => ?_) (fun e11 => ?_)
    · have hf := (if_pos e11).symm.trans hf
      refine j_loc [0] rfl ?_
      exact k18  hf
    · have hf := (if_neg e11).symm.trans hf
      refine j_iconst C (v := 1) dX7_isNumber_14 (by decide) ?_
      refine j_goto C (tgt := 19) dX7_isNumber_15 (by decide) ?_
      subst hf
      exact j_zret C hQ rfl rfl dX7_isNumber_19 (Nat.zero_le _) (Nat.zero_le _) ⟨rfl, rfl⟩
theorem c_X7_isNumber (G : CG) (hl : (gL G).stackTraces = false) (p1 : Int32) : Ct G yX7_isNumber wsX7_isNumber rm_X7_isNumber [.int p1] [] (fin1 (some (.int (f_X7_isNumber p1))) []) 0 0 := b_X7_isNumber G hl p1 _ rfl
theorem z_X7_isNumber (p1 : Int32) : narrow .boolean (.int (f_X7_isNumber p1)) = .int (f_X7_isNumber p1) := by
  unfold f_X7_isNumber
  repeat' (first | split | rfl)

theorem wd_X7_mixed_k315 : Cond.constantLong RX7 315 31 ∈ wsX7_mixed := by decide +kernel
def f_X7_mixed (p1 : Int64) (p2 : Int64) : Int64 :=
  ((31 * p1) + p2)
abbrev rm_X7_mixed : Room := { frames := 1, cells := 0, slots := 0, locals := 16 }
theorem k_X7_mixed : Cf yX7_mixed wsX7_mixed rm_X7_mixed cX7_mixed 4 (some .long) 2 := ⟨⟨_, rfl⟩, by decide +kernel, by decide +kernel, by decide +kernel⟩
set_option maxRecDepth 100000 in
set_option maxHeartbeats 4000000 in
theorem b_X7_mixed (G : CG) (hl : (gL G).stackTraces = false) (p1 : Int64) (p2 : Int64) (y : Int64) (hf : f_X7_mixed p1 p2 = y) : Ct G yX7_mixed wsX7_mixed rm_X7_mixed [.long p1, .long p2] [] (fin1 (some (.long y)) []) 0 0 := by
  refine Ct.of (cc := cX7_mixed) (N := 4) (ret := (some .long)) RX7 (by decide) rfl rfl hl (Nat.le_of_ble_eq_true rfl) (lv := [(0, .long p1), (2, .long p2)]) rfl (fun X hXG C hex hnm hQ => ?_)
  subst hXG
  unfold f_X7_mixed at hf
  refine j_ldc2 C (v := 31) dX7_mixed_0 wd_X7_mixed_k315 ?_
  refine j_lload_n C dX7_mixed_3 rfl 0 rfl ?_
  refine j_lmul C dX7_mixed_4 ?_
  refine j_lload_n C dX7_mixed_5 rfl 1 rfl ?_
  refine j_ladd C dX7_mixed_6 ?_
  subst hf
  exact j_lret C hQ rfl dX7_mixed_7 (Nat.zero_le _) (Nat.zero_le _) ⟨rfl, rfl⟩
theorem c_X7_mixed (G : CG) (hl : (gL G).stackTraces = false) (p1 : Int64) (p2 : Int64) : Ct G yX7_mixed wsX7_mixed rm_X7_mixed [.long p1, .long p2] [] (fin1 (some (.long (f_X7_mixed p1 p2))) []) 0 0 := b_X7_mixed G hl p1 p2 _ rfl

theorem lk_X5_points_9 : Cond.fieldLink RX5 9 (TX5 0).1 (TX5 0).2.1 (TX5 0).2.2.1 ∈ wsX5_points := by decide +kernel
theorem in_X5_points_5 : ∀ w ∈ wsX50, w ∈ wsX5_points := by decide +kernel
def f_X5_points (vD : Int32) : Int32 :=
  ((vD * vD) * vD)
abbrev rm_X5_points : Room := { frames := 1, cells := 0, slots := 0, locals := 16 }
theorem k_X5_points : Cf yX5_points wsX5_points rm_X5_points cX5_points 1 (some .int) 0 := ⟨⟨_, rfl⟩, by decide +kernel, by decide +kernel, by decide +kernel⟩
set_option maxRecDepth 100000 in
set_option maxHeartbeats 4000000 in
theorem b_X5_points (G : CG) (hl : (gL G).stackTraces = false) (h5 : Nat) (qn : Nat) (qm : Nat) (vD : Int32) (vA : Int32) (vL : Int32) (vN : (Nat → Int32)) (vM : (Nat → Int32)) (y : Int32) (hf : f_X5_points vD = y) : Ct G yX5_points wsX5_points rm_X5_points [.ref h5] [(h5, .inr (5, [.int vD, .int vA, .int vL, .ref qn, .ref qm])), (qn, .inl (gI G, 512, .inl vN)), (qm, .inl (gI G, 512, .inl vM))] (fin1 (some (.int y)) [(h5, .inr (5, [.int vD, .int vA, .int vL, .ref qn, .ref qm])), (qn, .inl (gI G, 512, .inl vN)), (qm, .inl (gI G, 512, .inl vM))]) 0 0 := by
  refine Ct.of (cc := cX5_points) (N := 1) (ret := (some .int)) RX5 (by decide) rfl rfl hl (Nat.le_of_ble_eq_true rfl) (lv := [(0, .ref h5)]) rfl (fun X hXG C hex hnm hQ => ?_)
  subst hXG
  unfold f_X5_points at hf
  refine j_aload_n C dX5_points_0 rfl 0 rfl ?_
  refine j_get5 C 0 rfl 0 (by decide) in_X5_points_5 lk_X5_points_9 rfl dX5_points_1 ?_
  refine j_aload_n C dX5_points_4 rfl 0 rfl ?_
  refine j_get5 C 0 rfl 0 (by decide) in_X5_points_5 lk_X5_points_9 rfl dX5_points_5 ?_
  refine j_imul C dX5_points_8 ?_
  refine j_aload_n C dX5_points_9 rfl 0 rfl ?_
  refine j_get5 C 0 rfl 0 (by decide) in_X5_points_5 lk_X5_points_9 rfl dX5_points_10 ?_
  refine j_imul C dX5_points_13 ?_
  subst hf
  exact j_iret C hQ rfl dX5_points_14 (Nat.zero_le _) (Nat.zero_le _) ⟨rfl, rfl⟩
theorem c_X5_points (G : CG) (hl : (gL G).stackTraces = false) (h5 : Nat) (qn : Nat) (qm : Nat) (vD : Int32) (vA : Int32) (vL : Int32) (vN : (Nat → Int32)) (vM : (Nat → Int32)) : Ct G yX5_points wsX5_points rm_X5_points [.ref h5] [(h5, .inr (5, [.int vD, .int vA, .int vL, .ref qn, .ref qm])), (qn, .inl (gI G, 512, .inl vN)), (qm, .inl (gI G, 512, .inl vM))] (fin1 (some (.int (f_X5_points vD))) [(h5, .inr (5, [.int vD, .int vA, .int vL, .ref qn, .ref qm])), (qn, .inl (gI G, 512, .inl vN)), (qm, .inl (gI G, 512, .inl vM))]) 0 0 := b_X5_points G hl h5 qn qm vD vA vL vN vM _ rfl

theorem lk_X5_hasCoordinate_9 : Cond.fieldLink RX5 9 (TX5 0).1 (TX5 0).2.1 (TX5 0).2.2.1 ∈ wsX5_hasCoordinate := by decide +kernel
theorem in_X5_hasCoordinate_5 : ∀ w ∈ wsX50, w ∈ wsX5_hasCoordinate := by decide +kernel
def f_X5_hasCoordinate_J16 : Int32 :=
  0
def f_X5_hasCoordinate (p1 : Int32) (vD : Int32) : Int32 :=
  if p1 < 0 then f_X5_hasCoordinate_J16 else if vD ≤ p1 then f_X5_hasCoordinate_J16 else 1
abbrev rm_X5_hasCoordinate : Room := { frames := 1, cells := 0, slots := 0, locals := 16 }
theorem k_X5_hasCoordinate : Cf yX5_hasCoordinate wsX5_hasCoordinate rm_X5_hasCoordinate cX5_hasCoordinate 2 (some .boolean) 1 := ⟨⟨_, rfl⟩, by decide +kernel, by decide +kernel, by decide +kernel⟩
set_option maxRecDepth 100000 in
set_option maxHeartbeats 4000000 in
theorem b_X5_hasCoordinate (G : CG) (hl : (gL G).stackTraces = false) (h5 : Nat) (qn : Nat) (qm : Nat) (vD : Int32) (vA : Int32) (vL : Int32) (vN : (Nat → Int32)) (vM : (Nat → Int32)) (p1 : Int32) (y : Int32) (hf : f_X5_hasCoordinate p1 vD = y) : Ct G yX5_hasCoordinate wsX5_hasCoordinate rm_X5_hasCoordinate [.ref h5, .int p1] [(h5, .inr (5, [.int vD, .int vA, .int vL, .ref qn, .ref qm])), (qn, .inl (gI G, 512, .inl vN)), (qm, .inl (gI G, 512, .inl vM))] (fin1 (some (.int y)) [(h5, .inr (5, [.int vD, .int vA, .int vL, .ref qn, .ref qm])), (qn, .inl (gI G, 512, .inl vN)), (qm, .inl (gI G, 512, .inl vM))]) 0 0 := by
  refine Ct.of (cc := cX5_hasCoordinate) (N := 2) (ret := (some .boolean)) RX5 (by decide) rfl rfl hl (Nat.le_of_ble_eq_true rfl) (lv := [(0, .ref h5), (1, .int p1)]) rfl (fun X hXG C hex hnm hQ => ?_)
  subst hXG
  unfold f_X5_hasCoordinate at hf
  refine j_iload_n C dX5_hasCoordinate_0 rfl 1 rfl ?_
  have k16 : f_X5_hasCoordinate_J16 = y → Jt X [(h5, .inr (5, [.int vD, .int vA, .int vL, .ref qn, .ref qm])), (qn, .inl (gI X.1, 512, .inl vN)), (qm, .inl (gI X.1, 512, .inl vM))] 0 0 16 [(0, .ref h5), (1, .int p1)] [] := by
    intro  hf
    unfold f_X5_hasCoordinate_J16 at hf
    refine j_iconst C (v := 0) dX5_hasCoordinate_16 (by decide) ?_
    subst hf
    exact j_zret C hQ rfl rfl dX5_hasCoordinate_17 (Nat.zero_le _) (Nat.zero_le _) ⟨rfl, rfl⟩
  refine j_if_lt C (tgt := 16) dX5_hasCoordinate_1 (by decide) (fun e1 => ?_) (fun e1 => ?_)
  · have hf := (if_pos e1).symm.trans hf
    refine j_loc [0, 1] rfl ?_
    exact k16  hf
  · have hf := (if_neg e1).symm.trans hf
    refine j_iload_n C dX5_hasCoordinate_4 rfl 1 rfl ?_
    refine j_aload_n C dX5_hasCoordinate_5 rfl 0 rfl ?_
    refine j_get5 C 0 rfl 0 (by decide) in_X5_hasCoordinate_5 lk_X5_hasCoordinate_9 rfl dX5_hasCoordinate_6 ?_
    refine j_icmp_ge C (tgt := 16) dX5_hasCoordinate_9 (by decide) (fun e9 => ?_) (fun e9 => ?_)
    · have hf := (if_pos e9).symm.trans hf
      refine j_loc [0, 1] rfl ?_
      exact k16  hf
    · have hf := (if_neg e9).symm.trans hf
      refine j_iconst C (v := 1) dX5_hasCoordinate_12 (by decide) ?_
      refine j_goto C (tgt := 17) dX5_hasCoordinate_13 (by decide) ?_
      subst hf
      exact j_zret C hQ rfl rfl dX5_hasCoordinate_17 (Nat.zero_le _) (Nat.zero_le _) ⟨rfl, rfl⟩
theorem c_X5_hasCoordinate (G : CG) (hl : (gL G).stackTraces = false) (h5 : Nat) (qn : Nat) (qm : Nat) (vD : Int32) (vA : Int32) (vL : Int32) (vN : (Nat → Int32)) (vM : (Nat → Int32)) (p1 : Int32) : Ct G yX5_hasCoordinate wsX5_hasCoordinate rm_X5_hasCoordinate [.ref h5, .int p1] [(h5, .inr (5, [.int vD, .int vA, .int vL, .ref qn, .ref qm])), (qn, .inl (gI G, 512, .inl vN)), (qm, .inl (gI G, 512, .inl vM))] (fin1 (some (.int (f_X5_hasCoordinate p1 vD))) [(h5, .inr (5, [.int vD, .int vA, .int vL, .ref qn, .ref qm])), (qn, .inl (gI G, 512, .inl vN)), (qm, .inl (gI G, 512, .inl vM))]) 0 0 := b_X5_hasCoordinate G hl h5 qn qm vD vA vL vN vM p1 _ rfl
theorem z_X5_hasCoordinate (p1 : Int32) (vD : Int32) : narrow .boolean (.int (f_X5_hasCoordinate p1 vD)) = .int (f_X5_hasCoordinate p1 vD) := by
  unfold f_X5_hasCoordinate
  repeat' (first | split | rfl)

def f_X5_hasPoint_J28 : Int32 :=
  0
def f_X5_hasPoint (p1 : Int32) (p2 : Int32) (p3 : Int32) (vD : Int32) : Int32 :=
  if (f_X5_hasCoordinate p1 vD) = 0 then f_X5_hasPoint_J28 else if (f_X5_hasCoordinate p2 vD) = 0 then f_X5_hasPoint_J28 else if (f_X5_hasCoordinate p3 vD) = 0 then f_X5_hasPoint_J28 else 1
abbrev rm_X5_hasPoint : Room := { frames := 2, cells := 0, slots := 0, locals := 37 }
theorem k_X5_hasPoint : Cf yX5_hasPoint wsX5_hasPoint rm_X5_hasPoint cX5_hasPoint 4 (some .boolean) 3 := ⟨⟨_, rfl⟩, by decide +kernel, by decide +kernel, by decide +kernel⟩
set_option maxRecDepth 100000 in
set_option maxHeartbeats 4000000 in
theorem b_X5_hasPoint (G : CG) (hl : (gL G).stackTraces = false) (h5 : Nat) (qn : Nat) (qm : Nat) (vD : Int32) (vA : Int32) (vL : Int32) (vN : (Nat → Int32)) (vM : (Nat → Int32)) (p1 : Int32) (p2 : Int32) (p3 : Int32) (y : Int32) (hf : f_X5_hasPoint p1 p2 p3 vD = y) : Ct G yX5_hasPoint wsX5_hasPoint rm_X5_hasPoint [.ref h5, .int p1, .int p2, .int p3] [(h5, .inr (5, [.int vD, .int vA, .int vL, .ref qn, .ref qm])), (qn, .inl (gI G, 512, .inl vN)), (qm, .inl (gI G, 512, .inl vM))] (fin1 (some (.int y)) [(h5, .inr (5, [.int vD, .int vA, .int vL, .ref qn, .ref qm])), (qn, .inl (gI G, 512, .inl vN)), (qm, .inl (gI G, 512, .inl vM))]) 0 0 := by
  refine Ct.of (cc := cX5_hasPoint) (N := 4) (ret := (some .boolean)) RX5 (by decide) rfl rfl hl (Nat.le_of_ble_eq_true rfl) (lv := [(0, .ref h5), (1, .int p1), (2, .int p2), (3, .int p3)]) rfl (fun X hXG C hex hnm hQ => ?_)
  subst hXG
  unfold f_X5_hasPoint at hf
  refine j_aload_n C dX5_hasPoint_0 rfl 0 rfl ?_
  refine j_iload_n C dX5_hasPoint_1 rfl 1 rfl ?_
  refine j_cV C (c_X5_hasCoordinate X.1 hl h5 qn qm vD vA vL vN vM p1) k_X5_hasCoordinate gX5_hasPoint_X5_hasCoordinate rfl (ci := 5) (q0 := 0) rfl rfl (As := [.int p1]) (rest := []) (st' := [.int (f_X5_hasCoordinate p1 vD)]) (ws' := [(h5, .inr (5, [.int vD, .int vA, .int vL, .ref qn, .ref qm])), (qn, .inl (gI X.1, 512, .inl vN)), (qm, .inl (gI X.1, 512, .inl vM))]) rfl rfl dX5_hasPoint_2 [0, 1, 2] [] [0, 1, 2] rfl rfl rfl rfl rfl rfl ?_
  have k28 : f_X5_hasPoint_J28 = y → Jt X [(h5, .inr (5, [.int vD, .int vA, .int vL, .ref qn, .ref qm])), (qn, .inl (gI X.1, 512, .inl vN)), (qm, .inl (gI X.1, 512, .inl vM))] 0 0 28 [(0, .ref h5), (1, .int p1), (2, .int p2), (3, .int p3)] [] := by
    intro  hf
    unfold f_X5_hasPoint_J28 at hf
    refine j_iconst C (v := 0) dX5_hasPoint_28 (by decide) ?_
    subst hf
    exact j_zret C hQ rfl rfl dX5_hasPoint_29 (Nat.zero_le _) (Nat.zero_le _) ⟨rfl, rfl⟩
  refine j_if_eq C (tgt := 28) dX5_hasPoint_5 (by decide) (fun e5 => ?_) (fun e5 => ?_)
  · have hf := (if_pos e5).symm.trans hf
    refine j_loc [0, 1, 2, 3] rfl ?_
    exact k28  hf
  · have hf := (if_neg e5).symm.trans hf
    refine j_aload_n C dX5_hasPoint_8 rfl 0 rfl ?_
    refine j_iload_n C dX5_hasPoint_9 rfl 2 rfl ?_
    refine j_cV C (c_X5_hasCoordinate X.1 hl h5 qn qm vD vA vL vN vM p2) k_X5_hasCoordinate gX5_hasPoint_X5_hasCoordinate rfl (ci := 5) (q0 := 0) rfl rfl (As := [.int p2]) (rest := []) (st' := [.int (f_X5_hasCoordinate p2 vD)]) (ws' := [(h5, .inr (5, [.int vD, .int vA, .int vL, .ref qn, .ref qm])), (qn, .inl (gI X.1, 512, .inl vN)), (qm, .inl (gI X.1, 512, .inl vM))]) rfl rfl dX5_hasPoint_10 [0, 1, 2] [] [0, 1, 2] rfl rfl rfl rfl rfl rfl ?_
    refine j_if_eq C (tgt := 28) dX5_hasPoint_13 (by decide) (fun e13 => ?_) (fun e13 => ?_)
    · have hf := (if_pos e13).symm.trans hf
      refine j_loc [0, 1, 2, 3] rfl ?_
      exact k28  hf
    · have hf := (if_neg e13).symm.trans hf
      refine j_aload_n C dX5_hasPoint_16 rfl 0 rfl ?_
      refine j_iload_n C dX5_hasPoint_17 rfl 3 rfl ?_
      refine j_cV C (c_X5_hasCoordinate X.1 hl h5 qn qm vD vA vL vN vM p3) k_X5_hasCoordinate gX5_hasPoint_X5_hasCoordinate rfl (ci := 5) (q0 := 0) rfl rfl (As := [.int p3]) (rest := []) (st' := [.int (f_X5_hasCoordinate p3 vD)]) (ws' := [(h5, .inr (5, [.int vD, .int vA, .int vL, .ref qn, .ref qm])), (qn, .inl (gI X.1, 512, .inl vN)), (qm, .inl (gI X.1, 512, .inl vM))]) rfl rfl dX5_hasPoint_18 [0, 1, 2] [] [0, 1, 2] rfl rfl rfl rfl rfl rfl ?_
      refine j_if_eq C (tgt := 28) dX5_hasPoint_21 (by decide) (fun e21 => ?_) (fun e21 => ?_)
      · have hf := (if_pos e21).symm.trans hf
        refine j_loc [0, 1, 2, 3] rfl ?_
        exact k28  hf
      · have hf := (if_neg e21).symm.trans hf
        refine j_iconst C (v := 1) dX5_hasPoint_24 (by decide) ?_
        refine j_goto C (tgt := 29) dX5_hasPoint_25 (by decide) ?_
        subst hf
        exact j_zret C hQ rfl rfl dX5_hasPoint_29 (Nat.zero_le _) (Nat.zero_le _) ⟨rfl, rfl⟩
theorem c_X5_hasPoint (G : CG) (hl : (gL G).stackTraces = false) (h5 : Nat) (qn : Nat) (qm : Nat) (vD : Int32) (vA : Int32) (vL : Int32) (vN : (Nat → Int32)) (vM : (Nat → Int32)) (p1 : Int32) (p2 : Int32) (p3 : Int32) : Ct G yX5_hasPoint wsX5_hasPoint rm_X5_hasPoint [.ref h5, .int p1, .int p2, .int p3] [(h5, .inr (5, [.int vD, .int vA, .int vL, .ref qn, .ref qm])), (qn, .inl (gI G, 512, .inl vN)), (qm, .inl (gI G, 512, .inl vM))] (fin1 (some (.int (f_X5_hasPoint p1 p2 p3 vD))) [(h5, .inr (5, [.int vD, .int vA, .int vL, .ref qn, .ref qm])), (qn, .inl (gI G, 512, .inl vN)), (qm, .inl (gI G, 512, .inl vM))]) 0 0 := b_X5_hasPoint G hl h5 qn qm vD vA vL vN vM p1 p2 p3 _ rfl
theorem z_X5_hasPoint (p1 : Int32) (p2 : Int32) (p3 : Int32) (vD : Int32) : narrow .boolean (.int (f_X5_hasPoint p1 p2 p3 vD)) = .int (f_X5_hasPoint p1 p2 p3 vD) := by
  unfold f_X5_hasPoint
  repeat' (first | split | exact z_X5_hasCoordinate .. | rfl)

theorem lk_X5_step_9 : Cond.fieldLink RX5 9 (TX5 0).1 (TX5 0).2.1 (TX5 0).2.2.1 ∈ wsX5_step := by decide +kernel
theorem in_X5_step_5 : ∀ w ∈ wsX50, w ∈ wsX5_step := by decide +kernel
def f_X5_step (p1 : Int32) (vD : Int32) : Int32 :=
  if p1 = 0 then 1 else if p1 = 1 then vD else (vD * vD)
abbrev rm_X5_step : Room := { frames := 1, cells := 0, slots := 0, locals := 16 }
theorem k_X5_step : Cf yX5_step wsX5_step rm_X5_step cX5_step 2 (some .int) 1 := ⟨⟨_, rfl⟩, by decide +kernel, by decide +kernel, by decide +kernel⟩
set_option maxRecDepth 100000 in
set_option maxHeartbeats 4000000 in
theorem b_X5_step (G : CG) (hl : (gL G).stackTraces = false) (h5 : Nat) (qn : Nat) (qm : Nat) (vD : Int32) (vA : Int32) (vL : Int32) (vN : (Nat → Int32)) (vM : (Nat → Int32)) (p1 : Int32) (y : Int32) (hf : f_X5_step p1 vD = y) : Ct G yX5_step wsX5_step rm_X5_step [.ref h5, .int p1] [(h5, .inr (5, [.int vD, .int vA, .int vL, .ref qn, .ref qm])), (qn, .inl (gI G, 512, .inl vN)), (qm, .inl (gI G, 512, .inl vM))] (fin1 (some (.int y)) [(h5, .inr (5, [.int vD, .int vA, .int vL, .ref qn, .ref qm])), (qn, .inl (gI G, 512, .inl vN)), (qm, .inl (gI G, 512, .inl vM))]) 0 0 := by
  refine Ct.of (cc := cX5_step) (N := 2) (ret := (some .int)) RX5 (by decide) rfl rfl hl (Nat.le_of_ble_eq_true rfl) (lv := [(0, .ref h5), (1, .int p1)]) rfl (fun X hXG C hex hnm hQ => ?_)
  subst hXG
  unfold f_X5_step at hf
  refine j_iload_n C dX5_step_0 rfl 1 rfl ?_
  refine j_if_ne C (tgt := 6) dX5_step_1 (by decide) (fun e1 => ?_) (fun e1 => ?_)
  · have hf := (if_neg e1).symm.trans hf
    refine j_iload_n C dX5_step_6 rfl 1 rfl ?_
    refine j_iconst C (v := 1) dX5_step_7 (by decide) ?_
    refine j_icmp_ne C (tgt := 18) dX5_step_8 (by decide) (fun e8 => ?_) (fun e8 => ?_)
    · have hf := (if_neg e8).symm.trans hf
      refine j_aload_n C dX5_step_18 rfl 0 rfl ?_
      refine j_get5 C 0 rfl 0 (by decide) in_X5_step_5 lk_X5_step_9 rfl dX5_step_19 ?_
      refine j_aload_n C dX5_step_22 rfl 0 rfl ?_
      refine j_get5 C 0 rfl 0 (by decide) in_X5_step_5 lk_X5_step_9 rfl dX5_step_23 ?_
      refine j_imul C dX5_step_26 ?_
      subst hf
      exact j_iret C hQ rfl dX5_step_27 (Nat.zero_le _) (Nat.zero_le _) ⟨rfl, rfl⟩
    · have hf := (if_pos e8).symm.trans hf
      refine j_aload_n C dX5_step_11 rfl 0 rfl ?_
      refine j_get5 C 0 rfl 0 (by decide) in_X5_step_5 lk_X5_step_9 rfl dX5_step_12 ?_
      refine j_goto C (tgt := 27) dX5_step_15 (by decide) ?_
      subst hf
      exact j_iret C hQ rfl dX5_step_27 (Nat.zero_le _) (Nat.zero_le _) ⟨rfl, rfl⟩
  · have hf := (if_pos e1).symm.trans hf
    refine j_iconst C (v := 1) dX5_step_4 (by decide) ?_
    subst hf
    exact j_iret C hQ rfl dX5_step_5 (Nat.zero_le _) (Nat.zero_le _) ⟨rfl, rfl⟩
theorem c_X5_step (G : CG) (hl : (gL G).stackTraces = false) (h5 : Nat) (qn : Nat) (qm : Nat) (vD : Int32) (vA : Int32) (vL : Int32) (vN : (Nat → Int32)) (vM : (Nat → Int32)) (p1 : Int32) : Ct G yX5_step wsX5_step rm_X5_step [.ref h5, .int p1] [(h5, .inr (5, [.int vD, .int vA, .int vL, .ref qn, .ref qm])), (qn, .inl (gI G, 512, .inl vN)), (qm, .inl (gI G, 512, .inl vM))] (fin1 (some (.int (f_X5_step p1 vD))) [(h5, .inr (5, [.int vD, .int vA, .int vL, .ref qn, .ref qm])), (qn, .inl (gI G, 512, .inl vN)), (qm, .inl (gI G, 512, .inl vM))]) 0 0 := b_X5_step G hl h5 qn qm vD vA vL vN vM p1 _ rfl

theorem lk_X5_place_9 : Cond.fieldLink RX5 9 (TX5 0).1 (TX5 0).2.1 (TX5 0).2.2.1 ∈ wsX5_place := by decide +kernel
theorem in_X5_place_5 : ∀ w ∈ wsX50, w ∈ wsX5_place := by decide +kernel
def f_X5_place (p1 : Int32) (p2 : Int32) (p3 : Int32) (vD : Int32) : Int32 :=
  (p1 + (vD * (p2 + (vD * p3))))
abbrev rm_X5_place : Room := { frames := 1, cells := 0, slots := 0, locals := 16 }
theorem k_X5_place : Cf yX5_place wsX5_place rm_X5_place cX5_place 4 (some .int) 3 := ⟨⟨_, rfl⟩, by decide +kernel, by decide +kernel, by decide +kernel⟩
set_option maxRecDepth 100000 in
set_option maxHeartbeats 4000000 in
theorem b_X5_place (G : CG) (hl : (gL G).stackTraces = false) (h5 : Nat) (qn : Nat) (qm : Nat) (vD : Int32) (vA : Int32) (vL : Int32) (vN : (Nat → Int32)) (vM : (Nat → Int32)) (p1 : Int32) (p2 : Int32) (p3 : Int32) (y : Int32) (hf : f_X5_place p1 p2 p3 vD = y) : Ct G yX5_place wsX5_place rm_X5_place [.ref h5, .int p1, .int p2, .int p3] [(h5, .inr (5, [.int vD, .int vA, .int vL, .ref qn, .ref qm])), (qn, .inl (gI G, 512, .inl vN)), (qm, .inl (gI G, 512, .inl vM))] (fin1 (some (.int y)) [(h5, .inr (5, [.int vD, .int vA, .int vL, .ref qn, .ref qm])), (qn, .inl (gI G, 512, .inl vN)), (qm, .inl (gI G, 512, .inl vM))]) 0 0 := by
  refine Ct.of (cc := cX5_place) (N := 4) (ret := (some .int)) RX5 (by decide) rfl rfl hl (Nat.le_of_ble_eq_true rfl) (lv := [(0, .ref h5), (1, .int p1), (2, .int p2), (3, .int p3)]) rfl (fun X hXG C hex hnm hQ => ?_)
  subst hXG
  unfold f_X5_place at hf
  refine j_iload_n C dX5_place_0 rfl 1 rfl ?_
  refine j_aload_n C dX5_place_1 rfl 0 rfl ?_
  refine j_get5 C 0 rfl 0 (by decide) in_X5_place_5 lk_X5_place_9 rfl dX5_place_2 ?_
  refine j_iload_n C dX5_place_5 rfl 2 rfl ?_
  refine j_aload_n C dX5_place_6 rfl 0 rfl ?_
  refine j_get5 C 0 rfl 0 (by decide) in_X5_place_5 lk_X5_place_9 rfl dX5_place_7 ?_
  refine j_iload_n C dX5_place_10 rfl 3 rfl ?_
  refine j_imul C dX5_place_11 ?_
  refine j_iadd C dX5_place_12 ?_
  refine j_imul C dX5_place_13 ?_
  refine j_iadd C dX5_place_14 ?_
  subst hf
  exact j_iret C hQ rfl dX5_place_15 (Nat.zero_le _) (Nat.zero_le _) ⟨rfl, rfl⟩
theorem c_X5_place (G : CG) (hl : (gL G).stackTraces = false) (h5 : Nat) (qn : Nat) (qm : Nat) (vD : Int32) (vA : Int32) (vL : Int32) (vN : (Nat → Int32)) (vM : (Nat → Int32)) (p1 : Int32) (p2 : Int32) (p3 : Int32) : Ct G yX5_place wsX5_place rm_X5_place [.ref h5, .int p1, .int p2, .int p3] [(h5, .inr (5, [.int vD, .int vA, .int vL, .ref qn, .ref qm])), (qn, .inl (gI G, 512, .inl vN)), (qm, .inl (gI G, 512, .inl vM))] (fin1 (some (.int (f_X5_place p1 p2 p3 vD))) [(h5, .inr (5, [.int vD, .int vA, .int vL, .ref qn, .ref qm])), (qn, .inl (gI G, 512, .inl vN)), (qm, .inl (gI G, 512, .inl vM))]) 0 0 := b_X5_place G hl h5 qn qm vD vA vL vN vM p1 p2 p3 _ rfl

theorem lk_X5_coordinate_9 : Cond.fieldLink RX5 9 (TX5 0).1 (TX5 0).2.1 (TX5 0).2.2.1 ∈ wsX5_coordinate := by decide +kernel
theorem in_X5_coordinate_5 : ∀ w ∈ wsX50, w ∈ wsX5_coordinate := by decide +kernel
def f_X5_coordinate_J28 : Option (Int32) :=
  some (0)
def f_X5_coordinate (p1 : Int32) (p2 : Int32) (vD : Int32) : Option (Int32) :=
  if (f_X5_step p2 vD) ≤ 0 then f_X5_coordinate_J28 else if vD ≤ 0 then f_X5_coordinate_J28 else dz_nz (f_X5_step p2 vD) (dz_nz vD (some (((p1 / (f_X5_step p2 vD)) - (p1 / (f_X5_step p2 vD)) / vD * vD))))
abbrev rm_X5_coordinate : Room := { frames := 2, cells := 0, slots := 0, locals := 37 }
theorem k_X5_coordinate : Cf yX5_coordinate wsX5_coordinate rm_X5_coordinate cX5_coordinate 4 (some .int) 2 := ⟨⟨_, rfl⟩, by decide +kernel, by decide +kernel, by decide +kernel⟩
set_option maxRecDepth 100000 in
set_option maxHeartbeats 4000000 in
theorem b_X5_coordinate (G : CG) (hl : (gL G).stackTraces = false) (h5 : Nat) (qn : Nat) (qm : Nat) (vD : Int32) (vA : Int32) (vL : Int32) (vN : (Nat → Int32)) (vM : (Nat → Int32)) (p1 : Int32) (p2 : Int32) (y : Int32) (hf : f_X5_coordinate p1 p2 vD = some y) : Ct G yX5_coordinate wsX5_coordinate rm_X5_coordinate [.ref h5, .int p1, .int p2] [(h5, .inr (5, [.int vD, .int vA, .int vL, .ref qn, .ref qm])), (qn, .inl (gI G, 512, .inl vN)), (qm, .inl (gI G, 512, .inl vM))] (fin1 (some (.int y)) [(h5, .inr (5, [.int vD, .int vA, .int vL, .ref qn, .ref qm])), (qn, .inl (gI G, 512, .inl vN)), (qm, .inl (gI G, 512, .inl vM))]) 0 0 := by
  refine Ct.of (cc := cX5_coordinate) (N := 4) (ret := (some .int)) RX5 (by decide) rfl rfl hl (Nat.le_of_ble_eq_true rfl) (lv := [(0, .ref h5), (1, .int p1), (2, .int p2)]) rfl (fun X hXG C hex hnm hQ => ?_)
  subst hXG
  unfold f_X5_coordinate at hf
  refine j_aload_n C dX5_coordinate_0 rfl 0 rfl ?_
  refine j_iload_n C dX5_coordinate_1 rfl 2 rfl ?_
  refine j_cV C (c_X5_step X.1 hl h5 qn qm vD vA vL vN vM p2) k_X5_step gX5_coordinate_X5_step rfl (ci := 5) (q0 := 0) rfl rfl (As := [.int p2]) (rest := []) (st' := [.int (f_X5_step p2 vD)]) (ws' := [(h5, .inr (5, [.int vD, .int vA, .int vL, .ref qn, .ref qm])), (qn, .inl (gI X.1, 512, .inl vN)), (qm, .inl (gI X.1, 512, .inl vM))]) rfl rfl dX5_coordinate_2 [0, 1, 2] [] [0, 1, 2] rfl rfl rfl rfl rfl rfl ?_
  refine j_istore_n (lv' := [(3, .int (f_X5_step p2 vD)), (0, .ref h5), (1, .int p1), (2, .int p2)]) C dX5_coordinate_5 rfl (by decide) rfl ?_
  refine j_iload_n C dX5_coordinate_6 rfl 0 rfl ?_
  have k28 : f_X5_coordinate_J28 = some y → Jt X [(h5, .inr (5, [.int vD, .int vA, .int vL, .ref qn, .ref qm])), (qn, .inl (gI X.1, 512, .inl vN)), (qm, .inl (gI X.1, 512, .inl vM))] 0 0 28 [(0, .ref h5), (1, .int p1), (2, .int p2), (3, .int (f_X5_step p2 vD))] [] := by
    intro  hf
    unfold f_X5_coordinate_J28 at hf
    refine j_iconst C (v := 0) dX5_coordinate_28 (by decide) ?_
    obtain rfl := Option.some.inj hf
    exact j_iret C hQ rfl dX5_coordinate_29 (Nat.zero_le _) (Nat.zero_le _) ⟨rfl, rfl⟩
  refine j_if_le C (tgt := 28) dX5_coordinate_7 (by decide) (fun e7 => ?_) (fun e7 => ?_)
  · have hf := (if_pos e7).symm.trans hf
    refine j_loc [1, 2, 3, 0] rfl ?_
    exact k28  hf
  · have hf := (if_neg e7).symm.trans hf
    refine j_aload_n C dX5_coordinate_10 rfl 1 rfl ?_
    refine j_get5 C 0 rfl 0 (by decide) in_X5_coordinate_5 lk_X5_coordinate_9 rfl dX5_coordinate_11 ?_
    refine j_if_le C (tgt := 28) dX5_coordinate_14 (by decide) (fun e14 => ?_) (fun e14 => ?_)
    · have hf := (if_pos e14).symm.trans hf
      refine j_loc [1, 2, 3, 0] rfl ?_
      exact k28  hf
    · have hf := (if_neg e14).symm.trans hf
      refine j_iload_n C dX5_coordinate_17 rfl 2 rfl ?_
      refine j_iload_n C dX5_coordinate_18 rfl 0 rfl ?_
      obtain ⟨z19, hf⟩ := dz_nz_some hf
      refine j_idiv C dX5_coordinate_19 z19 ?_
      refine j_aload_n C dX5_coordinate_20 rfl 1 rfl ?_
      refine j_get5 C 0 rfl 0 (by decide) in_X5_coordinate_5 lk_X5_coordinate_9 rfl dX5_coordinate_21 ?_
      obtain ⟨z24, hf⟩ := dz_nz_some hf
      refine j_irem C dX5_coordinate_24 z24 ?_
      refine j_goto C (tgt := 29) dX5_coordinate_25 (by decide) ?_
      obtain rfl := Option.some.inj hf
      exact j_iret C hQ rfl dX5_coordinate_29 (Nat.zero_le _) (Nat.zero_le _) ⟨rfl, rfl⟩

theorem wd_X5_lineStart_ini_X7 : Cond.initialized RX7 ∈ wsX5_lineStart := by decide +kernel
theorem wd_X5_lineStart_sta_X7_formerOf : Cond.static yX7_formerOf ∈ wsX5_lineStart := by decide +kernel
theorem wd_X5_lineStart_sta_X7_latterOf : Cond.static yX7_latterOf ∈ wsX5_lineStart := by decide +kernel
def f_X5_lineStart (p1 : Int32) (p2 : Int32) (p3 : Int32) (vD : Int32) : Int32 :=
  ((p2 * (f_X5_step (f_X7_formerOf p1) vD)) + (p3 * (f_X5_step (f_X7_latterOf p1) vD)))
abbrev rm_X5_lineStart : Room := { frames := 2, cells := 0, slots := 0, locals := 37 }
theorem k_X5_lineStart : Cf yX5_lineStart wsX5_lineStart rm_X5_lineStart cX5_lineStart 4 (some .int) 3 := ⟨⟨_, rfl⟩, by decide +kernel, by decide +kernel, by decide +kernel⟩
set_option maxRecDepth 100000 in
set_option maxHeartbeats 4000000 in
theorem b_X5_lineStart (G : CG) (hl : (gL G).stackTraces = false) (h5 : Nat) (qn : Nat) (qm : Nat) (vD : Int32) (vA : Int32) (vL : Int32) (vN : (Nat → Int32)) (vM : (Nat → Int32)) (p1 : Int32) (p2 : Int32) (p3 : Int32) (y : Int32) (hf : f_X5_lineStart p1 p2 p3 vD = y) : Ct G yX5_lineStart wsX5_lineStart rm_X5_lineStart [.ref h5, .int p1, .int p2, .int p3] [(h5, .inr (5, [.int vD, .int vA, .int vL, .ref qn, .ref qm])), (qn, .inl (gI G, 512, .inl vN)), (qm, .inl (gI G, 512, .inl vM))] (fin1 (some (.int y)) [(h5, .inr (5, [.int vD, .int vA, .int vL, .ref qn, .ref qm])), (qn, .inl (gI G, 512, .inl vN)), (qm, .inl (gI G, 512, .inl vM))]) 0 0 := by
  refine Ct.of (cc := cX5_lineStart) (N := 4) (ret := (some .int)) RX5 (by decide) rfl rfl hl (Nat.le_of_ble_eq_true rfl) (lv := [(0, .ref h5), (1, .int p1), (2, .int p2), (3, .int p3)]) rfl (fun X hXG C hex hnm hQ => ?_)
  subst hXG
  unfold f_X5_lineStart at hf
  refine j_iload_n C dX5_lineStart_0 rfl 2 rfl ?_
  refine j_aload_n C dX5_lineStart_1 rfl 0 rfl ?_
  refine j_iload_n C dX5_lineStart_2 rfl 1 rfl ?_
  refine j_cN C (c_X7_formerOf X.1 hl p1) k_X7_formerOf gX5_lineStart_X7_formerOf_n44 nw_X5_44 wd_X5_lineStart_ini_X7 wd_X5_lineStart_sta_X7_formerOf (As := [.int p1]) (rest := [.ref h5, .int p2]) (st' := [.int (f_X7_formerOf p1), .ref h5, .int p2]) (ws' := [(h5, .inr (5, [.int vD, .int vA, .int vL, .ref qn, .ref qm])), (qn, .inl (gI X.1, 512, .inl vN)), (qm, .inl (gI X.1, 512, .inl vM))]) rfl rfl dX5_lineStart_3 [] [0, 1, 2] [0, 1, 2] rfl rfl rfl rfl rfl rfl ?_
  refine j_cV C (c_X5_step X.1 hl h5 qn qm vD vA vL vN vM (f_X7_formerOf p1)) k_X5_step gX5_lineStart_X5_step rfl (ci := 5) (q0 := 0) rfl rfl (As := [.int (f_X7_formerOf p1)]) (rest := [.int p2]) (st' := [.int (f_X5_step (f_X7_formerOf p1) vD), .int p2]) (ws' := [(h5, .inr (5, [.int vD, .int vA, .int vL, .ref qn, .ref qm])), (qn, .inl (gI X.1, 512, .inl vN)), (qm, .inl (gI X.1, 512, .inl vM))]) rfl rfl dX5_lineStart_6 [0, 1, 2] [] [0, 1, 2] rfl rfl rfl rfl rfl rfl ?_
  refine j_imul C dX5_lineStart_9 ?_
  refine j_iload_n C dX5_lineStart_10 rfl 3 rfl ?_
  refine j_aload_n C dX5_lineStart_11 rfl 0 rfl ?_
  refine j_iload_n C dX5_lineStart_12 rfl 1 rfl ?_
  refine j_cN C (c_X7_latterOf X.1 hl p1) k_X7_latterOf gX5_lineStart_X7_latterOf_n47 nw_X5_47 wd_X5_lineStart_ini_X7 wd_X5_lineStart_sta_X7_latterOf (As := [.int p1]) (rest := [.ref h5, .int p3, .int (p2 * (f_X5_step (f_X7_formerOf p1) vD))]) (st' := [.int (f_X7_latterOf p1), .ref h5, .int p3, .int (p2 * (f_X5_step (f_X7_formerOf p1) vD))]) (ws' := [(h5, .inr (5, [.int vD, .int vA, .int vL, .ref qn, .ref qm])), (qn, .inl (gI X.1, 512, .inl vN)), (qm, .inl (gI X.1, 512, .inl vM))]) rfl rfl dX5_lineStart_13 [] [0, 1, 2] [0, 1, 2] rfl rfl rfl rfl rfl rfl ?_
  refine j_cV C (c_X5_step X.1 hl h5 qn qm vD vA vL vN vM (f_X7_latterOf p1)) k_X5_step gX5_lineStart_X5_step rfl (ci := 5) (q0 := 0) rfl rfl (As := [.int (f_X7_latterOf p1)]) (rest := [.int p3, .int (p2 * (f_X5_step (f_X7_formerOf p1) vD))]) (st' := [.int (f_X5_step (f_X7_latterOf p1) vD), .int p3, .int (p2 * (f_X5_step (f_X7_formerOf p1) vD))]) (ws' := [(h5, .inr (5, [.int vD, .int vA, .int vL, .ref qn, .ref qm])), (qn, .inl (gI X.1, 512, .inl vN)), (qm, .inl (gI X.1, 512, .inl vM))]) rfl rfl dX5_lineStart_16 [0, 1, 2] [] [0, 1, 2] rfl rfl rfl rfl rfl rfl ?_
  refine j_imul C dX5_lineStart_19 ?_
  refine j_iadd C dX5_lineStart_20 ?_
  subst hf
  exact j_iret C hQ rfl dX5_lineStart_21 (Nat.zero_le _) (Nat.zero_le _) ⟨rfl, rfl⟩
theorem c_X5_lineStart (G : CG) (hl : (gL G).stackTraces = false) (h5 : Nat) (qn : Nat) (qm : Nat) (vD : Int32) (vA : Int32) (vL : Int32) (vN : (Nat → Int32)) (vM : (Nat → Int32)) (p1 : Int32) (p2 : Int32) (p3 : Int32) : Ct G yX5_lineStart wsX5_lineStart rm_X5_lineStart [.ref h5, .int p1, .int p2, .int p3] [(h5, .inr (5, [.int vD, .int vA, .int vL, .ref qn, .ref qm])), (qn, .inl (gI G, 512, .inl vN)), (qm, .inl (gI G, 512, .inl vM))] (fin1 (some (.int (f_X5_lineStart p1 p2 p3 vD))) [(h5, .inr (5, [.int vD, .int vA, .int vL, .ref qn, .ref qm])), (qn, .inl (gI G, 512, .inl vN)), (qm, .inl (gI G, 512, .inl vM))]) 0 0 := b_X5_lineStart G hl h5 qn qm vD vA vL vN vM p1 p2 p3 _ rfl

theorem wd_X5_rowStart_ini_X7 : Cond.initialized RX7 ∈ wsX5_rowStart := by decide +kernel
theorem wd_X5_rowStart_sta_X7_latterOf : Cond.static yX7_latterOf ∈ wsX5_rowStart := by decide +kernel
def f_X5_rowStart (p1 : Int32) (p2 : Int32) (p3 : Int32) (vD : Int32) : Int32 :=
  ((p2 * (f_X5_step p1 vD)) + (p3 * (f_X5_step (f_X7_latterOf p1) vD)))
abbrev rm_X5_rowStart : Room := { frames := 2, cells := 0, slots := 0, locals := 37 }
theorem k_X5_rowStart : Cf yX5_rowStart wsX5_rowStart rm_X5_rowStart cX5_rowStart 4 (some .int) 3 := ⟨⟨_, rfl⟩, by decide +kernel, by decide +kernel, by decide +kernel⟩
set_option maxRecDepth 100000 in
set_option maxHeartbeats 4000000 in
theorem b_X5_rowStart (G : CG) (hl : (gL G).stackTraces = false) (h5 : Nat) (qn : Nat) (qm : Nat) (vD : Int32) (vA : Int32) (vL : Int32) (vN : (Nat → Int32)) (vM : (Nat → Int32)) (p1 : Int32) (p2 : Int32) (p3 : Int32) (y : Int32) (hf : f_X5_rowStart p1 p2 p3 vD = y) : Ct G yX5_rowStart wsX5_rowStart rm_X5_rowStart [.ref h5, .int p1, .int p2, .int p3] [(h5, .inr (5, [.int vD, .int vA, .int vL, .ref qn, .ref qm])), (qn, .inl (gI G, 512, .inl vN)), (qm, .inl (gI G, 512, .inl vM))] (fin1 (some (.int y)) [(h5, .inr (5, [.int vD, .int vA, .int vL, .ref qn, .ref qm])), (qn, .inl (gI G, 512, .inl vN)), (qm, .inl (gI G, 512, .inl vM))]) 0 0 := by
  refine Ct.of (cc := cX5_rowStart) (N := 4) (ret := (some .int)) RX5 (by decide) rfl rfl hl (Nat.le_of_ble_eq_true rfl) (lv := [(0, .ref h5), (1, .int p1), (2, .int p2), (3, .int p3)]) rfl (fun X hXG C hex hnm hQ => ?_)
  subst hXG
  unfold f_X5_rowStart at hf
  refine j_iload_n C dX5_rowStart_0 rfl 2 rfl ?_
  refine j_aload_n C dX5_rowStart_1 rfl 0 rfl ?_
  refine j_iload_n C dX5_rowStart_2 rfl 1 rfl ?_
  refine j_cV C (c_X5_step X.1 hl h5 qn qm vD vA vL vN vM p1) k_X5_step gX5_rowStart_X5_step rfl (ci := 5) (q0 := 0) rfl rfl (As := [.int p1]) (rest := [.int p2]) (st' := [.int (f_X5_step p1 vD), .int p2]) (ws' := [(h5, .inr (5, [.int vD, .int vA, .int vL, .ref qn, .ref qm])), (qn, .inl (gI X.1, 512, .inl vN)), (qm, .inl (gI X.1, 512, .inl vM))]) rfl rfl dX5_rowStart_3 [0, 1, 2] [] [0, 1, 2] rfl rfl rfl rfl rfl rfl ?_
  refine j_imul C dX5_rowStart_6 ?_
  refine j_iload_n C dX5_rowStart_7 rfl 3 rfl ?_
  refine j_aload_n C dX5_rowStart_8 rfl 0 rfl ?_
  refine j_iload_n C dX5_rowStart_9 rfl 1 rfl ?_
  refine j_cN C (c_X7_latterOf X.1 hl p1) k_X7_latterOf gX5_rowStart_X7_latterOf_n47 nw_X5_47 wd_X5_rowStart_ini_X7 wd_X5_rowStart_sta_X7_latterOf (As := [.int p1]) (rest := [.ref h5, .int p3, .int (p2 * (f_X5_step p1 vD))]) (st' := [.int (f_X7_latterOf p1), .ref h5, .int p3, .int (p2 * (f_X5_step p1 vD))]) (ws' := [(h5, .inr (5, [.int vD, .int vA, .int vL, .ref qn, .ref qm])), (qn, .inl (gI X.1, 512, .inl vN)), (qm, .inl (gI X.1, 512, .inl vM))]) rfl rfl dX5_rowStart_10 [] [0, 1, 2] [0, 1, 2] rfl rfl rfl rfl rfl rfl ?_
  refine j_cV C (c_X5_step X.1 hl h5 qn qm vD vA vL vN vM (f_X7_latterOf p1)) k_X5_step gX5_rowStart_X5_step rfl (ci := 5) (q0 := 0) rfl rfl (As := [.int (f_X7_latterOf p1)]) (rest := [.int p3, .int (p2 * (f_X5_step p1 vD))]) (st' := [.int (f_X5_step (f_X7_latterOf p1) vD), .int p3, .int (p2 * (f_X5_step p1 vD))]) (ws' := [(h5, .inr (5, [.int vD, .int vA, .int vL, .ref qn, .ref qm])), (qn, .inl (gI X.1, 512, .inl vN)), (qm, .inl (gI X.1, 512, .inl vM))]) rfl rfl dX5_rowStart_13 [0, 1, 2] [] [0, 1, 2] rfl rfl rfl rfl rfl rfl ?_
  refine j_imul C dX5_rowStart_16 ?_
  refine j_iadd C dX5_rowStart_17 ?_
  subst hf
  exact j_iret C hQ rfl dX5_rowStart_18 (Nat.zero_le _) (Nat.zero_le _) ⟨rfl, rfl⟩
theorem c_X5_rowStart (G : CG) (hl : (gL G).stackTraces = false) (h5 : Nat) (qn : Nat) (qm : Nat) (vD : Int32) (vA : Int32) (vL : Int32) (vN : (Nat → Int32)) (vM : (Nat → Int32)) (p1 : Int32) (p2 : Int32) (p3 : Int32) : Ct G yX5_rowStart wsX5_rowStart rm_X5_rowStart [.ref h5, .int p1, .int p2, .int p3] [(h5, .inr (5, [.int vD, .int vA, .int vL, .ref qn, .ref qm])), (qn, .inl (gI G, 512, .inl vN)), (qm, .inl (gI G, 512, .inl vM))] (fin1 (some (.int (f_X5_rowStart p1 p2 p3 vD))) [(h5, .inr (5, [.int vD, .int vA, .int vL, .ref qn, .ref qm])), (qn, .inl (gI G, 512, .inl vN)), (qm, .inl (gI G, 512, .inl vM))]) 0 0 := b_X5_rowStart G hl h5 qn qm vD vA vL vN vM p1 p2 p3 _ rfl

theorem lk_X5_number_21 : Cond.fieldLink RX5 21 (TX5 3).1 (TX5 3).2.1 (TX5 3).2.2.1 ∈ wsX5_number := by decide +kernel
theorem in_X5_number_5 : ∀ w ∈ wsX50, w ∈ wsX5_number := by decide +kernel
theorem wd_X5_number_ini_X7 : Cond.initialized RX7 ∈ wsX5_number := by decide +kernel
theorem wd_X5_number_sta_X7_cell : Cond.static yX7_cell ∈ wsX5_number := by decide +kernel
def f_X5_number (p1 : Int32) (vN : (Nat → Int32)) : Int32 :=
  (f_X7_cell 512 vN p1)
abbrev rm_X5_number : Room := { frames := 2, cells := 0, slots := 0, locals := 37 }
theorem k_X5_number : Cf yX5_number wsX5_number rm_X5_number cX5_number 2 (some .int) 1 := ⟨⟨_, rfl⟩, by decide +kernel, by decide +kernel, by decide +kernel⟩
set_option maxRecDepth 100000 in
set_option maxHeartbeats 4000000 in
theorem b_X5_number (G : CG) (hl : (gL G).stackTraces = false) (h5 : Nat) (qn : Nat) (qm : Nat) (vD : Int32) (vA : Int32) (vL : Int32) (vN : (Nat → Int32)) (vM : (Nat → Int32)) (p1 : Int32) (y : Int32) (hf : f_X5_number p1 vN = y) : Ct G yX5_number wsX5_number rm_X5_number [.ref h5, .int p1] [(h5, .inr (5, [.int vD, .int vA, .int vL, .ref qn, .ref qm])), (qn, .inl (gI G, 512, .inl vN)), (qm, .inl (gI G, 512, .inl vM))] (fin1 (some (.int y)) [(h5, .inr (5, [.int vD, .int vA, .int vL, .ref qn, .ref qm])), (qn, .inl (gI G, 512, .inl vN)), (qm, .inl (gI G, 512, .inl vM))]) 0 0 := by
  refine Ct.of (cc := cX5_number) (N := 2) (ret := (some .int)) RX5 (by decide) rfl rfl hl (Nat.le_of_ble_eq_true rfl) (lv := [(0, .ref h5), (1, .int p1)]) rfl (fun X hXG C hex hnm hQ => ?_)
  subst hXG
  unfold f_X5_number at hf
  refine j_aload_n C dX5_number_0 rfl 0 rfl ?_
  refine j_get5 C 0 rfl 3 (by decide) in_X5_number_5 lk_X5_number_21 rfl dX5_number_1 ?_
  refine j_iload_n C dX5_number_4 rfl 1 rfl ?_
  refine j_cN C (c_X7_cell X.1 hl qn 512 vN p1 (by decide)) k_X7_cell gX5_number_X7_cell_n50 nw_X5_50 wd_X5_number_ini_X7 wd_X5_number_sta_X7_cell (As := [.ref qn, .int p1]) (rest := []) (st' := [.int (f_X7_cell 512 vN p1)]) (ws' := [(h5, .inr (5, [.int vD, .int vA, .int vL, .ref qn, .ref qm])), (qn, .inl (gI X.1, 512, .inl vN)), (qm, .inl (gI X.1, 512, .inl vM))]) rfl rfl dX5_number_5 [1] [0, 2] [0, 2, 1] rfl rfl rfl rfl rfl rfl ?_
  subst hf
  exact j_iret C hQ rfl dX5_number_8 (Nat.zero_le _) (Nat.zero_le _) ⟨rfl, rfl⟩
theorem c_X5_number (G : CG) (hl : (gL G).stackTraces = false) (h5 : Nat) (qn : Nat) (qm : Nat) (vD : Int32) (vA : Int32) (vL : Int32) (vN : (Nat → Int32)) (vM : (Nat → Int32)) (p1 : Int32) : Ct G yX5_number wsX5_number rm_X5_number [.ref h5, .int p1] [(h5, .inr (5, [.int vD, .int vA, .int vL, .ref qn, .ref qm])), (qn, .inl (gI G, 512, .inl vN)), (qm, .inl (gI G, 512, .inl vM))] (fin1 (some (.int (f_X5_number p1 vN))) [(h5, .inr (5, [.int vD, .int vA, .int vL, .ref qn, .ref qm])), (qn, .inl (gI G, 512, .inl vN)), (qm, .inl (gI G, 512, .inl vM))]) 0 0 := b_X5_number G hl h5 qn qm vD vA vL vN vM p1 _ rfl

theorem lk_X5_write_21 : Cond.fieldLink RX5 21 (TX5 3).1 (TX5 3).2.1 (TX5 3).2.2.1 ∈ wsX5_write := by decide +kernel
theorem in_X5_write_5 : ∀ w ∈ wsX50, w ∈ wsX5_write := by decide +kernel
theorem wd_X5_write_ini_X7 : Cond.initialized RX7 ∈ wsX5_write := by decide +kernel
theorem wd_X5_write_sta_X7_setCell : Cond.static yX7_setCell ∈ wsX5_write := by decide +kernel
def f_X5_write (p1 : Int32) (p2 : Int32) (vN : (Nat → Int32)) : (Nat → Int32) :=
  (f_X7_setCell 512 vN p1 p2)
abbrev rm_X5_write : Room := { frames := 2, cells := 0, slots := 0, locals := 38 }
theorem k_X5_write : Cf yX5_write wsX5_write rm_X5_write cX5_write 3 none 2 := ⟨⟨_, rfl⟩, by decide +kernel, by decide +kernel, by decide +kernel⟩
set_option maxRecDepth 100000 in
set_option maxHeartbeats 4000000 in
theorem b_X5_write (G : CG) (hl : (gL G).stackTraces = false) (h5 : Nat) (qn : Nat) (qm : Nat) (vD : Int32) (vA : Int32) (vL : Int32) (vN : (Nat → Int32)) (vM : (Nat → Int32)) (p1 : Int32) (p2 : Int32) (y : (Nat → Int32)) (hf : f_X5_write p1 p2 vN = y) : Ct G yX5_write wsX5_write rm_X5_write [.ref h5, .int p1, .int p2] [(h5, .inr (5, [.int vD, .int vA, .int vL, .ref qn, .ref qm])), (qn, .inl (gI G, 512, .inl vN)), (qm, .inl (gI G, 512, .inl vM))] (fin1 none [(h5, .inr (5, [.int vD, .int vA, .int vL, .ref qn, .ref qm])), (qn, .inl (gI G, 512, .inl y)), (qm, .inl (gI G, 512, .inl vM))]) 0 0 := by
  refine Ct.of (cc := cX5_write) (N := 3) (ret := none) RX5 (by decide) rfl rfl hl (Nat.le_of_ble_eq_true rfl) (lv := [(0, .ref h5), (1, .int p1), (2, .int p2)]) rfl (fun X hXG C hex hnm hQ => ?_)
  subst hXG
  unfold f_X5_write at hf
  refine j_aload_n C dX5_write_0 rfl 0 rfl ?_
  refine j_get5 C 0 rfl 3 (by decide) in_X5_write_5 lk_X5_write_21 rfl dX5_write_1 ?_
  refine j_iload_n C dX5_write_4 rfl 1 rfl ?_
  refine j_iload_n C dX5_write_5 rfl 2 rfl ?_
  refine j_cN C (c_X7_setCell X.1 hl qn 512 vN p1 p2 (by decide)) k_X7_setCell gX5_write_X7_setCell_n32 nw_X5_32 wd_X5_write_ini_X7 wd_X5_write_sta_X7_setCell (As := [.ref qn, .int p1, .int p2]) (rest := []) (st' := []) (ws' := [(h5, .inr (5, [.int vD, .int vA, .int vL, .ref qn, .ref qm])), (qn, .inl (gI X.1, 512, .inl (f_X7_setCell 512 vN p1 p2))), (qm, .inl (gI X.1, 512, .inl vM))]) rfl rfl dX5_write_6 [1] [0, 2] [0, 2, 1] rfl rfl rfl rfl rfl rfl ?_
  subst hf
  exact j_vret C hQ rfl dX5_write_9 (Nat.zero_le _) (Nat.zero_le _) ⟨rfl, rfl⟩
theorem c_X5_write (G : CG) (hl : (gL G).stackTraces = false) (h5 : Nat) (qn : Nat) (qm : Nat) (vD : Int32) (vA : Int32) (vL : Int32) (vN : (Nat → Int32)) (vM : (Nat → Int32)) (p1 : Int32) (p2 : Int32) : Ct G yX5_write wsX5_write rm_X5_write [.ref h5, .int p1, .int p2] [(h5, .inr (5, [.int vD, .int vA, .int vL, .ref qn, .ref qm])), (qn, .inl (gI G, 512, .inl vN)), (qm, .inl (gI G, 512, .inl vM))] (fin1 none [(h5, .inr (5, [.int vD, .int vA, .int vL, .ref qn, .ref qm])), (qn, .inl (gI G, 512, .inl (f_X5_write p1 p2 vN))), (qm, .inl (gI G, 512, .inl vM))]) 0 0 := b_X5_write G hl h5 qn qm vD vA vL vN vM p1 p2 _ rfl

def f_X5_filled_J23 (x23_1 : Int32) (x4_2 : Int32) : Option ((Int32 × Int32) ⊕ (Int32)) :=
  some (.inl (x23_1, (x4_2 + 1)))
def f_X5_filled_L4 (vD : Int32) (vN : (Nat → Int32)) (x4_1 : Int32) (x4_2 : Int32) : Option ((Int32 × Int32) ⊕ (Int32)) :=
  if (f_X5_points vD) ≤ x4_2 then some (.inr (x4_1)) else if (f_X5_number x4_2 vN) = 0 then (f_X5_filled_J23 x4_1 x4_2) else (f_X5_filled_J23 (x4_1 + 1) x4_2)
def f_X5_filled (vD : Int32) (vN : (Nat → Int32)) : Option (Int32) :=
  dz_it (fun s : Int32 × Int32 => f_X5_filled_L4 vD vN s.1 s.2) (0, 0)
abbrev rm_X5_filled : Room := { frames := 3, cells := 0, slots := 0, locals := 58 }
theorem k_X5_filled : Cf yX5_filled wsX5_filled rm_X5_filled cX5_filled 3 (some .int) 0 := ⟨⟨_, rfl⟩, by decide +kernel, by decide +kernel, by decide +kernel⟩
set_option maxRecDepth 100000 in
set_option maxHeartbeats 4000000 in
theorem b_X5_filled (G : CG) (hl : (gL G).stackTraces = false) (h5 : Nat) (qn : Nat) (qm : Nat) (vD : Int32) (vA : Int32) (vL : Int32) (vN : (Nat → Int32)) (vM : (Nat → Int32)) (y : Int32) (hf : f_X5_filled vD vN = some y) : Ct G yX5_filled wsX5_filled rm_X5_filled [.ref h5] [(h5, .inr (5, [.int vD, .int vA, .int vL, .ref qn, .ref qm])), (qn, .inl (gI G, 512, .inl vN)), (qm, .inl (gI G, 512, .inl vM))] (fin1 (some (.int y)) [(h5, .inr (5, [.int vD, .int vA, .int vL, .ref qn, .ref qm])), (qn, .inl (gI G, 512, .inl vN)), (qm, .inl (gI G, 512, .inl vM))]) 0 0 := by
  refine Ct.of (cc := cX5_filled) (N := 3) (ret := (some .int)) RX5 (by decide) rfl rfl hl (Nat.le_of_ble_eq_true rfl) (lv := [(0, .ref h5)]) rfl (fun X hXG C hex hnm hQ => ?_)
  subst hXG
  unfold f_X5_filled at hf
  refine j_iconst C (v := 0) dX5_filled_0 (by decide) ?_
  refine j_istore_n (lv' := [(1, .int 0), (0, .ref h5)]) C dX5_filled_1 rfl (by decide) rfl ?_
  refine j_iconst C (v := 0) dX5_filled_2 (by decide) ?_
  refine j_istore_n (lv' := [(2, .int 0), (1, .int 0), (0, .ref h5)]) C dX5_filled_3 rfl (by decide) rfl ?_
  have kk4 : ∀ (n : Nat) (x4_1 : Int32) (x4_2 : Int32), dz_iter n (fun s : Int32 × Int32 => f_X5_filled_L4 vD vN s.1 s.2) (x4_1, x4_2) = some y → Jt X [(h5, .inr (5, [.int vD, .int vA, .int vL, .ref qn, .ref qm])), (qn, .inl (gI X.1, 512, .inl vN)), (qm, .inl (gI X.1, 512, .inl vM))] 0 0 4 [(0, .ref h5), (1, .int x4_1), (2, .int x4_2)] [] := by
    intro n
    induction n with
    | zero => intro x4_1 x4_2 hit; exact absurd hit (by simp [dz_iter])
    | succ n ih4 =>
      intro x4_1 x4_2 hit
      obtain ⟨y4, hf, hg4⟩ := dz_iter_succ hit
      replace hf : f_X5_filled_L4 vD vN x4_1 x4_2 = some y4 := hf
      unfold f_X5_filled_L4 at hf
      refine j_iload_n C dX5_filled_4 rfl 2 rfl ?_
      refine j_aload_n C dX5_filled_5 rfl 0 rfl ?_
      refine j_cV C (c_X5_points X.1 hl h5 qn qm vD vA vL vN vM) k_X5_points gX5_filled_X5_points rfl (ci := 5) (q0 := 0) rfl rfl (As := []) (rest := [.int x4_2]) (st' := [.int (f_X5_points vD), .int x4_2]) (ws' := [(h5, .inr (5, [.int vD, .int vA, .int vL, .ref qn, .ref qm])), (qn, .inl (gI X.1, 512, .inl vN)), (qm, .inl (gI X.1, 512, .inl vM))]) rfl rfl dX5_filled_6 [0, 1, 2] [] [0, 1, 2] rfl rfl rfl rfl rfl rfl ?_
      refine j_icmp_ge C (tgt := 29) dX5_filled_9 (by decide) (fun e9 => ?_) (fun e9 => ?_)
      · have hf := (if_pos e9).symm.trans hf
        refine j_iload_n C dX5_filled_29 rfl 1 rfl ?_
        obtain rfl := Option.some.inj hf
        obtain rfl := dz_go_inr hg4
        exact j_iret C hQ rfl dX5_filled_30 (Nat.zero_le _) (Nat.zero_le _) ⟨rfl, rfl⟩
      · have hf := (if_neg e9).symm.trans hf
        refine j_aload_n C dX5_filled_12 rfl 0 rfl ?_
        refine j_iload_n C dX5_filled_13 rfl 2 rfl ?_
        refine j_cV C (c_X5_number X.1 hl h5 qn qm vD vA vL vN vM x4_2) k_X5_number gX5_filled_X5_number rfl (ci := 5) (q0 := 0) rfl rfl (As := [.int x4_2]) (rest := []) (st' := [.int (f_X5_number x4_2 vN)]) (ws' := [(h5, .inr (5, [.int vD, .int vA, .int vL, .ref qn, .ref qm])), (qn, .inl (gI X.1, 512, .inl vN)), (qm, .inl (gI X.1, 512, .inl vM))]) rfl rfl dX5_filled_14 [0, 1, 2] [] [0, 1, 2] rfl rfl rfl rfl rfl rfl ?_
        have k23 : ∀ (x23_1 : Int32), f_X5_filled_J23 x23_1 x4_2 = some y4 → Jt X [(h5, .inr (5, [.int vD, .int vA, .int vL, .ref qn, .ref qm])), (qn, .inl (gI X.1, 512, .inl vN)), (qm, .inl (gI X.1, 512, .inl vM))] 0 0 23 [(0, .ref h5), (1, .int x23_1), (2, .int x4_2)] [] := by
          intro x23_1 hf
          unfold f_X5_filled_J23 at hf
          refine j_iinc (v := (x4_2 + 1)) (lv' := [(2, .int (x4_2 + 1)), (0, .ref h5), (1, .int x23_1)]) C dX5_filled_23 2 rfl (by first | rfl | decide) (by decide) rfl ?_
          refine j_goto C (tgt := 4) dX5_filled_26 (by decide) ?_
          obtain rfl := Option.some.inj hf
          have hf := dz_go_inl hg4
          refine j_loc [1, 2, 0] rfl ?_
          exact ih4 x23_1 (x4_2 + 1) hf
        refine j_if_eq C (tgt := 23) dX5_filled_17 (by decide) (fun e17 => ?_) (fun e17 => ?_)
        · have hf := (if_pos e17).symm.trans hf
          refine j_loc [0, 1, 2] rfl ?_
          exact k23 x4_1 hf
        · have hf := (if_neg e17).symm.trans hf
          refine j_iinc (v := (x4_1 + 1)) (lv' := [(1, .int (x4_1 + 1)), (0, .ref h5), (2, .int x4_2)]) C dX5_filled_20 1 rfl (by first | rfl | decide) (by decide) rfl ?_
          refine j_loc [1, 0, 2] rfl ?_
          exact k23 (x4_1 + 1) hf
  refine j_loc [2, 1, 0] rfl ?_
  exact kk4 _ 0 0 hf

def f_X5_sum_L4 (vD : Int32) (vN : (Nat → Int32)) (x4_1 : Int32) (x4_2 : Int32) : Option ((Int32 × Int32) ⊕ (Int32)) :=
  if (f_X5_points vD) ≤ x4_2 then some (.inr (x4_1)) else some (.inl ((x4_1 + (f_X5_number x4_2 vN)), (x4_2 + 1)))
def f_X5_sum (vD : Int32) (vN : (Nat → Int32)) : Option (Int32) :=
  dz_it (fun s : Int32 × Int32 => f_X5_sum_L4 vD vN s.1 s.2) (0, 0)
abbrev rm_X5_sum : Room := { frames := 3, cells := 0, slots := 0, locals := 58 }
theorem k_X5_sum : Cf yX5_sum wsX5_sum rm_X5_sum cX5_sum 3 (some .int) 0 := ⟨⟨_, rfl⟩, by decide +kernel, by decide +kernel, by decide +kernel⟩
set_option maxRecDepth 100000 in
set_option maxHeartbeats 4000000 in
theorem b_X5_sum (G : CG) (hl : (gL G).stackTraces = false) (h5 : Nat) (qn : Nat) (qm : Nat) (vD : Int32) (vA : Int32) (vL : Int32) (vN : (Nat → Int32)) (vM : (Nat → Int32)) (y : Int32) (hf : f_X5_sum vD vN = some y) : Ct G yX5_sum wsX5_sum rm_X5_sum [.ref h5] [(h5, .inr (5, [.int vD, .int vA, .int vL, .ref qn, .ref qm])), (qn, .inl (gI G, 512, .inl vN)), (qm, .inl (gI G, 512, .inl vM))] (fin1 (some (.int y)) [(h5, .inr (5, [.int vD, .int vA, .int vL, .ref qn, .ref qm])), (qn, .inl (gI G, 512, .inl vN)), (qm, .inl (gI G, 512, .inl vM))]) 0 0 := by
  refine Ct.of (cc := cX5_sum) (N := 3) (ret := (some .int)) RX5 (by decide) rfl rfl hl (Nat.le_of_ble_eq_true rfl) (lv := [(0, .ref h5)]) rfl (fun X hXG C hex hnm hQ => ?_)
  subst hXG
  unfold f_X5_sum at hf
  refine j_iconst C (v := 0) dX5_sum_0 (by decide) ?_
  refine j_istore_n (lv' := [(1, .int 0), (0, .ref h5)]) C dX5_sum_1 rfl (by decide) rfl ?_
  refine j_iconst C (v := 0) dX5_sum_2 (by decide) ?_
  refine j_istore_n (lv' := [(2, .int 0), (1, .int 0), (0, .ref h5)]) C dX5_sum_3 rfl (by decide) rfl ?_
  have kk4 : ∀ (n : Nat) (x4_1 : Int32) (x4_2 : Int32), dz_iter n (fun s : Int32 × Int32 => f_X5_sum_L4 vD vN s.1 s.2) (x4_1, x4_2) = some y → Jt X [(h5, .inr (5, [.int vD, .int vA, .int vL, .ref qn, .ref qm])), (qn, .inl (gI X.1, 512, .inl vN)), (qm, .inl (gI X.1, 512, .inl vM))] 0 0 4 [(0, .ref h5), (1, .int x4_1), (2, .int x4_2)] [] := by
    intro n
    induction n with
    | zero => intro x4_1 x4_2 hit; exact absurd hit (by simp [dz_iter])
    | succ n ih4 =>
      intro x4_1 x4_2 hit
      obtain ⟨y4, hf, hg4⟩ := dz_iter_succ hit
      replace hf : f_X5_sum_L4 vD vN x4_1 x4_2 = some y4 := hf
      unfold f_X5_sum_L4 at hf
      refine j_iload_n C dX5_sum_4 rfl 2 rfl ?_
      refine j_aload_n C dX5_sum_5 rfl 0 rfl ?_
      refine j_cV C (c_X5_points X.1 hl h5 qn qm vD vA vL vN vM) k_X5_points gX5_sum_X5_points rfl (ci := 5) (q0 := 0) rfl rfl (As := []) (rest := [.int x4_2]) (st' := [.int (f_X5_points vD), .int x4_2]) (ws' := [(h5, .inr (5, [.int vD, .int vA, .int vL, .ref qn, .ref qm])), (qn, .inl (gI X.1, 512, .inl vN)), (qm, .inl (gI X.1, 512, .inl vM))]) rfl rfl dX5_sum_6 [0, 1, 2] [] [0, 1, 2] rfl rfl rfl rfl rfl rfl ?_
      refine j_icmp_ge C (tgt := 26) dX5_sum_9 (by decide) (fun e9 => ?_) (fun e9 => ?_)
      · have hf := (if_pos e9).symm.trans hf
        refine j_iload_n C dX5_sum_26 rfl 1 rfl ?_
        obtain rfl := Option.some.inj hf
        obtain rfl := dz_go_inr hg4
        exact j_iret C hQ rfl dX5_sum_27 (Nat.zero_le _) (Nat.zero_le _) ⟨rfl, rfl⟩
      · have hf := (if_neg e9).symm.trans hf
        refine j_iload_n C dX5_sum_12 rfl 1 rfl ?_
        refine j_aload_n C dX5_sum_13 rfl 0 rfl ?_
        refine j_iload_n C dX5_sum_14 rfl 2 rfl ?_
        refine j_cV C (c_X5_number X.1 hl h5 qn qm vD vA vL vN vM x4_2) k_X5_number gX5_sum_X5_number rfl (ci := 5) (q0 := 0) rfl rfl (As := [.int x4_2]) (rest := [.int x4_1]) (st' := [.int (f_X5_number x4_2 vN), .int x4_1]) (ws' := [(h5, .inr (5, [.int vD, .int vA, .int vL, .ref qn, .ref qm])), (qn, .inl (gI X.1, 512, .inl vN)), (qm, .inl (gI X.1, 512, .inl vM))]) rfl rfl dX5_sum_15 [0, 1, 2] [] [0, 1, 2] rfl rfl rfl rfl rfl rfl ?_
        refine j_iadd C dX5_sum_18 ?_
        refine j_istore_n (lv' := [(1, .int (x4_1 + (f_X5_number x4_2 vN))), (0, .ref h5), (2, .int x4_2)]) C dX5_sum_19 rfl (by decide) rfl ?_
        refine j_iinc (v := (x4_2 + 1)) (lv' := [(2, .int (x4_2 + 1)), (1, .int (x4_1 + (f_X5_number x4_2 vN))), (0, .ref h5)]) C dX5_sum_20 2 rfl (by first | rfl | decide) (by decide) rfl ?_
        refine j_goto C (tgt := 4) dX5_sum_23 (by decide) ?_
        obtain rfl := Option.some.inj hf
        have hf := dz_go_inl hg4
        refine j_loc [2, 1, 0] rfl ?_
        exact ih4 (x4_1 + (f_X5_number x4_2 vN)) (x4_2 + 1) hf
  refine j_loc [2, 1, 0] rfl ?_
  exact kk4 _ 0 0 hf

end
