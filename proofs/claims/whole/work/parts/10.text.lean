noncomputable section
def f_X6_afterFirstDigit_J26 : Int32 :=
  9
def f_X6_afterFirstDigit (p1 : Int32) : Int32 :=
  if p1 = 48 then 8 else if p1 < 49 then f_X6_afterFirstDigit_J26 else if 57 < p1 then f_X6_afterFirstDigit_J26 else 6
abbrev rm_X6_afterFirstDigit : Room := { frames := 1, cells := 0, slots := 0, locals := 16 }
theorem k_X6_afterFirstDigit : Cf yX6_afterFirstDigit wsX6_afterFirstDigit rm_X6_afterFirstDigit cX6_afterFirstDigit 1 (some .int) 1 := ⟨⟨_, rfl⟩, by decide +kernel, by decide +kernel, by decide +kernel⟩
set_option maxRecDepth 100000 in
set_option maxHeartbeats 4000000 in
theorem b_X6_afterFirstDigit (G : CG) (hl : (gL G).stackTraces = false) (p1 : Int32) (y : Int32) (hf : f_X6_afterFirstDigit p1 = y) : Ct G yX6_afterFirstDigit wsX6_afterFirstDigit rm_X6_afterFirstDigit [.int p1] [] (fin1 (some (.int y)) []) 0 0 := by
  refine Ct.of (cc := cX6_afterFirstDigit) (N := 1) (ret := (some .int)) RX6 (by decide) rfl rfl hl (Nat.le_of_ble_eq_true rfl) (lv := [(0, .int p1)]) rfl (fun X hXG C hex hnm hQ => ?_)
  subst hXG
  unfold f_X6_afterFirstDigit at hf
  refine j_iload_n C dX6_afterFirstDigit_0 rfl 0 rfl ?_
  refine j_bipush C (v := 48) dX6_afterFirstDigit_1 (by decide) ?_
  refine j_icmp_ne C (tgt := 9) dX6_afterFirstDigit_3 (by decide) (fun e3 => ?_) (fun e3 => ?_)
  · have hf := (if_neg e3).symm.trans hf
    refine j_iload_n C dX6_afterFirstDigit_9 rfl 0 rfl ?_
    refine j_bipush C (v := 49) dX6_afterFirstDigit_10 (by decide) ?_
    have k26 : f_X6_afterFirstDigit_J26 = y → Jt X [] 0 0 26 [(0, .int p1)] [] := by
      intro  hf
      unfold f_X6_afterFirstDigit_J26 at hf
      refine j_bipush C (v := 9) dX6_afterFirstDigit_26 (by decide) ?_
      subst hf
      exact j_iret C hQ rfl dX6_afterFirstDigit_28 (Nat.zero_le _) (Nat.zero_le _) ⟨rfl, rfl⟩
    refine j_icmp_lt C (tgt := 26) dX6_afterFirstDigit_12 (by decide) (fun e12 => ?_) (fun e12 => ?_)
    · have hf := (if_pos e12).symm.trans hf
      refine j_loc [0] rfl ?_
      exact k26  hf
    · have hf := (if_neg e12).symm.trans hf
      refine j_iload_n C dX6_afterFirstDigit_15 rfl 0 rfl ?_
      refine j_bipush C (v := 57) dX6_afterFirstDigit_16 (by decide) ?_
      refine j_icmp_gt C (tgt := 26) dX6_afterFirstDigit_18 (by decide) (fun e18 => ?_) (fun e18 => ?_)
      · have hf := (if_pos e18).symm.trans hf
        refine j_loc [0] rfl ?_
        exact k26  hf
      · have hf := (if_neg e18).symm.trans hf
        refine j_bipush C (v := 6) dX6_afterFirstDigit_21 (by decide) ?_
        refine j_goto C (tgt := 28) dX6_afterFirstDigit_23 (by decide) ?_
        subst hf
        exact j_iret C hQ rfl dX6_afterFirstDigit_28 (Nat.zero_le _) (Nat.zero_le _) ⟨rfl, rfl⟩
  · have hf := (if_pos e3).symm.trans hf
    refine j_bipush C (v := 8) dX6_afterFirstDigit_6 (by decide) ?_
    subst hf
    exact j_iret C hQ rfl dX6_afterFirstDigit_8 (Nat.zero_le _) (Nat.zero_le _) ⟨rfl, rfl⟩
theorem c_X6_afterFirstDigit (G : CG) (hl : (gL G).stackTraces = false) (p1 : Int32) : Ct G yX6_afterFirstDigit wsX6_afterFirstDigit rm_X6_afterFirstDigit [.int p1] [] (fin1 (some (.int (f_X6_afterFirstDigit p1))) []) 0 0 := b_X6_afterFirstDigit G hl p1 _ rfl

def f_X6_next_J95 (p2 : Int32) : Int32 :=
  if p2 = 59 then 0 else 9
def f_X6_next_J79 (p1 : Int32) (p2 : Int32) : Int32 :=
  if p2 < 48 then (f_X6_next_J95 p2) else if 57 < p2 then (f_X6_next_J95 p2) else (p1 + 1)
def f_X6_next_J52 : Int32 :=
  4
def f_X6_next_J144 : Int32 :=
  9
def f_X6_next (p1 : Int32) (p2 : Int32) : Int32 :=
  if p1 = 3 then if p2 = 61 then f_X6_next_J52 else if p2 = 43 then f_X6_next_J52 else 9 else if p1 = 4 then if p2 = 45 then 5 else (f_X6_afterFirstDigit p2) else if p1 = 5 then (f_X6_afterFirstDigit p2) else if p1 = 6 then (f_X6_next_J79 p1 p2) else if p1 = 7 then (f_X6_next_J79 p1 p2) else if p1 = 8 then if p2 = 59 then 0 else 9 else if 2 < p1 then f_X6_next_J144 else if p2 < 48 then f_X6_next_J144 else if 55 < p2 then f_X6_next_J144 else (p1 + 1)
abbrev rm_X6_next : Room := { frames := 2, cells := 0, slots := 0, locals := 36 }
theorem k_X6_next : Cf yX6_next wsX6_next rm_X6_next cX6_next 2 (some .int) 2 := ⟨⟨_, rfl⟩, by decide +kernel, by decide +kernel, by decide +kernel⟩
set_option maxRecDepth 100000 in
set_option maxHeartbeats 4000000 in
theorem b_X6_next (G : CG) (hl : (gL G).stackTraces = false) (p1 : Int32) (p2 : Int32) (y : Int32) (hf : f_X6_next p1 p2 = y) : Ct G yX6_next wsX6_next rm_X6_next [.int p1, .int p2] [] (fin1 (some (.int y)) []) 0 0 := by
  refine Ct.of (cc := cX6_next) (N := 2) (ret := (some .int)) RX6 (by decide) rfl rfl hl (Nat.le_of_ble_eq_true rfl) (lv := [(0, .int p1), (1, .int p2)]) rfl (fun X hXG C hex hnm hQ => ?_)
  subst hXG
  unfold f_X6_next at hf
  refine j_iload_n C dX6_next_0 rfl 0 rfl ?_
  have k79 : f_X6_next_J79 p1 p2 = y → Jt X [] 0 0 79 [(0, .int p1), (1, .int p2)] [] := by
    intro  hf
    unfold f_X6_next_J79 at hf
    refine j_iload_n C dX6_next_79 rfl 1 rfl ?_
    refine j_bipush C (v := 48) dX6_next_80 (by decide) ?_
    have k95 : f_X6_next_J95 p2 = y → Jt X [] 0 0 95 [(0, .int p1), (1, .int p2)] [] := by
      intro  hf
      unfold f_X6_next_J95 at hf
      refine j_iload_n C dX6_next_95 rfl 1 rfl ?_
      refine j_bipush C (v := 59) dX6_next_96 (by decide) ?_
      refine j_icmp_ne C (tgt := 105) dX6_next_98 (by decide) (fun e98 => ?_) (fun e98 => ?_)
      · have hf := (if_neg e98).symm.trans hf
        refine j_bipush C (v := 9) dX6_next_105 (by decide) ?_
        subst hf
        exact j_iret C hQ rfl dX6_next_107 (Nat.zero_le _) (Nat.zero_le _) ⟨rfl, rfl⟩
      · have hf := (if_pos e98).symm.trans hf
        refine j_iconst C (v := 0) dX6_next_101 (by decide) ?_
        refine j_goto C (tgt := 107) dX6_next_102 (by decide) ?_
        subst hf
        exact j_iret C hQ rfl dX6_next_107 (Nat.zero_le _) (Nat.zero_le _) ⟨rfl, rfl⟩
    refine j_icmp_lt C (tgt := 95) dX6_next_82 (by decide) (fun e82 => ?_) (fun e82 => ?_)
    · have hf := (if_pos e82).symm.trans hf
      refine j_loc [0, 1] rfl ?_
      exact k95  hf
    · have hf := (if_neg e82).symm.trans hf
      refine j_iload_n C dX6_next_85 rfl 1 rfl ?_
      refine j_bipush C (v := 57) dX6_next_86 (by decide) ?_
      refine j_icmp_gt C (tgt := 95) dX6_next_88 (by decide) (fun e88 => ?_) (fun e88 => ?_)
      · have hf := (if_pos e88).symm.trans hf
        refine j_loc [0, 1] rfl ?_
        exact k95  hf
      · have hf := (if_neg e88).symm.trans hf
        refine j_iload_n C dX6_next_91 rfl 0 rfl ?_
        refine j_iconst C (v := 1) dX6_next_92 (by decide) ?_
        refine j_iadd C dX6_next_93 ?_
        subst hf
        exact j_iret C hQ rfl dX6_next_94 (Nat.zero_le _) (Nat.zero_le _) ⟨rfl, rfl⟩
  by_cases e1_3 : p1 = 3
  · have hf := (if_pos e1_3).symm.trans hf
    refine j_tabIn C (off := 39) (tgt := 40) dX6_next_1 (by rw [e1_3]; decide) (by rw [e1_3]; decide) (by rw [e1_3]; decide) (by decide) ?_
    refine j_iload_n C dX6_next_40 rfl 1 rfl ?_
    refine j_bipush C (v := 61) dX6_next_41 (by decide) ?_
    have k52 : f_X6_next_J52 = y → Jt X [] 0 0 52 [(0, .int p1), (1, .int p2)] [] := by
      intro  hf
      unfold f_X6_next_J52 at hf
      refine j_iconst C (v := 4) dX6_next_52 (by decide) ?_
      refine j_goto C (tgt := 58) dX6_next_53 (by decide) ?_
      subst hf
      exact j_iret C hQ rfl dX6_next_58 (Nat.zero_le _) (Nat.zero_le _) ⟨rfl, rfl⟩
    refine j_icmp_eq C (tgt := 52) dX6_next_43 (by decide) (fun e43 => ?_) (fun e43 => ?_)
    · have hf := (if_pos e43).symm.trans hf
      refine j_loc [0, 1] rfl ?_
      exact k52  hf
    · have hf := (if_neg e43).symm.trans hf
      refine j_iload_n C dX6_next_46 rfl 1 rfl ?_
      refine j_bipush C (v := 43) dX6_next_47 (by decide) ?_
      refine j_icmp_ne C (tgt := 56) dX6_next_49 (by decide) (fun e49 => ?_) (fun e49 => ?_)
      · have hf := (if_neg e49).symm.trans hf
        refine j_bipush C (v := 9) dX6_next_56 (by decide) ?_
        subst hf
        exact j_iret C hQ rfl dX6_next_58 (Nat.zero_le _) (Nat.zero_le _) ⟨rfl, rfl⟩
      · have hf := (if_pos e49).symm.trans hf
        refine j_loc [0, 1] rfl ?_
        exact k52  hf
  have hf := (if_neg e1_3).symm.trans hf
  by_cases e1_4 : p1 = 4
  · have hf := (if_pos e1_4).symm.trans hf
    refine j_tabIn C (off := 58) (tgt := 59) dX6_next_1 (by rw [e1_4]; decide) (by rw [e1_4]; decide) (by rw [e1_4]; decide) (by decide) ?_
    refine j_iload_n C dX6_next_59 rfl 1 rfl ?_
    refine j_bipush C (v := 45) dX6_next_60 (by decide) ?_
    refine j_icmp_ne C (tgt := 69) dX6_next_62 (by decide) (fun e62 => ?_) (fun e62 => ?_)
    · have hf := (if_neg e62).symm.trans hf
      refine j_iload_n C dX6_next_69 rfl 1 rfl ?_
      refine j_cS C (c_X6_afterFirstDigit X.1 hl p2) k_X6_afterFirstDigit gX6_next_X6_afterFirstDigit (As := [.int p2]) (rest := []) (st' := [.int (f_X6_afterFirstDigit p2)]) (ws' := []) rfl rfl dX6_next_70 [] [] [] rfl rfl rfl rfl rfl rfl ?_
      subst hf
      exact j_iret C hQ rfl dX6_next_73 (Nat.zero_le _) (Nat.zero_le _) ⟨rfl, rfl⟩
    · have hf := (if_pos e62).symm.trans hf
      refine j_iconst C (v := 5) dX6_next_65 (by decide) ?_
      refine j_goto C (tgt := 73) dX6_next_66 (by decide) ?_
      subst hf
      exact j_iret C hQ rfl dX6_next_73 (Nat.zero_le _) (Nat.zero_le _) ⟨rfl, rfl⟩
  have hf := (if_neg e1_4).symm.trans hf
  by_cases e1_5 : p1 = 5
  · have hf := (if_pos e1_5).symm.trans hf
    refine j_tabIn C (off := 73) (tgt := 74) dX6_next_1 (by rw [e1_5]; decide) (by rw [e1_5]; decide) (by rw [e1_5]; decide) (by decide) ?_
    refine j_iload_n C dX6_next_74 rfl 1 rfl ?_
    refine j_cS C (c_X6_afterFirstDigit X.1 hl p2) k_X6_afterFirstDigit gX6_next_X6_afterFirstDigit (As := [.int p2]) (rest := []) (st' := [.int (f_X6_afterFirstDigit p2)]) (ws' := []) rfl rfl dX6_next_75 [] [] [] rfl rfl rfl rfl rfl rfl ?_
    subst hf
    exact j_iret C hQ rfl dX6_next_78 (Nat.zero_le _) (Nat.zero_le _) ⟨rfl, rfl⟩
  have hf := (if_neg e1_5).symm.trans hf
  by_cases e1_6 : p1 = 6
  · have hf := (if_pos e1_6).symm.trans hf
    refine j_tabIn C (off := 78) (tgt := 79) dX6_next_1 (by rw [e1_6]; decide) (by rw [e1_6]; decide) (by rw [e1_6]; decide) (by decide) ?_
    refine j_loc [0, 1] rfl ?_
    exact k79  hf
  have hf := (if_neg e1_6).symm.trans hf
  by_cases e1_7 : p1 = 7
  · have hf := (if_pos e1_7).symm.trans hf
    refine j_tabIn C (off := 78) (tgt := 79) dX6_next_1 (by rw [e1_7]; decide) (by rw [e1_7]; decide) (by rw [e1_7]; decide) (by decide) ?_
    refine j_loc [0, 1] rfl ?_
    exact k79  hf
  have hf := (if_neg e1_7).symm.trans hf
  by_cases e1_8 : p1 = 8
  · have hf := (if_pos e1_8).symm.trans hf
    refine j_tabIn C (off := 107) (tgt := 108) dX6_next_1 (by rw [e1_8]; decide) (by rw [e1_8]; decide) (by rw [e1_8]; decide) (by decide) ?_
    refine j_iload_n C dX6_next_108 rfl 1 rfl ?_
    refine j_bipush C (v := 59) dX6_next_109 (by decide) ?_
    refine j_icmp_ne C (tgt := 118) dX6_next_111 (by decide) (fun e111 => ?_) (fun e111 => ?_)
    · have hf := (if_neg e111).symm.trans hf
      refine j_bipush C (v := 9) dX6_next_118 (by decide) ?_
      subst hf
      exact j_iret C hQ rfl dX6_next_120 (Nat.zero_le _) (Nat.zero_le _) ⟨rfl, rfl⟩
    · have hf := (if_pos e111).symm.trans hf
      refine j_iconst C (v := 0) dX6_next_114 (by decide) ?_
      refine j_goto C (tgt := 120) dX6_next_115 (by decide) ?_
      subst hf
      exact j_iret C hQ rfl dX6_next_120 (Nat.zero_le _) (Nat.zero_le _) ⟨rfl, rfl⟩
  have hf := (if_neg e1_8).symm.trans hf
  have t1_3 : p1.toInt ≠ 3 := fun h => e1_3 (Int32.toInt_inj.mp h)
  have t1_4 : p1.toInt ≠ 4 := fun h => e1_4 (Int32.toInt_inj.mp h)
  have t1_5 : p1.toInt ≠ 5 := fun h => e1_5 (Int32.toInt_inj.mp h)
  have t1_6 : p1.toInt ≠ 6 := fun h => e1_6 (Int32.toInt_inj.mp h)
  have t1_7 : p1.toInt ≠ 7 := fun h => e1_7 (Int32.toInt_inj.mp h)
  have t1_8 : p1.toInt ≠ 8 := fun h => e1_8 (Int32.toInt_inj.mp h)
  refine j_tabOut C (tgt := 121) dX6_next_1 (by omega) (by decide) ?_
  refine j_iload_n C dX6_next_121 rfl 0 rfl ?_
  refine j_iconst C (v := 2) dX6_next_122 (by decide) ?_
  have k144 : f_X6_next_J144 = y → Jt X [] 0 0 144 [(0, .int p1), (1, .int p2)] [] := by
    intro  hf
    unfold f_X6_next_J144 at hf
    refine j_bipush C (v := 9) dX6_next_144 (by decide) ?_
    subst hf
    exact j_iret C hQ rfl dX6_next_146 (Nat.zero_le _) (Nat.zero_le _) ⟨rfl, rfl⟩
  refine j_icmp_gt C (tgt := 144) dX6_next_123 (by decide) (fun e123 => ?_) (fun e123 => ?_)
  · have hf := (if_pos e123).symm.trans hf
    refine j_loc [0, 1] rfl ?_
    exact k144  hf
  · have hf := (if_neg e123).symm.trans hf
    refine j_iload_n C dX6_next_126 rfl 1 rfl ?_
    refine j_bipush C (v := 48) dX6_next_127 (by decide) ?_
    refine j_icmp_lt C (tgt := 144) dX6_next_129 (by decide) (fun e129 => ?_) (fun e129 => ?_)
    · have hf := (if_pos e129).symm.trans hf
      refine j_loc [0, 1] rfl ?_
      exact k144  hf
    · have hf := (if_neg e129).symm.trans hf
      refine j_iload_n C dX6_next_132 rfl 1 rfl ?_
      refine j_bipush C (v := 55) dX6_next_133 (by decide) ?_
      refine j_icmp_gt C (tgt := 144) dX6_next_135 (by decide) (fun e135 => ?_) (fun e135 => ?_)
      · have hf := (if_pos e135).symm.trans hf
        refine j_loc [0, 1] rfl ?_
        exact k144  hf
      · have hf := (if_neg e135).symm.trans hf
        refine j_iload_n C dX6_next_138 rfl 0 rfl ?_
        refine j_iconst C (v := 1) dX6_next_139 (by decide) ?_
        refine j_iadd C dX6_next_140 ?_
        refine j_goto C (tgt := 146) dX6_next_141 (by decide) ?_
        subst hf
        exact j_iret C hQ rfl dX6_next_146 (Nat.zero_le _) (Nat.zero_le _) ⟨rfl, rfl⟩
theorem c_X6_next (G : CG) (hl : (gL G).stackTraces = false) (p1 : Int32) (p2 : Int32) : Ct G yX6_next wsX6_next rm_X6_next [.int p1, .int p2] [] (fin1 (some (.int (f_X6_next p1 p2))) []) 0 0 := b_X6_next G hl p1 p2 _ rfl

theorem lk_X6_sign_15 : Cond.fieldLink RX6 15 (TX6 1).1 (TX6 1).2.1 (TX6 1).2.2.1 ∈ wsX6_sign := by decide +kernel
theorem in_X6_sign_6 : ∀ w ∈ wsX60, w ∈ wsX6_sign := by decide +kernel
theorem lk_X6_sign_9 : Cond.fieldLink RX6 9 (TX6 0).1 (TX6 0).2.1 (TX6 0).2.2.1 ∈ wsX6_sign := by decide +kernel
theorem wd_X6_sign_ini_X7 : Cond.initialized RX7 ∈ wsX6_sign := by decide +kernel
theorem wd_X6_sign_sta_X7_cell : Cond.static yX7_cell ∈ wsX6_sign := by decide +kernel
def f_X6_sign (p1 : Int32) (tL : Int32) (tS : (Nat → Int32)) : Int32 :=
  if tL ≤ p1 then 0 else (f_X7_cell 60 tS p1)
abbrev rm_X6_sign : Room := { frames := 2, cells := 0, slots := 0, locals := 37 }
theorem k_X6_sign : Cf yX6_sign wsX6_sign rm_X6_sign cX6_sign 2 (some .int) 1 := ⟨⟨_, rfl⟩, by decide +kernel, by decide +kernel, by decide +kernel⟩
set_option maxRecDepth 100000 in
set_option maxHeartbeats 4000000 in
theorem b_X6_sign (G : CG) (hl : (gL G).stackTraces = false) (h6 : Nat) (qs : Nat) (tL : Int32) (tS : (Nat → Int32)) (p1 : Int32) (y : Int32) (hf : f_X6_sign p1 tL tS = y) : Ct G yX6_sign wsX6_sign rm_X6_sign [.ref h6, .int p1] [(h6, .inr (6, [.ref qs, .int tL])), (qs, .inl (gI G, 60, .inl tS))] (fin1 (some (.int y)) [(h6, .inr (6, [.ref qs, .int tL])), (qs, .inl (gI G, 60, .inl tS))]) 0 0 := by
  refine Ct.of (cc := cX6_sign) (N := 2) (ret := (some .int)) RX6 (by decide) rfl rfl hl (Nat.le_of_ble_eq_true rfl) (lv := [(0, .ref h6), (1, .int p1)]) rfl (fun X hXG C hex hnm hQ => ?_)
  subst hXG
  unfold f_X6_sign at hf
  refine j_iload_n C dX6_sign_0 rfl 1 rfl ?_
  refine j_aload_n C dX6_sign_1 rfl 0 rfl ?_
  refine j_get6 C 0 rfl 1 (by decide) in_X6_sign_6 lk_X6_sign_15 rfl dX6_sign_2 ?_
  refine j_icmp_ge C (tgt := 19) dX6_sign_5 (by decide) (fun e5 => ?_) (fun e5 => ?_)
  · have hf := (if_pos e5).symm.trans hf
    refine j_iconst C (v := 0) dX6_sign_19 (by decide) ?_
    subst hf
    exact j_iret C hQ rfl dX6_sign_20 (Nat.zero_le _) (Nat.zero_le _) ⟨rfl, rfl⟩
  · have hf := (if_neg e5).symm.trans hf
    refine j_aload_n C dX6_sign_8 rfl 0 rfl ?_
    refine j_get6 C 0 rfl 0 (by decide) in_X6_sign_6 lk_X6_sign_9 rfl dX6_sign_9 ?_
    refine j_iload_n C dX6_sign_12 rfl 1 rfl ?_
    refine j_cN C (c_X7_cell X.1 hl qs 60 tS p1 (by decide)) k_X7_cell gX6_sign_X7_cell_n23 nw_X6_23 wd_X6_sign_ini_X7 wd_X6_sign_sta_X7_cell (As := [.ref qs, .int p1]) (rest := []) (st' := [.int (f_X7_cell 60 tS p1)]) (ws' := [(h6, .inr (6, [.ref qs, .int tL])), (qs, .inl (gI X.1, 60, .inl tS))]) rfl rfl dX6_sign_13 [1] [0] [0, 1] rfl rfl rfl rfl rfl rfl ?_
    refine j_goto C (tgt := 20) dX6_sign_16 (by decide) ?_
    subst hf
    exact j_iret C hQ rfl dX6_sign_20 (Nat.zero_le _) (Nat.zero_le _) ⟨rfl, rfl⟩
theorem c_X6_sign (G : CG) (hl : (gL G).stackTraces = false) (h6 : Nat) (qs : Nat) (tL : Int32) (tS : (Nat → Int32)) (p1 : Int32) : Ct G yX6_sign wsX6_sign rm_X6_sign [.ref h6, .int p1] [(h6, .inr (6, [.ref qs, .int tL])), (qs, .inl (gI G, 60, .inl tS))] (fin1 (some (.int (f_X6_sign p1 tL tS))) [(h6, .inr (6, [.ref qs, .int tL])), (qs, .inl (gI G, 60, .inl tS))]) 0 0 := b_X6_sign G hl h6 qs tL tS p1 _ rfl

theorem lk_X6_attach_9 : Cond.fieldLink RX6 9 (TX6 0).1 (TX6 0).2.1 (TX6 0).2.2.1 ∈ wsX6_attach := by decide +kernel
theorem in_X6_attach_6 : ∀ w ∈ wsX60, w ∈ wsX6_attach := by decide +kernel
theorem lk_X6_attach_15 : Cond.fieldLink RX6 15 (TX6 1).1 (TX6 1).2.1 (TX6 1).2.2.1 ∈ wsX6_attach := by decide +kernel
theorem wd_X6_attach_ini_X7 : Cond.initialized RX7 ∈ wsX6_attach := by decide +kernel
theorem wd_X6_attach_sta_X7_setCell : Cond.static yX7_setCell ∈ wsX6_attach := by decide +kernel
def f_X6_attach (p1 : Int32) (tL : Int32) (tS : (Nat → Int32)) : Int32 × (Nat → Int32) :=
  ((tL + 1), (f_X7_setCell 60 tS tL p1))
abbrev rm_X6_attach : Room := { frames := 2, cells := 0, slots := 0, locals := 38 }
theorem k_X6_attach : Cf yX6_attach wsX6_attach rm_X6_attach cX6_attach 2 none 1 := ⟨⟨_, rfl⟩, by decide +kernel, by decide +kernel, by decide +kernel⟩
set_option maxRecDepth 100000 in
set_option maxHeartbeats 4000000 in
theorem b_X6_attach (G : CG) (hl : (gL G).stackTraces = false) (h6 : Nat) (qs : Nat) (tL : Int32) (tS : (Nat → Int32)) (p1 : Int32) (y : Int32 × (Nat → Int32)) (hf : f_X6_attach p1 tL tS = y) : Ct G yX6_attach wsX6_attach rm_X6_attach [.ref h6, .int p1] [(h6, .inr (6, [.ref qs, .int tL])), (qs, .inl (gI G, 60, .inl tS))] (fin1 none [(h6, .inr (6, [.ref qs, .int y.1])), (qs, .inl (gI G, 60, .inl y.2))]) 0 0 := by
  refine Ct.of (cc := cX6_attach) (N := 2) (ret := none) RX6 (by decide) rfl rfl hl (Nat.le_of_ble_eq_true rfl) (lv := [(0, .ref h6), (1, .int p1)]) rfl (fun X hXG C hex hnm hQ => ?_)
  subst hXG
  unfold f_X6_attach at hf
  refine j_aload_n C dX6_attach_0 rfl 0 rfl ?_
  refine j_get6 C 0 rfl 0 (by decide) in_X6_attach_6 lk_X6_attach_9 rfl dX6_attach_1 ?_
  refine j_aload_n C dX6_attach_4 rfl 0 rfl ?_
  refine j_get6 C 0 rfl 1 (by decide) in_X6_attach_6 lk_X6_attach_15 rfl dX6_attach_5 ?_
  refine j_iload_n C dX6_attach_8 rfl 1 rfl ?_
  refine j_cN C (c_X7_setCell X.1 hl qs 60 tS tL p1 (by decide)) k_X7_setCell gX6_attach_X7_setCell_n19 nw_X6_19 wd_X6_attach_ini_X7 wd_X6_attach_sta_X7_setCell (As := [.ref qs, .int tL, .int p1]) (rest := []) (st' := []) (ws' := [(h6, .inr (6, [.ref qs, .int tL])), (qs, .inl (gI X.1, 60, .inl (f_X7_setCell 60 tS tL p1)))]) rfl rfl dX6_attach_9 [1] [0] [0, 1] rfl rfl rfl rfl rfl rfl ?_
  refine j_aload_n C dX6_attach_12 rfl 0 rfl ?_
  refine j_dup C dX6_attach_13 rfl ?_
  refine j_get6 C 0 rfl 1 (by decide) in_X6_attach_6 lk_X6_attach_15 rfl dX6_attach_14 ?_
  refine j_iconst C (v := 1) dX6_attach_17 (by decide) ?_
  refine j_iadd C dX6_attach_18 ?_
  refine j_put6 (ty := .int) (ws' := [(h6, .inr (6, [.ref qs, .int (tL + 1)])), (qs, .inl (gI X.1, 60, .inl (f_X7_setCell 60 tS tL p1)))]) C 0 rfl 1 (by decide) in_X6_attach_6 lk_X6_attach_15 rfl (by decide +kernel) rfl rfl (Nat.le_of_ble_eq_true rfl) rfl dX6_attach_19 ?_
  subst hf
  exact j_vret C hQ rfl dX6_attach_22 (Nat.zero_le _) (Nat.zero_le _) ⟨rfl, rfl⟩
theorem c_X6_attach (G : CG) (hl : (gL G).stackTraces = false) (h6 : Nat) (qs : Nat) (tL : Int32) (tS : (Nat → Int32)) (p1 : Int32) : Ct G yX6_attach wsX6_attach rm_X6_attach [.ref h6, .int p1] [(h6, .inr (6, [.ref qs, .int tL])), (qs, .inl (gI G, 60, .inl tS))] (fin1 none [(h6, .inr (6, [.ref qs, .int (f_X6_attach p1 tL tS).1])), (qs, .inl (gI G, 60, .inl (f_X6_attach p1 tL tS).2))]) 0 0 := b_X6_attach G hl h6 qs tL tS p1 _ rfl

theorem lk_X6_findError_15 : Cond.fieldLink RX6 15 (TX6 1).1 (TX6 1).2.1 (TX6 1).2.2.1 ∈ wsX6_findError := by decide +kernel
theorem in_X6_findError_6 : ∀ w ∈ wsX60, w ∈ wsX6_findError := by decide +kernel
def f_X6_findError_L4 (tL : Int32) (tS : (Nat → Int32)) (x4_1 : Int32) (x4_2 : Int32) : Option ((Int32 × Int32) ⊕ (Int32)) :=
  if tL ≤ x4_2 then some (.inr (tL)) else if (f_X6_next x4_1 (f_X6_sign x4_2 tL tS)) = 9 then some (.inr (x4_2)) else some (.inl ((f_X6_next x4_1 (f_X6_sign x4_2 tL tS)), (x4_2 + 1)))
def f_X6_findError (tL : Int32) (tS : (Nat → Int32)) : Option (Int32) :=
  dz_it (fun s : Int32 × Int32 => f_X6_findError_L4 tL tS s.1 s.2) (0, 0)
abbrev rm_X6_findError : Room := { frames := 3, cells := 0, slots := 0, locals := 58 }
theorem k_X6_findError : Cf yX6_findError wsX6_findError rm_X6_findError cX6_findError 3 (some .int) 0 := ⟨⟨_, rfl⟩, by decide +kernel, by decide +kernel, by decide +kernel⟩
set_option maxRecDepth 100000 in
set_option maxHeartbeats 4000000 in
theorem b_X6_findError (G : CG) (hl : (gL G).stackTraces = false) (h6 : Nat) (qs : Nat) (tL : Int32) (tS : (Nat → Int32)) (y : Int32) (hf : f_X6_findError tL tS = some y) : Ct G yX6_findError wsX6_findError rm_X6_findError [.ref h6] [(h6, .inr (6, [.ref qs, .int tL])), (qs, .inl (gI G, 60, .inl tS))] (fin1 (some (.int y)) [(h6, .inr (6, [.ref qs, .int tL])), (qs, .inl (gI G, 60, .inl tS))]) 0 0 := by
  refine Ct.of (cc := cX6_findError) (N := 3) (ret := (some .int)) RX6 (by decide) rfl rfl hl (Nat.le_of_ble_eq_true rfl) (lv := [(0, .ref h6)]) rfl (fun X hXG C hex hnm hQ => ?_)
  subst hXG
  unfold f_X6_findError at hf
  refine j_iconst C (v := 0) dX6_findError_0 (by decide) ?_
  refine j_istore_n (lv' := [(1, .int 0), (0, .ref h6)]) C dX6_findError_1 rfl (by decide) rfl ?_
  refine j_iconst C (v := 0) dX6_findError_2 (by decide) ?_
  refine j_istore_n (lv' := [(2, .int 0), (1, .int 0), (0, .ref h6)]) C dX6_findError_3 rfl (by decide) rfl ?_
  have kk4 : ∀ (n : Nat) (x4_1 : Int32) (x4_2 : Int32), dz_iter n (fun s : Int32 × Int32 => f_X6_findError_L4 tL tS s.1 s.2) (x4_1, x4_2) = some y → Jt X [(h6, .inr (6, [.ref qs, .int tL])), (qs, .inl (gI X.1, 60, .inl tS))] 0 0 4 [(0, .ref h6), (1, .int x4_1), (2, .int x4_2)] [] := by
    intro n
    induction n with
    | zero => intro x4_1 x4_2 hit; exact absurd hit (by simp [dz_iter])
    | succ n ih4 =>
      intro x4_1 x4_2 hit
      obtain ⟨y4, hf, hg4⟩ := dz_iter_succ hit
      replace hf : f_X6_findError_L4 tL tS x4_1 x4_2 = some y4 := hf
      unfold f_X6_findError_L4 at hf
      refine j_iload_n C dX6_findError_4 rfl 2 rfl ?_
      refine j_aload_n C dX6_findError_5 rfl 0 rfl ?_
      refine j_get6 C 0 rfl 1 (by decide) in_X6_findError_6 lk_X6_findError_15 rfl dX6_findError_6 ?_
      refine j_icmp_ge C (tgt := 36) dX6_findError_9 (by decide) (fun e9 => ?_) (fun e9 => ?_)
      · have hf := (if_pos e9).symm.trans hf
        refine j_aload_n C dX6_findError_36 rfl 0 rfl ?_
        refine j_get6 C 0 rfl 1 (by decide) in_X6_findError_6 lk_X6_findError_15 rfl dX6_findError_37 ?_
        obtain rfl := Option.some.inj hf
        obtain rfl := dz_go_inr hg4
        exact j_iret C hQ rfl dX6_findError_40 (Nat.zero_le _) (Nat.zero_le _) ⟨rfl, rfl⟩
      · have hf := (if_neg e9).symm.trans hf
        refine j_iload_n C dX6_findError_12 rfl 1 rfl ?_
        refine j_aload_n C dX6_findError_13 rfl 0 rfl ?_
        refine j_iload_n C dX6_findError_14 rfl 2 rfl ?_
        refine j_cV C (c_X6_sign X.1 hl h6 qs tL tS x4_2) k_X6_sign gX6_findError_X6_sign rfl (ci := 6) (q0 := 0) rfl rfl (As := [.int x4_2]) (rest := [.int x4_1]) (st' := [.int (f_X6_sign x4_2 tL tS), .int x4_1]) (ws' := [(h6, .inr (6, [.ref qs, .int tL])), (qs, .inl (gI X.1, 60, .inl tS))]) rfl rfl dX6_findError_15 [0, 1] [] [0, 1] rfl rfl rfl rfl rfl rfl ?_
        refine j_cS C (c_X6_next X.1 hl x4_1 (f_X6_sign x4_2 tL tS)) k_X6_next gX6_findError_X6_next (As := [.int x4_1, .int (f_X6_sign x4_2 tL tS)]) (rest := []) (st' := [.int (f_X6_next x4_1 (f_X6_sign x4_2 tL tS))]) (ws' := [(h6, .inr (6, [.ref qs, .int tL])), (qs, .inl (gI X.1, 60, .inl tS))]) rfl rfl dX6_findError_18 [] [0, 1] [0, 1] rfl rfl rfl rfl rfl rfl ?_
        refine j_istore_n (lv' := [(1, .int (f_X6_next x4_1 (f_X6_sign x4_2 tL tS))), (0, .ref h6), (2, .int x4_2)]) C dX6_findError_21 rfl (by decide) rfl ?_
        refine j_iload_n C dX6_findError_22 rfl 0 rfl ?_
        refine j_bipush C (v := 9) dX6_findError_23 (by decide) ?_
        refine j_icmp_ne C (tgt := 30) dX6_findError_25 (by decide) (fun e25 => ?_) (fun e25 => ?_)
        · have hf := (if_neg e25).symm.trans hf
          refine j_iinc (v := (x4_2 + 1)) (lv' := [(2, .int (x4_2 + 1)), (1, .int (f_X6_next x4_1 (f_X6_sign x4_2 tL tS))), (0, .ref h6)]) C dX6_findError_30 2 rfl (by first | rfl | decide) (by decide) rfl ?_
          refine j_goto C (tgt := 4) dX6_findError_33 (by decide) ?_
          obtain rfl := Option.some.inj hf
          have hf := dz_go_inl hg4
          refine j_loc [2, 1, 0] rfl ?_
          exact ih4 (f_X6_next x4_1 (f_X6_sign x4_2 tL tS)) (x4_2 + 1) hf
        · have hf := (if_pos e25).symm.trans hf
          refine j_iload_n C dX6_findError_28 rfl 2 rfl ?_
          obtain rfl := Option.some.inj hf
          obtain rfl := dz_go_inr hg4
          exact j_iret C hQ rfl dX6_findError_29 (Nat.zero_le _) (Nat.zero_le _) ⟨rfl, rfl⟩
  refine j_loc [2, 1, 0] rfl ?_
  exact kk4 _ 0 0 hf

theorem lk_X6_tellsPoints_15 : Cond.fieldLink RX6 15 (TX6 1).1 (TX6 1).2.1 (TX6 1).2.2.1 ∈ wsX6_tellsPoints := by decide +kernel
theorem in_X6_tellsPoints_6 : ∀ w ∈ wsX60, w ∈ wsX6_tellsPoints := by decide +kernel
def f_X6_tellsPoints_J46 : Option ((Int32 × Int32) ⊕ (Int32)) :=
  some (.inr (1))
def f_X6_tellsPoints_L4 (tL : Int32) (tS : (Nat → Int32)) (x4_1 : Int32) (x4_2 : Int32) : Option ((Int32 × Int32) ⊕ (Int32)) :=
  if tL ≤ x4_2 then if x4_1 = 6 then f_X6_tellsPoints_J46 else if x4_1 = 7 then f_X6_tellsPoints_J46 else if x4_1 = 8 then f_X6_tellsPoints_J46 else some (.inr (0)) else some (.inl ((f_X6_next x4_1 (f_X6_sign x4_2 tL tS)), (x4_2 + 1)))
def f_X6_tellsPoints (tL : Int32) (tS : (Nat → Int32)) : Option (Int32) :=
  dz_it (fun s : Int32 × Int32 => f_X6_tellsPoints_L4 tL tS s.1 s.2) (0, 0)
abbrev rm_X6_tellsPoints : Room := { frames := 3, cells := 0, slots := 0, locals := 58 }
theorem k_X6_tellsPoints : Cf yX6_tellsPoints wsX6_tellsPoints rm_X6_tellsPoints cX6_tellsPoints 3 (some .boolean) 0 := ⟨⟨_, rfl⟩, by decide +kernel, by decide +kernel, by decide +kernel⟩
set_option maxRecDepth 100000 in
set_option maxHeartbeats 4000000 in
theorem b_X6_tellsPoints (G : CG) (hl : (gL G).stackTraces = false) (h6 : Nat) (qs : Nat) (tL : Int32) (tS : (Nat → Int32)) (y : Int32) (hf : f_X6_tellsPoints tL tS = some y) : Ct G yX6_tellsPoints wsX6_tellsPoints rm_X6_tellsPoints [.ref h6] [(h6, .inr (6, [.ref qs, .int tL])), (qs, .inl (gI G, 60, .inl tS))] (fin1 (some (.int y)) [(h6, .inr (6, [.ref qs, .int tL])), (qs, .inl (gI G, 60, .inl tS))]) 0 0 := by
  refine Ct.of (cc := cX6_tellsPoints) (N := 3) (ret := (some .boolean)) RX6 (by decide) rfl rfl hl (Nat.le_of_ble_eq_true rfl) (lv := [(0, .ref h6)]) rfl (fun X hXG C hex hnm hQ => ?_)
  subst hXG
  unfold f_X6_tellsPoints at hf
  refine j_iconst C (v := 0) dX6_tellsPoints_0 (by decide) ?_
  refine j_istore_n (lv' := [(1, .int 0), (0, .ref h6)]) C dX6_tellsPoints_1 rfl (by decide) rfl ?_
  refine j_iconst C (v := 0) dX6_tellsPoints_2 (by decide) ?_
  refine j_istore_n (lv' := [(2, .int 0), (1, .int 0), (0, .ref h6)]) C dX6_tellsPoints_3 rfl (by decide) rfl ?_
  have kk4 : ∀ (n : Nat) (x4_1 : Int32) (x4_2 : Int32), dz_iter n (fun s : Int32 × Int32 => f_X6_tellsPoints_L4 tL tS s.1 s.2) (x4_1, x4_2) = some y → Jt X [(h6, .inr (6, [.ref qs, .int tL])), (qs, .inl (gI X.1, 60, .inl tS))] 0 0 4 [(0, .ref h6), (1, .int x4_1), (2, .int x4_2)] [] := by
    intro n
    induction n with
    | zero => intro x4_1 x4_2 hit; exact absurd hit (by simp [dz_iter])
    | succ n ih4 =>
      intro x4_1 x4_2 hit
      obtain ⟨y4, hf, hg4⟩ := dz_iter_succ hit
      replace hf : f_X6_tellsPoints_L4 tL tS x4_1 x4_2 = some y4 := hf
      unfold f_X6_tellsPoints_L4 at hf
      refine j_iload_n C dX6_tellsPoints_4 rfl 2 rfl ?_
      refine j_aload_n C dX6_tellsPoints_5 rfl 0 rfl ?_
      refine j_get6 C 0 rfl 1 (by decide) in_X6_tellsPoints_6 lk_X6_tellsPoints_15 rfl dX6_tellsPoints_6 ?_
      refine j_icmp_ge C (tgt := 28) dX6_tellsPoints_9 (by decide) (fun e9 => ?_) (fun e9 => ?_)
      · have hf := (if_pos e9).symm.trans hf
        refine j_iload_n C dX6_tellsPoints_28 rfl 1 rfl ?_
        refine j_bipush C (v := 6) dX6_tellsPoints_29 (by decide) ?_
        have k46 : f_X6_tellsPoints_J46 = some y4 → Jt X [(h6, .inr (6, [.ref qs, .int tL])), (qs, .inl (gI X.1, 60, .inl tS))] 0 0 46 [(0, .ref h6), (1, .int x4_1), (2, .int x4_2)] [] := by
          intro  hf
          unfold f_X6_tellsPoints_J46 at hf
          refine j_iconst C (v := 1) dX6_tellsPoints_46 (by decide) ?_
          refine j_goto C (tgt := 51) dX6_tellsPoints_47 (by decide) ?_
          obtain rfl := Option.some.inj hf
          obtain rfl := dz_go_inr hg4
          exact j_zret C hQ rfl rfl dX6_tellsPoints_51 (Nat.zero_le _) (Nat.zero_le _) ⟨rfl, rfl⟩
        refine j_icmp_eq C (tgt := 46) dX6_tellsPoints_31 (by decide) (fun e31 => ?_) (fun e31 => ?_)
        · have hf := (if_pos e31).symm.trans hf
          refine j_loc [0, 1, 2] rfl ?_
          exact k46  hf
        · have hf := (if_neg e31).symm.trans hf
          refine j_iload_n C dX6_tellsPoints_34 rfl 1 rfl ?_
          refine j_bipush C (v := 7) dX6_tellsPoints_35 (by decide) ?_
          refine j_icmp_eq C (tgt := 46) dX6_tellsPoints_37 (by decide) (fun e37 => ?_) (fun e37 => ?_)
          · have hf := (if_pos e37).symm.trans hf
            refine j_loc [0, 1, 2] rfl ?_
            exact k46  hf
          · have hf := (if_neg e37).symm.trans hf
            refine j_iload_n C dX6_tellsPoints_40 rfl 1 rfl ?_
            refine j_bipush C (v := 8) dX6_tellsPoints_41 (by decide) ?_
            refine j_icmp_ne C (tgt := 50) dX6_tellsPoints_43 (by decide) (fun e43 => ?_) (fun e43 => ?_)
            · have hf := (if_neg e43).symm.trans hf
              refine j_iconst C (v := 0) dX6_tellsPoints_50 (by decide) ?_
              obtain rfl := Option.some.inj hf
              obtain rfl := dz_go_inr hg4
              exact j_zret C hQ rfl rfl dX6_tellsPoints_51 (Nat.zero_le _) (Nat.zero_le _) ⟨rfl, rfl⟩
            · have hf := (if_pos e43).symm.trans hf
              refine j_loc [0, 1, 2] rfl ?_
              exact k46  hf
      · have hf := (if_neg e9).symm.trans hf
        refine j_iload_n C dX6_tellsPoints_12 rfl 1 rfl ?_
        refine j_aload_n C dX6_tellsPoints_13 rfl 0 rfl ?_
        refine j_iload_n C dX6_tellsPoints_14 rfl 2 rfl ?_
        refine j_cV C (c_X6_sign X.1 hl h6 qs tL tS x4_2) k_X6_sign gX6_tellsPoints_X6_sign rfl (ci := 6) (q0 := 0) rfl rfl (As := [.int x4_2]) (rest := [.int x4_1]) (st' := [.int (f_X6_sign x4_2 tL tS), .int x4_1]) (ws' := [(h6, .inr (6, [.ref qs, .int tL])), (qs, .inl (gI X.1, 60, .inl tS))]) rfl rfl dX6_tellsPoints_15 [0, 1] [] [0, 1] rfl rfl rfl rfl rfl rfl ?_
        refine j_cS C (c_X6_next X.1 hl x4_1 (f_X6_sign x4_2 tL tS)) k_X6_next gX6_tellsPoints_X6_next (As := [.int x4_1, .int (f_X6_sign x4_2 tL tS)]) (rest := []) (st' := [.int (f_X6_next x4_1 (f_X6_sign x4_2 tL tS))]) (ws' := [(h6, .inr (6, [.ref qs, .int tL])), (qs, .inl (gI X.1, 60, .inl tS))]) rfl rfl dX6_tellsPoints_18 [] [0, 1] [0, 1] rfl rfl rfl rfl rfl rfl ?_
        refine j_istore_n (lv' := [(1, .int (f_X6_next x4_1 (f_X6_sign x4_2 tL tS))), (0, .ref h6), (2, .int x4_2)]) C dX6_tellsPoints_21 rfl (by decide) rfl ?_
        refine j_iinc (v := (x4_2 + 1)) (lv' := [(2, .int (x4_2 + 1)), (1, .int (f_X6_next x4_1 (f_X6_sign x4_2 tL tS))), (0, .ref h6)]) C dX6_tellsPoints_22 2 rfl (by first | rfl | decide) (by decide) rfl ?_
        refine j_goto C (tgt := 4) dX6_tellsPoints_25 (by decide) ?_
        obtain rfl := Option.some.inj hf
        have hf := dz_go_inl hg4
        refine j_loc [2, 1, 0] rfl ?_
        exact ih4 (f_X6_next x4_1 (f_X6_sign x4_2 tL tS)) (x4_2 + 1) hf
  refine j_loc [2, 1, 0] rfl ?_
  exact kk4 _ 0 0 hf

def f_X6_numberIn_L32 (p2 : Int32) (tL : Int32) (tS : (Nat → Int32)) (s15_0 : Int32) (x32_4 : Int32) (x32_5 : Int32) : Option ((Int32 × Int32) ⊕ (Int32)) :=
  if p2 ≤ x32_5 then if s15_0 = 0 then some (.inr (x32_4)) else some (.inr ((-x32_4))) else some (.inl ((((10 * x32_4) + (f_X6_sign x32_5 tL tS)) - 48), (x32_5 + 1)))
def f_X6_numberIn_J30 (p2 : Int32) (tL : Int32) (tS : (Nat → Int32)) (s15_0 : Int32) (s30_0 : Int32) : Option (Int32) :=
  dz_it (fun s : Int32 × Int32 => f_X6_numberIn_L32 p2 tL tS s15_0 s.1 s.2) (0, s30_0)
def f_X6_numberIn_J15 (p1 : Int32) (p2 : Int32) (tL : Int32) (tS : (Nat → Int32)) (s15_0 : Int32) : Option (Int32) :=
  if s15_0 = 0 then (f_X6_numberIn_J30 p2 tL tS s15_0 p1) else (f_X6_numberIn_J30 p2 tL tS s15_0 (p1 + 1))
def f_X6_numberIn (p1 : Int32) (p2 : Int32) (tL : Int32) (tS : (Nat → Int32)) : Option (Int32) :=
  if (f_X6_sign p1 tL tS) = 45 then (f_X6_numberIn_J15 p1 p2 tL tS 1) else (f_X6_numberIn_J15 p1 p2 tL tS 0)
abbrev rm_X6_numberIn : Room := { frames := 3, cells := 0, slots := 0, locals := 58 }
theorem k_X6_numberIn : Cf yX6_numberIn wsX6_numberIn rm_X6_numberIn cX6_numberIn 6 (some .int) 2 := ⟨⟨_, rfl⟩, by decide +kernel, by decide +kernel, by decide +kernel⟩
set_option maxRecDepth 100000 in
set_option maxHeartbeats 4000000 in
theorem b_X6_numberIn (G : CG) (hl : (gL G).stackTraces = false) (h6 : Nat) (qs : Nat) (tL : Int32) (tS : (Nat → Int32)) (p1 : Int32) (p2 : Int32) (y : Int32) (hf : f_X6_numberIn p1 p2 tL tS = some y) : Ct G yX6_numberIn wsX6_numberIn rm_X6_numberIn [.ref h6, .int p1, .int p2] [(h6, .inr (6, [.ref qs, .int tL])), (qs, .inl (gI G, 60, .inl tS))] (fin1 (some (.int y)) [(h6, .inr (6, [.ref qs, .int tL])), (qs, .inl (gI G, 60, .inl tS))]) 0 0 := by
  refine Ct.of (cc := cX6_numberIn) (N := 6) (ret := (some .int)) RX6 (by decide) rfl rfl hl (Nat.le_of_ble_eq_true rfl) (lv := [(0, .ref h6), (1, .int p1), (2, .int p2)]) rfl (fun X hXG C hex hnm hQ => ?_)
  subst hXG
  unfold f_X6_numberIn at hf
  refine j_aload_n C dX6_numberIn_0 rfl 0 rfl ?_
  refine j_iload_n C dX6_numberIn_1 rfl 1 rfl ?_
  refine j_cV C (c_X6_sign X.1 hl h6 qs tL tS p1) k_X6_sign gX6_numberIn_X6_sign rfl (ci := 6) (q0 := 0) rfl rfl (As := [.int p1]) (rest := []) (st' := [.int (f_X6_sign p1 tL tS)]) (ws' := [(h6, .inr (6, [.ref qs, .int tL])), (qs, .inl (gI X.1, 60, .inl tS))]) rfl rfl dX6_numberIn_2 [0, 1] [] [0, 1] rfl rfl rfl rfl rfl rfl ?_
  refine j_bipush C (v := 45) dX6_numberIn_5 (by decide) ?_
  have k15 : ∀ (s15_0 : Int32), f_X6_numberIn_J15 p1 p2 tL tS s15_0 = some y → Jt X [(h6, .inr (6, [.ref qs, .int tL])), (qs, .inl (gI X.1, 60, .inl tS))] 0 0 15 [(0, .ref h6), (1, .int p1), (2, .int p2)] [.int s15_0] := by
    intro s15_0 hf
    unfold f_X6_numberIn_J15 at hf
    refine j_istore_n (lv' := [(3, .int s15_0), (0, .ref h6), (1, .int p1), (2, .int p2)]) C dX6_numberIn_15 rfl (by decide) rfl ?_
    refine j_iconst C (v := 0) dX6_numberIn_16 (by decide) ?_
    refine j_istore (lv' := [(4, .int 0), (3, .int s15_0), (0, .ref h6), (1, .int p1), (2, .int p2)]) C dX6_numberIn_17 (by decide) rfl ?_
    refine j_iload_n C dX6_numberIn_19 rfl 1 rfl ?_
    have k30 : ∀ (s30_0 : Int32), f_X6_numberIn_J30 p2 tL tS s15_0 s30_0 = some y → Jt X [(h6, .inr (6, [.ref qs, .int tL])), (qs, .inl (gI X.1, 60, .inl tS))] 0 0 30 [(0, .ref h6), (1, .int p1), (2, .int p2), (3, .int s15_0), (4, .int 0)] [.int s30_0] := by
      intro s30_0 hf
      unfold f_X6_numberIn_J30 at hf
      refine j_istore (lv' := [(5, .int s30_0), (0, .ref h6), (1, .int p1), (2, .int p2), (3, .int s15_0), (4, .int 0)]) C dX6_numberIn_30 (by decide) rfl ?_
      have kk32 : ∀ (n : Nat) (x32_4 : Int32) (x32_5 : Int32), dz_iter n (fun s : Int32 × Int32 => f_X6_numberIn_L32 p2 tL tS s15_0 s.1 s.2) (x32_4, x32_5) = some y → Jt X [(h6, .inr (6, [.ref qs, .int tL])), (qs, .inl (gI X.1, 60, .inl tS))] 0 0 32 [(0, .ref h6), (1, .int p1), (2, .int p2), (3, .int s15_0), (4, .int x32_4), (5, .int x32_5)] [] := by
        intro n
        induction n with
        | zero => intro x32_4 x32_5 hit; exact absurd hit (by simp [dz_iter])
        | succ n ih32 =>
          intro x32_4 x32_5 hit
          obtain ⟨y32, hf, hg32⟩ := dz_iter_succ hit
          replace hf : f_X6_numberIn_L32 p2 tL tS s15_0 x32_4 x32_5 = some y32 := hf
          unfold f_X6_numberIn_L32 at hf
          refine j_iload C dX6_numberIn_32 5 rfl ?_
          refine j_iload_n C dX6_numberIn_34 rfl 2 rfl ?_
          refine j_icmp_ge C (tgt := 61) dX6_numberIn_35 (by decide) (fun e35 => ?_) (fun e35 => ?_)
          · have hf := (if_pos e35).symm.trans hf
            refine j_iload_n C dX6_numberIn_61 rfl 3 rfl ?_
            refine j_if_eq C (tgt := 71) dX6_numberIn_62 (by decide) (fun e62 => ?_) (fun e62 => ?_)
            · have hf := (if_pos e62).symm.trans hf
              refine j_iload C dX6_numberIn_71 4 rfl ?_
              obtain rfl := Option.some.inj hf
              obtain rfl := dz_go_inr hg32
              exact j_iret C hQ rfl dX6_numberIn_73 (Nat.zero_le _) (Nat.zero_le _) ⟨rfl, rfl⟩
            · have hf := (if_neg e62).symm.trans hf
              refine j_iload C dX6_numberIn_65 4 rfl ?_
              refine j_ineg C dX6_numberIn_67 ?_
              refine j_goto C (tgt := 73) dX6_numberIn_68 (by decide) ?_
              obtain rfl := Option.some.inj hf
              obtain rfl := dz_go_inr hg32
              exact j_iret C hQ rfl dX6_numberIn_73 (Nat.zero_le _) (Nat.zero_le _) ⟨rfl, rfl⟩
          · have hf := (if_neg e35).symm.trans hf
            refine j_bipush C (v := 10) dX6_numberIn_38 (by decide) ?_
            refine j_iload C dX6_numberIn_40 4 rfl ?_
            refine j_imul C dX6_numberIn_42 ?_
            refine j_aload_n C dX6_numberIn_43 rfl 0 rfl ?_
            refine j_iload C dX6_numberIn_44 5 rfl ?_
            refine j_cV C (c_X6_sign X.1 hl h6 qs tL tS x32_5) k_X6_sign gX6_numberIn_X6_sign rfl (ci := 6) (q0 := 0) rfl rfl (As := [.int x32_5]) (rest := [.int (10 * x32_4)]) (st' := [.int (f_X6_sign x32_5 tL tS), .int (10 * x32_4)]) (ws' := [(h6, .inr (6, [.ref qs, .int tL])), (qs, .inl (gI X.1, 60, .inl tS))]) rfl rfl dX6_numberIn_46 [0, 1] [] [0, 1] rfl rfl rfl rfl rfl rfl ?_
            refine j_iadd C dX6_numberIn_49 ?_
            refine j_bipush C (v := 48) dX6_numberIn_50 (by decide) ?_
            refine j_isub C dX6_numberIn_52 ?_
            refine j_istore (lv' := [(4, .int (((10 * x32_4) + (f_X6_sign x32_5 tL tS)) - 48)), (0, .ref h6), (1, .int p1), (2, .int p2), (3, .int s15_0), (5, .int x32_5)]) C dX6_numberIn_53 (by decide) rfl ?_
            refine j_iinc (v := (x32_5 + 1)) (lv' := [(5, .int (x32_5 + 1)), (4, .int (((10 * x32_4) + (f_X6_sign x32_5 tL tS)) - 48)), (0, .ref h6), (1, .int p1), (2, .int p2), (3, .int s15_0)]) C dX6_numberIn_55 5 rfl (by first | rfl | decide) (by decide) rfl ?_
            refine j_goto C (tgt := 32) dX6_numberIn_58 (by decide) ?_
            obtain rfl := Option.some.inj hf
            have hf := dz_go_inl hg32
            refine j_loc [2, 3, 4, 5, 1, 0] rfl ?_
            exact ih32 (((10 * x32_4) + (f_X6_sign x32_5 tL tS)) - 48) (x32_5 + 1) hf
      refine j_loc [1, 2, 3, 4, 5, 0] rfl ?_
      exact kk32 _ 0 s30_0 hf
    refine j_if_eq C (tgt := 29) dX6_numberIn_20 (by decide) (fun e20 => ?_) (fun e20 => ?_)
    · have hf := (if_pos e20).symm.trans hf
      refine j_iload_n C dX6_numberIn_29 rfl 3 rfl ?_
      refine j_loc [2, 3, 4, 1, 0] rfl ?_
      exact k30 p1 hf
    · have hf := (if_neg e20).symm.trans hf
      refine j_iload_n C dX6_numberIn_23 rfl 3 rfl ?_
      refine j_iconst C (v := 1) dX6_numberIn_24 (by decide) ?_
      refine j_iadd C dX6_numberIn_25 ?_
      refine j_goto C (tgt := 30) dX6_numberIn_26 (by decide) ?_
      refine j_loc [2, 3, 4, 1, 0] rfl ?_
      exact k30 (p1 + 1) hf
  refine j_icmp_ne C (tgt := 14) dX6_numberIn_7 (by decide) (fun e7 => ?_) (fun e7 => ?_)
  · have hf := (if_neg e7).symm.trans hf
    refine j_iconst C (v := 0) dX6_numberIn_14 (by decide) ?_
    refine j_loc [0, 1, 2] rfl ?_
    exact k15 0 hf
  · have hf := (if_pos e7).symm.trans hf
    refine j_iconst C (v := 1) dX6_numberIn_10 (by decide) ?_
    refine j_goto C (tgt := 15) dX6_numberIn_11 (by decide) ?_
    refine j_loc [0, 1, 2] rfl ?_
    exact k15 1 hf

end
