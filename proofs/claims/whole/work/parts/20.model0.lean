noncomputable section
theorem lk_X8_thrown_25 : Cond.fieldLink RX8 25 (TX8 0).1 (TX8 0).2.1 (TX8 0).2.2.1 ∈ wsX8_thrown := by decide +kernel
theorem in_X8_thrown_8 : ∀ w ∈ wsX80, w ∈ wsX8_thrown := by decide +kernel
def f_X8_thrown (mT : Int32) : Int32 :=
  mT
abbrev rm_X8_thrown : Room := { frames := 1, cells := 0, slots := 0, locals := 16 }
theorem k_X8_thrown : Cf yX8_thrown wsX8_thrown rm_X8_thrown cX8_thrown 1 (some .int) 0 := ⟨⟨_, rfl⟩, by decide +kernel, by decide +kernel, by decide +kernel⟩
set_option maxRecDepth 100000 in
set_option maxHeartbeats 4000000 in
theorem b_X8_thrown (G : CG) (hl : (gL G).stackTraces = false) (h8 : Nat) (qz : Nat) (qv : Nat) (qp : Nat) (qf : Nat) (qo : Nat) (mT : Int32) (mZ : (Nat → Int32)) (mU : (Nat → Int32)) (mV : Int32) (mP : (Nat → Int32)) (mB : (Nat → Int32)) (mY : Int32) (mR : (Nat → Int32)) (mO : Int32) (mS : Int32) (mW : Int32) (mH : Int64) (y : Int32) (hf : f_X8_thrown mT = y) : Ct G yX8_thrown wsX8_thrown rm_X8_thrown [.ref h8] [(h8, .inr (8, [.int mT, .ref qz, .ref qv, .int mV, .ref qp, .ref qf, .int mY, .ref qo, .int mO, .int mS, .int mW, .long mH])), (qz, .inl (gI G, 1027, .inl mZ)), (qv, .inl (gI G, 6162, .inl mU)), (qp, .inl (gI G, 512, .inl mP)), (qf, .inl (gI G, 60, .inl mB)), (qo, .inl (gI G, 60, .inl mR))] (fin1 (some (.int y)) [(h8, .inr (8, [.int mT, .ref qz, .ref qv, .int mV, .ref qp, .ref qf, .int mY, .ref qo, .int mO, .int mS, .int mW, .long mH])), (qz, .inl (gI G, 1027, .inl mZ)), (qv, .inl (gI G, 6162, .inl mU)), (qp, .inl (gI G, 512, .inl mP)), (qf, .inl (gI G, 60, .inl mB)), (qo, .inl (gI G, 60, .inl mR))]) 0 0 := by
  refine Ct.of (cc := cX8_thrown) (N := 1) (ret := (some .int)) RX8 (by decide) rfl rfl hl (Nat.le_of_ble_eq_true rfl) (lv := [(0, .ref h8)]) rfl (fun X hXG C hex hnm hQ => ?_)
  subst hXG
  unfold f_X8_thrown at hf
  refine j_aload_n C dX8_thrown_0 rfl 0 rfl ?_
  refine j_get8 C 0 rfl 0 (by decide) in_X8_thrown_8 lk_X8_thrown_25 rfl dX8_thrown_1 ?_
  subst hf
  exact j_iret C hQ rfl dX8_thrown_4 (Nat.zero_le _) (Nat.zero_le _) ⟨rfl, rfl⟩
theorem c_X8_thrown (G : CG) (hl : (gL G).stackTraces = false) (h8 : Nat) (qz : Nat) (qv : Nat) (qp : Nat) (qf : Nat) (qo : Nat) (mT : Int32) (mZ : (Nat → Int32)) (mU : (Nat → Int32)) (mV : Int32) (mP : (Nat → Int32)) (mB : (Nat → Int32)) (mY : Int32) (mR : (Nat → Int32)) (mO : Int32) (mS : Int32) (mW : Int32) (mH : Int64) : Ct G yX8_thrown wsX8_thrown rm_X8_thrown [.ref h8] [(h8, .inr (8, [.int mT, .ref qz, .ref qv, .int mV, .ref qp, .ref qf, .int mY, .ref qo, .int mO, .int mS, .int mW, .long mH])), (qz, .inl (gI G, 1027, .inl mZ)), (qv, .inl (gI G, 6162, .inl mU)), (qp, .inl (gI G, 512, .inl mP)), (qf, .inl (gI G, 60, .inl mB)), (qo, .inl (gI G, 60, .inl mR))] (fin1 (some (.int (f_X8_thrown mT))) [(h8, .inr (8, [.int mT, .ref qz, .ref qv, .int mV, .ref qp, .ref qf, .int mY, .ref qo, .int mO, .int mS, .int mW, .long mH])), (qz, .inl (gI G, 1027, .inl mZ)), (qv, .inl (gI G, 6162, .inl mU)), (qp, .inl (gI G, 512, .inl mP)), (qf, .inl (gI G, 60, .inl mB)), (qo, .inl (gI G, 60, .inl mR))]) 0 0 := b_X8_thrown G hl h8 qz qv qp qf qo mT mZ mU mV mP mB mY mR mO mS mW mH _ rfl

def f_X8_in_J14 : Int32 :=
  0
def f_X8_in (p1 : Int32) (p2 : Int32) (p3 : Int32) : Int32 :=
  if p1 < p2 then f_X8_in_J14 else if p3 < p1 then f_X8_in_J14 else 1
abbrev rm_X8_in : Room := { frames := 1, cells := 0, slots := 0, locals := 16 }
theorem k_X8_in : Cf yX8_in wsX8_in rm_X8_in cX8_in 3 (some .boolean) 3 := ⟨⟨_, rfl⟩, by decide +kernel, by decide +kernel, by decide +kernel⟩
set_option maxRecDepth 100000 in
set_option maxHeartbeats 4000000 in
theorem b_X8_in (G : CG) (hl : (gL G).stackTraces = false) (p1 : Int32) (p2 : Int32) (p3 : Int32) (y : Int32) (hf : f_X8_in p1 p2 p3 = y) : Ct G yX8_in wsX8_in rm_X8_in [.int p1, .int p2, .int p3] [] (fin1 (some (.int y)) []) 0 0 := by
  refine Ct.of (cc := cX8_in) (N := 3) (ret := (some .boolean)) RX8 (by decide) rfl rfl hl (Nat.le_of_ble_eq_true rfl) (lv := [(0, .int p1), (1, .int p2), (2, .int p3)]) rfl (fun X hXG C hex hnm hQ => ?_)
  subst hXG
  unfold f_X8_in at hf
  refine j_iload_n C dX8_in_0 rfl 0 rfl ?_
  refine j_iload_n C dX8_in_1 rfl 1 rfl ?_
  have k14 : f_X8_in_J14 = y → Jt X [] 0 0 14 [(0, .int p1), (1, .int p2), (2, .int p3)] [] := by
    intro  hf
    unfold f_X8_in_J14 at hf
    refine j_iconst C (v := 0) dX8_in_14 (by decide) ?_
    subst hf
    exact j_zret C hQ rfl rfl dX8_in_15 (Nat.zero_le _) (Nat.zero_le _) ⟨rfl, rfl⟩
  refine j_icmp_lt C (tgt := 14) dX8_in_2 (by decide) (fun e2 => ?_) (fun e2 => ?_)
  · have hf := (if_pos e2).symm.trans hf
    refine j_loc [0, 1, 2] rfl ?_
    exact k14  hf
  · have hf := (if_neg e2).symm.trans hf
    refine j_iload_n C dX8_in_5 rfl 0 rfl ?_
    refine j_iload_n C dX8_in_6 rfl 2 rfl ?_
    refine j_icmp_gt C (tgt := 14) dX8_in_7 (by decide) (fun e7 => ?_) (fun e7 => ?_)
    · have hf := (if_pos e7).symm.trans hf
      refine j_loc [0, 1, 2] rfl ?_
      exact k14  hf
    · have hf := (if_neg e7).symm.trans hf
      refine j_iconst C (v := 1) dX8_in_10 (by decide) ?_
      refine j_goto C (tgt := 15) dX8_in_11 (by decide) ?_
      subst hf
      exact j_zret C hQ rfl rfl dX8_in_15 (Nat.zero_le _) (Nat.zero_le _) ⟨rfl, rfl⟩
theorem c_X8_in (G : CG) (hl : (gL G).stackTraces = false) (p1 : Int32) (p2 : Int32) (p3 : Int32) : Ct G yX8_in wsX8_in rm_X8_in [.int p1, .int p2, .int p3] [] (fin1 (some (.int (f_X8_in p1 p2 p3))) []) 0 0 := b_X8_in G hl p1 p2 p3 _ rfl
theorem z_X8_in (p1 : Int32) (p2 : Int32) (p3 : Int32) : narrow .boolean (.int (f_X8_in p1 p2 p3)) = .int (f_X8_in p1 p2 p3) := by
  unfold f_X8_in
  repeat' (first | split | rfl)

theorem lk_X8_isCoordinate_7 : Cond.fieldLink RX8 7 (TX8 1).1 (TX8 1).2.1 (TX8 1).2.2.1 ∈ wsX8_isCoordinate := by decide +kernel
theorem in_X8_isCoordinate_8 : ∀ w ∈ wsX80, w ∈ wsX8_isCoordinate := by decide +kernel
def f_X8_isCoordinate_J18 : Int32 :=
  0
def f_X8_isCoordinate (p1 : Int32) (mZ : (Nat → Int32)) : Int32 :=
  if p1 < 0 then f_X8_isCoordinate_J18 else if (mZ 0) ≤ p1 then f_X8_isCoordinate_J18 else 1
abbrev rm_X8_isCoordinate : Room := { frames := 1, cells := 0, slots := 0, locals := 16 }
theorem k_X8_isCoordinate : Cf yX8_isCoordinate wsX8_isCoordinate rm_X8_isCoordinate cX8_isCoordinate 2 (some .boolean) 1 := ⟨⟨_, rfl⟩, by decide +kernel, by decide +kernel, by decide +kernel⟩
set_option maxRecDepth 100000 in
set_option maxHeartbeats 4000000 in
theorem b_X8_isCoordinate (G : CG) (hl : (gL G).stackTraces = false) (h8 : Nat) (qz : Nat) (qv : Nat) (qp : Nat) (qf : Nat) (qo : Nat) (mT : Int32) (mZ : (Nat → Int32)) (mU : (Nat → Int32)) (mV : Int32) (mP : (Nat → Int32)) (mB : (Nat → Int32)) (mY : Int32) (mR : (Nat → Int32)) (mO : Int32) (mS : Int32) (mW : Int32) (mH : Int64) (p1 : Int32) (y : Int32) (hf : f_X8_isCoordinate p1 mZ = y) : Ct G yX8_isCoordinate wsX8_isCoordinate rm_X8_isCoordinate [.ref h8, .int p1] [(h8, .inr (8, [.int mT, .ref qz, .ref qv, .int mV, .ref qp, .ref qf, .int mY, .ref qo, .int mO, .int mS, .int mW, .long mH])), (qz, .inl (gI G, 1027, .inl mZ)), (qv, .inl (gI G, 6162, .inl mU)), (qp, .inl (gI G, 512, .inl mP)), (qf, .inl (gI G, 60, .inl mB)), (qo, .inl (gI G, 60, .inl mR))] (fin1 (some (.int y)) [(h8, .inr (8, [.int mT, .ref qz, .ref qv, .int mV, .ref qp, .ref qf, .int mY, .ref qo, .int mO, .int mS, .int mW, .long mH])), (qz, .inl (gI G, 1027, .inl mZ)), (qv, .inl (gI G, 6162, .inl mU)), (qp, .inl (gI G, 512, .inl mP)), (qf, .inl (gI G, 60, .inl mB)), (qo, .inl (gI G, 60, .inl mR))]) 0 0 := by
  refine Ct.of (cc := cX8_isCoordinate) (N := 2) (ret := (some .boolean)) RX8 (by decide) rfl rfl hl (Nat.le_of_ble_eq_true rfl) (lv := [(0, .ref h8), (1, .int p1)]) rfl (fun X hXG C hex hnm hQ => ?_)
  subst hXG
  unfold f_X8_isCoordinate at hf
  refine j_iload_n C dX8_isCoordinate_0 rfl 1 rfl ?_
  have k18 : f_X8_isCoordinate_J18 = y → Jt X [(h8, .inr (8, [.int mT, .ref qz, .ref qv, .int mV, .ref qp, .ref qf, .int mY, .ref qo, .int mO, .int mS, .int mW, .long mH])), (qz, .inl (gI X.1, 1027, .inl mZ)), (qv, .inl (gI X.1, 6162, .inl mU)), (qp, .inl (gI X.1, 512, .inl mP)), (qf, .inl (gI X.1, 60, .inl mB)), (qo, .inl (gI X.1, 60, .inl mR))] 0 0 18 [(0, .ref h8), (1, .int p1)] [] := by
    intro  hf
    unfold f_X8_isCoordinate_J18 at hf
    refine j_iconst C (v := 0) dX8_isCoordinate_18 (by decide) ?_
    subst hf
    exact j_zret C hQ rfl rfl dX8_isCoordinate_19 (Nat.zero_le _) (Nat.zero_le _) ⟨rfl, rfl⟩
  refine j_if_lt C (tgt := 18) dX8_isCoordinate_1 (by decide) (fun e1 => ?_) (fun e1 => ?_)
  · have hf := (if_pos e1).symm.trans hf
    refine j_loc [0, 1] rfl ?_
    exact k18  hf
  · have hf := (if_neg e1).symm.trans hf
    refine j_iload_n C dX8_isCoordinate_4 rfl 1 rfl ?_
    refine j_aload_n C dX8_isCoordinate_5 rfl 0 rfl ?_
    refine j_get8 C 0 rfl 1 (by decide) in_X8_isCoordinate_8 lk_X8_isCoordinate_7 rfl dX8_isCoordinate_6 ?_
    refine j_iconst C (v := 0) dX8_isCoordinate_9 (by decide) ?_
    refine j_iald C 1 rfl (by unfold vp_in; decide) dX8_isCoordinate_10 ?_
    refine j_icmp_ge C (tgt := 18) dX8_isCoordinate_11 (by decide) (fun e11 => ?_) (fun e11 => ?_)
    · have hf := (if_pos e11).symm.trans hf
      refine j_loc [0, 1] rfl ?_
      exact k18  hf
    · have hf := (if_neg e11).symm.trans hf
      refine j_iconst C (v := 1) dX8_isCoordinate_14 (by decide) ?_
      refine j_goto C (tgt := 19) dX8_isCoordinate_15 (by decide) ?_
      subst hf
      exact j_zret C hQ rfl rfl dX8_isCoordinate_19 (Nat.zero_le _) (Nat.zero_le _) ⟨rfl, rfl⟩
theorem c_X8_isCoordinate (G : CG) (hl : (gL G).stackTraces = false) (h8 : Nat) (qz : Nat) (qv : Nat) (qp : Nat) (qf : Nat) (qo : Nat) (mT : Int32) (mZ : (Nat → Int32)) (mU : (Nat → Int32)) (mV : Int32) (mP : (Nat → Int32)) (mB : (Nat → Int32)) (mY : Int32) (mR : (Nat → Int32)) (mO : Int32) (mS : Int32) (mW : Int32) (mH : Int64) (p1 : Int32) : Ct G yX8_isCoordinate wsX8_isCoordinate rm_X8_isCoordinate [.ref h8, .int p1] [(h8, .inr (8, [.int mT, .ref qz, .ref qv, .int mV, .ref qp, .ref qf, .int mY, .ref qo, .int mO, .int mS, .int mW, .long mH])), (qz, .inl (gI G, 1027, .inl mZ)), (qv, .inl (gI G, 6162, .inl mU)), (qp, .inl (gI G, 512, .inl mP)), (qf, .inl (gI G, 60, .inl mB)), (qo, .inl (gI G, 60, .inl mR))] (fin1 (some (.int (f_X8_isCoordinate p1 mZ))) [(h8, .inr (8, [.int mT, .ref qz, .ref qv, .int mV, .ref qp, .ref qf, .int mY, .ref qo, .int mO, .int mS, .int mW, .long mH])), (qz, .inl (gI G, 1027, .inl mZ)), (qv, .inl (gI G, 6162, .inl mU)), (qp, .inl (gI G, 512, .inl mP)), (qf, .inl (gI G, 60, .inl mB)), (qo, .inl (gI G, 60, .inl mR))]) 0 0 := b_X8_isCoordinate G hl h8 qz qv qp qf qo mT mZ mU mV mP mB mY mR mO mS mW mH p1 _ rfl
theorem z_X8_isCoordinate (p1 : Int32) (mZ : (Nat → Int32)) : narrow .boolean (.int (f_X8_isCoordinate p1 mZ)) = .int (f_X8_isCoordinate p1 mZ) := by
  unfold f_X8_isCoordinate
  repeat' (first | split | rfl)

def f_X8_isPoint_J28 : Int32 :=
  0
def f_X8_isPoint (p1 : Int32) (p2 : Int32) (p3 : Int32) (mZ : (Nat → Int32)) : Int32 :=
  if (f_X8_isCoordinate p1 mZ) = 0 then f_X8_isPoint_J28 else if (f_X8_isCoordinate p2 mZ) = 0 then f_X8_isPoint_J28 else if (f_X8_isCoordinate p3 mZ) = 0 then f_X8_isPoint_J28 else 1
abbrev rm_X8_isPoint : Room := { frames := 2, cells := 0, slots := 0, locals := 37 }
theorem k_X8_isPoint : Cf yX8_isPoint wsX8_isPoint rm_X8_isPoint cX8_isPoint 4 (some .boolean) 3 := ⟨⟨_, rfl⟩, by decide +kernel, by decide +kernel, by decide +kernel⟩
set_option maxRecDepth 100000 in
set_option maxHeartbeats 4000000 in
theorem b_X8_isPoint (G : CG) (hl : (gL G).stackTraces = false) (h8 : Nat) (qz : Nat) (qv : Nat) (qp : Nat) (qf : Nat) (qo : Nat) (mT : Int32) (mZ : (Nat → Int32)) (mU : (Nat → Int32)) (mV : Int32) (mP : (Nat → Int32)) (mB : (Nat → Int32)) (mY : Int32) (mR : (Nat → Int32)) (mO : Int32) (mS : Int32) (mW : Int32) (mH : Int64) (p1 : Int32) (p2 : Int32) (p3 : Int32) (y : Int32) (hf : f_X8_isPoint p1 p2 p3 mZ = y) : Ct G yX8_isPoint wsX8_isPoint rm_X8_isPoint [.ref h8, .int p1, .int p2, .int p3] [(h8, .inr (8, [.int mT, .ref qz, .ref qv, .int mV, .ref qp, .ref qf, .int mY, .ref qo, .int mO, .int mS, .int mW, .long mH])), (qz, .inl (gI G, 1027, .inl mZ)), (qv, .inl (gI G, 6162, .inl mU)), (qp, .inl (gI G, 512, .inl mP)), (qf, .inl (gI G, 60, .inl mB)), (qo, .inl (gI G, 60, .inl mR))] (fin1 (some (.int y)) [(h8, .inr (8, [.int mT, .ref qz, .ref qv, .int mV, .ref qp, .ref qf, .int mY, .ref qo, .int mO, .int mS, .int mW, .long mH])), (qz, .inl (gI G, 1027, .inl mZ)), (qv, .inl (gI G, 6162, .inl mU)), (qp, .inl (gI G, 512, .inl mP)), (qf, .inl (gI G, 60, .inl mB)), (qo, .inl (gI G, 60, .inl mR))]) 0 0 := by
  refine Ct.of (cc := cX8_isPoint) (N := 4) (ret := (some .boolean)) RX8 (by decide) rfl rfl hl (Nat.le_of_ble_eq_true rfl) (lv := [(0, .ref h8), (1, .int p1), (2, .int p2), (3, .int p3)]) rfl (fun X hXG C hex hnm hQ => ?_)
  subst hXG
  unfold f_X8_isPoint at hf
  refine j_aload_n C dX8_isPoint_0 rfl 0 rfl ?_
  refine j_iload_n C dX8_isPoint_1 rfl 1 rfl ?_
  refine j_cV C (c_X8_isCoordinate X.1 hl h8 qz qv qp qf qo mT mZ mU mV mP mB mY mR mO mS mW mH p1) k_X8_isCoordinate gX8_isPoint_X8_isCoordinate rfl (ci := 8) (q0 := 0) rfl rfl (As := [.int p1]) (rest := []) (st' := [.int (f_X8_isCoordinate p1 mZ)]) (ws' := [(h8, .inr (8, [.int mT, .ref qz, .ref qv, .int mV, .ref qp, .ref qf, .int mY, .ref qo, .int mO, .int mS, .int mW, .long mH])), (qz, .inl (gI X.1, 1027, .inl mZ)), (qv, .inl (gI X.1, 6162, .inl mU)), (qp, .inl (gI X.1, 512, .inl mP)), (qf, .inl (gI X.1, 60, .inl mB)), (qo, .inl (gI X.1, 60, .inl mR))]) rfl rfl dX8_isPoint_2 [0, 1, 2, 3, 4, 5] [] [0, 1, 2, 3, 4, 5] rfl rfl rfl rfl rfl rfl ?_
  have k28 : f_X8_isPoint_J28 = y → Jt X [(h8, .inr (8, [.int mT, .ref qz, .ref qv, .int mV, .ref qp, .ref qf, .int mY, .ref qo, .int mO, .int mS, .int mW, .long mH])), (qz, .inl (gI X.1, 1027, .inl mZ)), (qv, .inl (gI X.1, 6162, .inl mU)), (qp, .inl (gI X.1, 512, .inl mP)), (qf, .inl (gI X.1, 60, .inl mB)), (qo, .inl (gI X.1, 60, .inl mR))] 0 0 28 [(0, .ref h8), (1, .int p1), (2, .int p2), (3, .int p3)] [] := by
    intro  hf
    unfold f_X8_isPoint_J28 at hf
    refine j_iconst C (v := 0) dX8_isPoint_28 (by decide) ?_
    subst hf
    exact j_zret C hQ rfl rfl dX8_isPoint_29 (Nat.zero_le _) (Nat.zero_le _) ⟨rfl, rfl⟩
  refine j_if_eq C (tgt := 28) dX8_isPoint_5 (by decide) (fun e5 => ?_) (fun e5 => ?_)
  · have hf := (if_pos e5).symm.trans hf
    refine j_loc [0, 1, 2, 3] rfl ?_
    exact k28  hf
  · have hf := (if_neg e5).symm.trans hf
    refine j_aload_n C dX8_isPoint_8 rfl 0 rfl ?_
    refine j_iload_n C dX8_isPoint_9 rfl 2 rfl ?_
    refine j_cV C (c_X8_isCoordinate X.1 hl h8 qz qv qp qf qo mT mZ mU mV mP mB mY mR mO mS mW mH p2) k_X8_isCoordinate gX8_isPoint_X8_isCoordinate rfl (ci := 8) (q0 := 0) rfl rfl (As := [.int p2]) (rest := []) (st' := [.int (f_X8_isCoordinate p2 mZ)]) (ws' := [(h8, .inr (8, [.int mT, .ref qz, .ref qv, .int mV, .ref qp, .ref qf, .int mY, .ref qo, .int mO, .int mS, .int mW, .long mH])), (qz, .inl (gI X.1, 1027, .inl mZ)), (qv, .inl (gI X.1, 6162, .inl mU)), (qp, .inl (gI X.1, 512, .inl mP)), (qf, .inl (gI X.1, 60, .inl mB)), (qo, .inl (gI X.1, 60, .inl mR))]) rfl rfl dX8_isPoint_10 [0, 1, 2, 3, 4, 5] [] [0, 1, 2, 3, 4, 5] rfl rfl rfl rfl rfl rfl ?_
    refine j_if_eq C (tgt := 28) dX8_isPoint_13 (by decide) (fun e13 => ?_) (fun e13 => ?_)
    · have hf := (if_pos e13).symm.trans hf
      refine j_loc [0, 1, 2, 3] rfl ?_
      exact k28  hf
    · have hf := (if_neg e13).symm.trans hf
      refine j_aload_n C dX8_isPoint_16 rfl 0 rfl ?_
      refine j_iload_n C dX8_isPoint_17 rfl 3 rfl ?_
      refine j_cV C (c_X8_isCoordinate X.1 hl h8 qz qv qp qf qo mT mZ mU mV mP mB mY mR mO mS mW mH p3) k_X8_isCoordinate gX8_isPoint_X8_isCoordinate rfl (ci := 8) (q0 := 0) rfl rfl (As := [.int p3]) (rest := []) (st' := [.int (f_X8_isCoordinate p3 mZ)]) (ws' := [(h8, .inr (8, [.int mT, .ref qz, .ref qv, .int mV, .ref qp, .ref qf, .int mY, .ref qo, .int mO, .int mS, .int mW, .long mH])), (qz, .inl (gI X.1, 1027, .inl mZ)), (qv, .inl (gI X.1, 6162, .inl mU)), (qp, .inl (gI X.1, 512, .inl mP)), (qf, .inl (gI X.1, 60, .inl mB)), (qo, .inl (gI X.1, 60, .inl mR))]) rfl rfl dX8_isPoint_18 [0, 1, 2, 3, 4, 5] [] [0, 1, 2, 3, 4, 5] rfl rfl rfl rfl rfl rfl ?_
      refine j_if_eq C (tgt := 28) dX8_isPoint_21 (by decide) (fun e21 => ?_) (fun e21 => ?_)
      · have hf := (if_pos e21).symm.trans hf
        refine j_loc [0, 1, 2, 3] rfl ?_
        exact k28  hf
      · have hf := (if_neg e21).symm.trans hf
        refine j_iconst C (v := 1) dX8_isPoint_24 (by decide) ?_
        refine j_goto C (tgt := 29) dX8_isPoint_25 (by decide) ?_
        subst hf
        exact j_zret C hQ rfl rfl dX8_isPoint_29 (Nat.zero_le _) (Nat.zero_le _) ⟨rfl, rfl⟩
theorem c_X8_isPoint (G : CG) (hl : (gL G).stackTraces = false) (h8 : Nat) (qz : Nat) (qv : Nat) (qp : Nat) (qf : Nat) (qo : Nat) (mT : Int32) (mZ : (Nat → Int32)) (mU : (Nat → Int32)) (mV : Int32) (mP : (Nat → Int32)) (mB : (Nat → Int32)) (mY : Int32) (mR : (Nat → Int32)) (mO : Int32) (mS : Int32) (mW : Int32) (mH : Int64) (p1 : Int32) (p2 : Int32) (p3 : Int32) : Ct G yX8_isPoint wsX8_isPoint rm_X8_isPoint [.ref h8, .int p1, .int p2, .int p3] [(h8, .inr (8, [.int mT, .ref qz, .ref qv, .int mV, .ref qp, .ref qf, .int mY, .ref qo, .int mO, .int mS, .int mW, .long mH])), (qz, .inl (gI G, 1027, .inl mZ)), (qv, .inl (gI G, 6162, .inl mU)), (qp, .inl (gI G, 512, .inl mP)), (qf, .inl (gI G, 60, .inl mB)), (qo, .inl (gI G, 60, .inl mR))] (fin1 (some (.int (f_X8_isPoint p1 p2 p3 mZ))) [(h8, .inr (8, [.int mT, .ref qz, .ref qv, .int mV, .ref qp, .ref qf, .int mY, .ref qo, .int mO, .int mS, .int mW, .long mH])), (qz, .inl (gI G, 1027, .inl mZ)), (qv, .inl (gI G, 6162, .inl mU)), (qp, .inl (gI G, 512, .inl mP)), (qf, .inl (gI G, 60, .inl mB)), (qo, .inl (gI G, 60, .inl mR))]) 0 0 := b_X8_isPoint G hl h8 qz qv qp qf qo mT mZ mU mV mP mB mY mR mO mS mW mH p1 p2 p3 _ rfl
theorem z_X8_isPoint (p1 : Int32) (p2 : Int32) (p3 : Int32) (mZ : (Nat → Int32)) : narrow .boolean (.int (f_X8_isPoint p1 p2 p3 mZ)) = .int (f_X8_isPoint p1 p2 p3 mZ) := by
  unfold f_X8_isPoint
  repeat' (first | split | exact z_X8_isCoordinate .. | rfl)

def f_X8_isAxis (p1 : Int32) : Int32 :=
  (f_X8_in p1 0 2)
abbrev rm_X8_isAxis : Room := { frames := 2, cells := 0, slots := 0, locals := 38 }
theorem k_X8_isAxis : Cf yX8_isAxis wsX8_isAxis rm_X8_isAxis cX8_isAxis 1 (some .boolean) 1 := ⟨⟨_, rfl⟩, by decide +kernel, by decide +kernel, by decide +kernel⟩
set_option maxRecDepth 100000 in
set_option maxHeartbeats 4000000 in
theorem b_X8_isAxis (G : CG) (hl : (gL G).stackTraces = false) (p1 : Int32) (y : Int32) (hf : f_X8_isAxis p1 = y) : Ct G yX8_isAxis wsX8_isAxis rm_X8_isAxis [.int p1] [] (fin1 (some (.int y)) []) 0 0 := by
  refine Ct.of (cc := cX8_isAxis) (N := 1) (ret := (some .boolean)) RX8 (by decide) rfl rfl hl (Nat.le_of_ble_eq_true rfl) (lv := [(0, .int p1)]) rfl (fun X hXG C hex hnm hQ => ?_)
  subst hXG
  unfold f_X8_isAxis at hf
  refine j_iload_n C dX8_isAxis_0 rfl 0 rfl ?_
  refine j_iconst C (v := 0) dX8_isAxis_1 (by decide) ?_
  refine j_iconst C (v := 2) dX8_isAxis_2 (by decide) ?_
  refine j_cS C (c_X8_in X.1 hl p1 0 2) k_X8_in gX8_isAxis_X8_in (As := [.int p1, .int 0, .int 2]) (rest := []) (st' := [.int (f_X8_in p1 0 2)]) (ws' := []) rfl rfl dX8_isAxis_3 [] [] [] rfl rfl rfl rfl rfl rfl ?_
  subst hf
  exact j_zret C hQ rfl (z_X8_in p1 0 2) dX8_isAxis_6 (Nat.zero_le _) (Nat.zero_le _) ⟨rfl, rfl⟩
theorem c_X8_isAxis (G : CG) (hl : (gL G).stackTraces = false) (p1 : Int32) : Ct G yX8_isAxis wsX8_isAxis rm_X8_isAxis [.int p1] [] (fin1 (some (.int (f_X8_isAxis p1))) []) 0 0 := b_X8_isAxis G hl p1 _ rfl
theorem z_X8_isAxis (p1 : Int32) : narrow .boolean (.int (f_X8_isAxis p1)) = .int (f_X8_isAxis p1) := by
  unfold f_X8_isAxis
  repeat' (first | split | exact z_X8_in .. | rfl)

def f_X8_isNumber (p1 : Int32) : Int32 :=
  (f_X8_in p1 (-999) 999)
abbrev rm_X8_isNumber : Room := { frames := 2, cells := 0, slots := 0, locals := 38 }
theorem k_X8_isNumber : Cf yX8_isNumber wsX8_isNumber rm_X8_isNumber cX8_isNumber 1 (some .boolean) 1 := ⟨⟨_, rfl⟩, by decide +kernel, by decide +kernel, by decide +kernel⟩
set_option maxRecDepth 100000 in
set_option maxHeartbeats 4000000 in
theorem b_X8_isNumber (G : CG) (hl : (gL G).stackTraces = false) (p1 : Int32) (y : Int32) (hf : f_X8_isNumber p1 = y) : Ct G yX8_isNumber wsX8_isNumber rm_X8_isNumber [.int p1] [] (fin1 (some (.int y)) []) 0 0 := by
  refine Ct.of (cc := cX8_isNumber) (N := 1) (ret := (some .boolean)) RX8 (by decide) rfl rfl hl (Nat.le_of_ble_eq_true rfl) (lv := [(0, .int p1)]) rfl (fun X hXG C hex hnm hQ => ?_)
  subst hXG
  unfold f_X8_isNumber at hf
  refine j_iload_n C dX8_isNumber_0 rfl 0 rfl ?_
  refine j_sipush C (v := (-999)) dX8_isNumber_1 (by decide) ?_
  refine j_sipush C (v := 999) dX8_isNumber_4 (by decide) ?_
  refine j_cS C (c_X8_in X.1 hl p1 (-999) 999) k_X8_in gX8_isNumber_X8_in (As := [.int p1, .int (-999), .int 999]) (rest := []) (st' := [.int (f_X8_in p1 (-999) 999)]) (ws' := []) rfl rfl dX8_isNumber_7 [] [] [] rfl rfl rfl rfl rfl rfl ?_
  subst hf
  exact j_zret C hQ rfl (z_X8_in p1 (-999) 999) dX8_isNumber_10 (Nat.zero_le _) (Nat.zero_le _) ⟨rfl, rfl⟩
theorem c_X8_isNumber (G : CG) (hl : (gL G).stackTraces = false) (p1 : Int32) : Ct G yX8_isNumber wsX8_isNumber rm_X8_isNumber [.int p1] [] (fin1 (some (.int (f_X8_isNumber p1))) []) 0 0 := b_X8_isNumber G hl p1 _ rfl
theorem z_X8_isNumber (p1 : Int32) : narrow .boolean (.int (f_X8_isNumber p1)) = .int (f_X8_isNumber p1) := by
  unfold f_X8_isNumber
  repeat' (first | split | exact z_X8_in .. | rfl)

def f_X8_place (p1 : Int32) (p2 : Int32) (p3 : Int32) : Int32 :=
  ((p1 + (8 * p2)) + (64 * p3))
abbrev rm_X8_place : Room := { frames := 1, cells := 0, slots := 0, locals := 16 }
theorem k_X8_place : Cf yX8_place wsX8_place rm_X8_place cX8_place 3 (some .int) 3 := ⟨⟨_, rfl⟩, by decide +kernel, by decide +kernel, by decide +kernel⟩
set_option maxRecDepth 100000 in
set_option maxHeartbeats 4000000 in
theorem b_X8_place (G : CG) (hl : (gL G).stackTraces = false) (p1 : Int32) (p2 : Int32) (p3 : Int32) (y : Int32) (hf : f_X8_place p1 p2 p3 = y) : Ct G yX8_place wsX8_place rm_X8_place [.int p1, .int p2, .int p3] [] (fin1 (some (.int y)) []) 0 0 := by
  refine Ct.of (cc := cX8_place) (N := 3) (ret := (some .int)) RX8 (by decide) rfl rfl hl (Nat.le_of_ble_eq_true rfl) (lv := [(0, .int p1), (1, .int p2), (2, .int p3)]) rfl (fun X hXG C hex hnm hQ => ?_)
  subst hXG
  unfold f_X8_place at hf
  refine j_iload_n C dX8_place_0 rfl 0 rfl ?_
  refine j_bipush C (v := 8) dX8_place_1 (by decide) ?_
  refine j_iload_n C dX8_place_3 rfl 1 rfl ?_
  refine j_imul C dX8_place_4 ?_
  refine j_iadd C dX8_place_5 ?_
  refine j_bipush C (v := 64) dX8_place_6 (by decide) ?_
  refine j_iload_n C dX8_place_8 rfl 2 rfl ?_
  refine j_imul C dX8_place_9 ?_
  refine j_iadd C dX8_place_10 ?_
  subst hf
  exact j_iret C hQ rfl dX8_place_11 (Nat.zero_le _) (Nat.zero_le _) ⟨rfl, rfl⟩
theorem c_X8_place (G : CG) (hl : (gL G).stackTraces = false) (p1 : Int32) (p2 : Int32) (p3 : Int32) : Ct G yX8_place wsX8_place rm_X8_place [.int p1, .int p2, .int p3] [] (fin1 (some (.int (f_X8_place p1 p2 p3))) []) 0 0 := b_X8_place G hl p1 p2 p3 _ rfl

def f_X8_placeBy (p1 : Int32) (p2 : Int32) (p3 : Int32) (p4 : Int32) : Int32 :=
  if p1 = 0 then (f_X8_place p2 p3 p4) else if p1 = 1 then (f_X8_place p3 p2 p4) else (f_X8_place p3 p4 p2)
abbrev rm_X8_placeBy : Room := { frames := 2, cells := 0, slots := 0, locals := 38 }
theorem k_X8_placeBy : Cf yX8_placeBy wsX8_placeBy rm_X8_placeBy cX8_placeBy 4 (some .int) 4 := ⟨⟨_, rfl⟩, by decide +kernel, by decide +kernel, by decide +kernel⟩
set_option maxRecDepth 100000 in
set_option maxHeartbeats 4000000 in
theorem b_X8_placeBy (G : CG) (hl : (gL G).stackTraces = false) (p1 : Int32) (p2 : Int32) (p3 : Int32) (p4 : Int32) (y : Int32) (hf : f_X8_placeBy p1 p2 p3 p4 = y) : Ct G yX8_placeBy wsX8_placeBy rm_X8_placeBy [.int p1, .int p2, .int p3, .int p4] [] (fin1 (some (.int y)) []) 0 0 := by
  refine Ct.of (cc := cX8_placeBy) (N := 4) (ret := (some .int)) RX8 (by decide) rfl rfl hl (Nat.le_of_ble_eq_true rfl) (lv := [(0, .int p1), (1, .int p2), (2, .int p3), (3, .int p4)]) rfl (fun X hXG C hex hnm hQ => ?_)
  subst hXG
  unfold f_X8_placeBy at hf
  refine j_iload_n C dX8_placeBy_0 rfl 0 rfl ?_
  refine j_if_ne C (tgt := 13) dX8_placeBy_1 (by decide) (fun e1 => ?_) (fun e1 => ?_)
  · have hf := (if_neg e1).symm.trans hf
    refine j_iload_n C dX8_placeBy_13 rfl 0 rfl ?_
    refine j_iconst C (v := 1) dX8_placeBy_14 (by decide) ?_
    refine j_icmp_ne C (tgt := 27) dX8_placeBy_15 (by decide) (fun e15 => ?_) (fun e15 => ?_)
    · have hf := (if_neg e15).symm.trans hf
      refine j_iload_n C dX8_placeBy_27 rfl 2 rfl ?_
      refine j_iload_n C dX8_placeBy_28 rfl 3 rfl ?_
      refine j_iload_n C dX8_placeBy_29 rfl 1 rfl ?_
      refine j_cS C (c_X8_place X.1 hl p3 p4 p2) k_X8_place gX8_placeBy_X8_place (As := [.int p3, .int p4, .int p2]) (rest := []) (st' := [.int (f_X8_place p3 p4 p2)]) (ws' := []) rfl rfl dX8_placeBy_30 [] [] [] rfl rfl rfl rfl rfl rfl ?_
      subst hf
      exact j_iret C hQ rfl dX8_placeBy_33 (Nat.zero_le _) (Nat.zero_le _) ⟨rfl, rfl⟩
    · have hf := (if_pos e15).symm.trans hf
      refine j_iload_n C dX8_placeBy_18 rfl 2 rfl ?_
      refine j_iload_n C dX8_placeBy_19 rfl 1 rfl ?_
      refine j_iload_n C dX8_placeBy_20 rfl 3 rfl ?_
      refine j_cS C (c_X8_place X.1 hl p3 p2 p4) k_X8_place gX8_placeBy_X8_place (As := [.int p3, .int p2, .int p4]) (rest := []) (st' := [.int (f_X8_place p3 p2 p4)]) (ws' := []) rfl rfl dX8_placeBy_21 [] [] [] rfl rfl rfl rfl rfl rfl ?_
      refine j_goto C (tgt := 33) dX8_placeBy_24 (by decide) ?_
      subst hf
      exact j_iret C hQ rfl dX8_placeBy_33 (Nat.zero_le _) (Nat.zero_le _) ⟨rfl, rfl⟩
  · have hf := (if_pos e1).symm.trans hf
    refine j_iload_n C dX8_placeBy_4 rfl 1 rfl ?_
    refine j_iload_n C dX8_placeBy_5 rfl 2 rfl ?_
    refine j_iload_n C dX8_placeBy_6 rfl 3 rfl ?_
    refine j_cS C (c_X8_place X.1 hl p2 p3 p4) k_X8_place gX8_placeBy_X8_place (As := [.int p2, .int p3, .int p4]) (rest := []) (st' := [.int (f_X8_place p2 p3 p4)]) (ws' := []) rfl rfl dX8_placeBy_7 [] [] [] rfl rfl rfl rfl rfl rfl ?_
    refine j_goto C (tgt := 33) dX8_placeBy_10 (by decide) ?_
    subst hf
    exact j_iret C hQ rfl dX8_placeBy_33 (Nat.zero_le _) (Nat.zero_le _) ⟨rfl, rfl⟩
theorem c_X8_placeBy (G : CG) (hl : (gL G).stackTraces = false) (p1 : Int32) (p2 : Int32) (p3 : Int32) (p4 : Int32) : Ct G yX8_placeBy wsX8_placeBy rm_X8_placeBy [.int p1, .int p2, .int p3, .int p4] [] (fin1 (some (.int (f_X8_placeBy p1 p2 p3 p4))) []) 0 0 := b_X8_placeBy G hl p1 p2 p3 p4 _ rfl

theorem lk_X8_numberBy_7 : Cond.fieldLink RX8 7 (TX8 1).1 (TX8 1).2.1 (TX8 1).2.2.1 ∈ wsX8_numberBy := by decide +kernel
theorem in_X8_numberBy_8 : ∀ w ∈ wsX80, w ∈ wsX8_numberBy := by decide +kernel
def f_X8_numberBy (p1 : Int32) (p2 : Int32) (p3 : Int32) (p4 : Int32) (mZ : (Nat → Int32)) : Option (Int32) :=
  dz_in (3 + (f_X8_placeBy p1 p2 p3 p4)) 1027 (some ((mZ (Int32.toNatClampNeg (3 + (f_X8_placeBy p1 p2 p3 p4))))))
abbrev rm_X8_numberBy : Room := { frames := 3, cells := 0, slots := 0, locals := 61 }
theorem k_X8_numberBy : Cf yX8_numberBy wsX8_numberBy rm_X8_numberBy cX8_numberBy 5 (some .int) 4 := ⟨⟨_, rfl⟩, by decide +kernel, by decide +kernel, by decide +kernel⟩
set_option maxRecDepth 100000 in
set_option maxHeartbeats 4000000 in
theorem b_X8_numberBy (G : CG) (hl : (gL G).stackTraces = false) (h8 : Nat) (qz : Nat) (qv : Nat) (qp : Nat) (qf : Nat) (qo : Nat) (mT : Int32) (mZ : (Nat → Int32)) (mU : (Nat → Int32)) (mV : Int32) (mP : (Nat → Int32)) (mB : (Nat → Int32)) (mY : Int32) (mR : (Nat → Int32)) (mO : Int32) (mS : Int32) (mW : Int32) (mH : Int64) (p1 : Int32) (p2 : Int32) (p3 : Int32) (p4 : Int32) (y : Int32) (hf : f_X8_numberBy p1 p2 p3 p4 mZ = some y) : Ct G yX8_numberBy wsX8_numberBy rm_X8_numberBy [.ref h8, .int p1, .int p2, .int p3, .int p4] [(h8, .inr (8, [.int mT, .ref qz, .ref qv, .int mV, .ref qp, .ref qf, .int mY, .ref qo, .int mO, .int mS, .int mW, .long mH])), (qz, .inl (gI G, 1027, .inl mZ)), (qv, .inl (gI G, 6162, .inl mU)), (qp, .inl (gI G, 512, .inl mP)), (qf, .inl (gI G, 60, .inl mB)), (qo, .inl (gI G, 60, .inl mR))] (fin1 (some (.int y)) [(h8, .inr (8, [.int mT, .ref qz, .ref qv, .int mV, .ref qp, .ref qf, .int mY, .ref qo, .int mO, .int mS, .int mW, .long mH])), (qz, .inl (gI G, 1027, .inl mZ)), (qv, .inl (gI G, 6162, .inl mU)), (qp, .inl (gI G, 512, .inl mP)), (qf, .inl (gI G, 60, .inl mB)), (qo, .inl (gI G, 60, .inl mR))]) 0 0 := by
  refine Ct.of (cc := cX8_numberBy) (N := 5) (ret := (some .int)) RX8 (by decide) rfl rfl hl (Nat.le_of_ble_eq_true rfl) (lv := [(0, .ref h8), (1, .int p1), (2, .int p2), (3, .int p3), (4, .int p4)]) rfl (fun X hXG C hex hnm hQ => ?_)
  subst hXG
  unfold f_X8_numberBy at hf
  refine j_aload_n C dX8_numberBy_0 rfl 0 rfl ?_
  refine j_get8 C 0 rfl 1 (by decide) in_X8_numberBy_8 lk_X8_numberBy_7 rfl dX8_numberBy_1 ?_
  refine j_iconst C (v := 3) dX8_numberBy_4 (by decide) ?_
  refine j_iload_n C dX8_numberBy_5 rfl 1 rfl ?_
  refine j_iload_n C dX8_numberBy_6 rfl 2 rfl ?_
  refine j_iload_n C dX8_numberBy_7 rfl 3 rfl ?_
  refine j_iload C dX8_numberBy_8 4 rfl ?_
  refine j_cS C (c_X8_placeBy X.1 hl p1 p2 p3 p4) k_X8_placeBy gX8_numberBy_X8_placeBy (As := [.int p1, .int p2, .int p3, .int p4]) (rest := [.int 3, .ref qz]) (st' := [.int (f_X8_placeBy p1 p2 p3 p4), .int 3, .ref qz]) (ws' := [(h8, .inr (8, [.int mT, .ref qz, .ref qv, .int mV, .ref qp, .ref qf, .int mY, .ref qo, .int mO, .int mS, .int mW, .long mH])), (qz, .inl (gI X.1, 1027, .inl mZ)), (qv, .inl (gI X.1, 6162, .inl mU)), (qp, .inl (gI X.1, 512, .inl mP)), (qf, .inl (gI X.1, 60, .inl mB)), (qo, .inl (gI X.1, 60, .inl mR))]) rfl rfl dX8_numberBy_10 [] [0, 1, 2, 3, 4, 5] [0, 1, 2, 3, 4, 5] rfl rfl rfl rfl rfl rfl ?_
  refine j_iadd C dX8_numberBy_13 ?_
  obtain ⟨z14, hf⟩ := dz_in_some hf
  refine j_iald C 1 rfl z14 dX8_numberBy_14 ?_
  obtain rfl := Option.some.inj hf
  exact j_iret C hQ rfl dX8_numberBy_15 (Nat.zero_le _) (Nat.zero_le _) ⟨rfl, rfl⟩

theorem lk_X8_save_45 : Cond.fieldLink RX8 45 (TX8 3).1 (TX8 3).2.1 (TX8 3).2.2.1 ∈ wsX8_save := by decide +kernel
theorem in_X8_save_8 : ∀ w ∈ wsX80, w ∈ wsX8_save := by decide +kernel
theorem lk_X8_save_13 : Cond.fieldLink RX8 13 (TX8 2).1 (TX8 2).2.1 (TX8 2).2.2.1 ∈ wsX8_save := by decide +kernel
theorem lk_X8_save_7 : Cond.fieldLink RX8 7 (TX8 1).1 (TX8 1).2.1 (TX8 1).2.2.1 ∈ wsX8_save := by decide +kernel
def f_X8_save_L52 (mZ : (Nat → Int32)) (mV_50 : Int32) (x52_1 : Int32) (mU_52 : (Nat → Int32)) : Option ((Int32 × (Nat → Int32)) ⊕ ((Nat → Int32) × Int32)) :=
  if 1027 ≤ x52_1 then some (.inr ((mU_52, (mV_50 + 1)))) else dz_in x52_1 1027 (dz_in ((mV_50 * 1027) + x52_1) 6162 (some (.inl ((x52_1 + 1), (upd mU_52 (Int32.toNatClampNeg ((mV_50 * 1027) + x52_1)) (mZ (Int32.toNatClampNeg x52_1)))))))
def f_X8_save_J50 (mZ : (Nat → Int32)) (mU_50 : (Nat → Int32)) (mV_50 : Int32) : Option ((Nat → Int32) × Int32) :=
  dz_it (fun s : Int32 × (Nat → Int32) => f_X8_save_L52 mZ mV_50 s.1 s.2) (0, mU_50)
def f_X8_save_L11 (mZ : (Nat → Int32)) (mV : Int32) (x11_1 : Int32) (mU_11 : (Nat → Int32)) : Option ((Int32 × (Nat → Int32)) ⊕ ((Nat → Int32) × Int32)) :=
  if 5135 ≤ x11_1 then dz_up ((f_X8_save_J50 mZ mU_11 (mV - 1))) else dz_in (x11_1 + 1027) 6162 (dz_in x11_1 6162 (some (.inl ((x11_1 + 1), (upd mU_11 (Int32.toNatClampNeg x11_1) (mU_11 (Int32.toNatClampNeg (x11_1 + 1027))))))))
def f_X8_save (mZ : (Nat → Int32)) (mU : (Nat → Int32)) (mV : Int32) : Option ((Nat → Int32) × Int32) :=
  if mV = 6 then dz_it (fun s : Int32 × (Nat → Int32) => f_X8_save_L11 mZ mV s.1 s.2) (0, mU) else (f_X8_save_J50 mZ mU mV)
abbrev rm_X8_save : Room := { frames := 1, cells := 0, slots := 0, locals := 16 }
theorem k_X8_save : Cf yX8_save wsX8_save rm_X8_save cX8_save 2 none 0 := ⟨⟨_, rfl⟩, by decide +kernel, by decide +kernel, by decide +kernel⟩
set_option maxRecDepth 100000 in
set_option maxHeartbeats 4000000 in
theorem b_X8_save (G : CG) (hl : (gL G).stackTraces = false) (h8 : Nat) (qz : Nat) (qv : Nat) (qp : Nat) (qf : Nat) (qo : Nat) (mT : Int32) (mZ : (Nat → Int32)) (mU : (Nat → Int32)) (mV : Int32) (mP : (Nat → Int32)) (mB : (Nat → Int32)) (mY : Int32) (mR : (Nat → Int32)) (mO : Int32) (mS : Int32) (mW : Int32) (mH : Int64) (y : (Nat → Int32) × Int32) (hf : f_X8_save mZ mU mV = some y) : Ct G yX8_save wsX8_save rm_X8_save [.ref h8] [(h8, .inr (8, [.int mT, .ref qz, .ref qv, .int mV, .ref qp, .ref qf, .int mY, .ref qo, .int mO, .int mS, .int mW, .long mH])), (qz, .inl (gI G, 1027, .inl mZ)), (qv, .inl (gI G, 6162, .inl mU)), (qp, .inl (gI G, 512, .inl mP)), (qf, .inl (gI G, 60, .inl mB)), (qo, .inl (gI G, 60, .inl mR))] (fin1 none [(h8, .inr (8, [.int mT, .ref qz, .ref qv, .int y.2, .ref qp, .ref qf, .int mY, .ref qo, .int mO, .int mS, .int mW, .long mH])), (qz, .inl (gI G, 1027, .inl mZ)), (qv, .inl (gI G, 6162, .inl y.1)), (qp, .inl (gI G, 512, .inl mP)), (qf, .inl (gI G, 60, .inl mB)), (qo, .inl (gI G, 60, .inl mR))]) 0 0 := by
  refine Ct.of (cc := cX8_save) (N := 2) (ret := none) RX8 (by decide) rfl rfl hl (Nat.le_of_ble_eq_true rfl) (lv := [(0, .ref h8)]) rfl (fun X hXG C hex hnm hQ => ?_)
  subst hXG
  unfold f_X8_save at hf
  refine j_aload_n C dX8_save_0 rfl 0 rfl ?_
  refine j_get8 C 0 rfl 3 (by decide) in_X8_save_8 lk_X8_save_45 rfl dX8_save_1 ?_
  refine j_bipush C (v := 6) dX8_save_4 (by decide) ?_
  have k50 : ∀ (mU_50 : (Nat → Int32)) (mV_50 : Int32), f_X8_save_J50 mZ mU_50 mV_50 = some y → Jt X [(h8, .inr (8, [.int mT, .ref qz, .ref qv, .int mV_50, .ref qp, .ref qf, .int mY, .ref qo, .int mO, .int mS, .int mW, .long mH])), (qz, .inl (gI X.1, 1027, .inl mZ)), (qv, .inl (gI X.1, 6162, .inl mU_50)), (qp, .inl (gI X.1, 512, .inl mP)), (qf, .inl (gI X.1, 60, .inl mB)), (qo, .inl (gI X.1, 60, .inl mR))] 0 0 50 [(0, .ref h8)] [] := by
    intro mU_50 mV_50 hf
    unfold f_X8_save_J50 at hf
    refine j_iconst C (v := 0) dX8_save_50 (by decide) ?_
    refine j_istore_n (lv' := [(1, .int 0), (0, .ref h8)]) C dX8_save_51 rfl (by decide) rfl ?_
    have kk52 : ∀ (n : Nat) (x52_1 : Int32) (mU_52 : (Nat → Int32)), dz_iter n (fun s : Int32 × (Nat → Int32) => f_X8_save_L52 mZ mV_50 s.1 s.2) (x52_1, mU_52) = some y → Jt X [(h8, .inr (8, [.int mT, .ref qz, .ref qv, .int mV_50, .ref qp, .ref qf, .int mY, .ref qo, .int mO, .int mS, .int mW, .long mH])), (qz, .inl (gI X.1, 1027, .inl mZ)), (qv, .inl (gI X.1, 6162, .inl mU_52)), (qp, .inl (gI X.1, 512, .inl mP)), (qf, .inl (gI X.1, 60, .inl mB)), (qo, .inl (gI X.1, 60, .inl mR))] 0 0 52 [(0, .ref h8), (1, .int x52_1)] [] := by
      intro n
      induction n with
      | zero => intro x52_1 mU_52 hit; exact absurd hit (by simp [dz_iter])
      | succ n ih52 =>
        intro x52_1 mU_52 hit
        obtain ⟨y52, hf, hg52⟩ := dz_iter_succ hit
        replace hf : f_X8_save_L52 mZ mV_50 x52_1 mU_52 = some y52 := hf
        unfold f_X8_save_L52 at hf
        refine j_iload_n C dX8_save_52 rfl 1 rfl ?_
        refine j_sipush C (v := 1027) dX8_save_53 (by decide) ?_
        refine j_icmp_ge C (tgt := 86) dX8_save_56 (by decide) (fun e56 => ?_) (fun e56 => ?_)
        · have hf := (if_pos e56).symm.trans hf
          refine j_aload_n C dX8_save_86 rfl 0 rfl ?_
          refine j_dup C dX8_save_87 rfl ?_
          refine j_get8 C 0 rfl 3 (by decide) in_X8_save_8 lk_X8_save_45 rfl dX8_save_88 ?_
          refine j_iconst C (v := 1) dX8_save_91 (by decide) ?_
          refine j_iadd C dX8_save_92 ?_
          refine j_put8 (ty := .int) (ws' := [(h8, .inr (8, [.int mT, .ref qz, .ref qv, .int (mV_50 + 1), .ref qp, .ref qf, .int mY, .ref qo, .int mO, .int mS, .int mW, .long mH])), (qz, .inl (gI X.1, 1027, .inl mZ)), (qv, .inl (gI X.1, 6162, .inl mU_52)), (qp, .inl (gI X.1, 512, .inl mP)), (qf, .inl (gI X.1, 60, .inl mB)), (qo, .inl (gI X.1, 60, .inl mR))]) C 0 rfl 3 (by decide) in_X8_save_8 lk_X8_save_45 rfl (by decide +kernel) rfl rfl (Nat.le_of_ble_eq_true rfl) rfl dX8_save_93 ?_
          obtain rfl := Option.some.inj hf
          obtain rfl := dz_go_inr hg52
          exact j_vret C hQ rfl dX8_save_96 (Nat.zero_le _) (Nat.zero_le _) ⟨rfl, rfl⟩
        · have hf := (if_neg e56).symm.trans hf
          refine j_aload_n C dX8_save_59 rfl 0 rfl ?_
          refine j_get8 C 0 rfl 2 (by decide) in_X8_save_8 lk_X8_save_13 rfl dX8_save_60 ?_
          refine j_aload_n C dX8_save_63 rfl 0 rfl ?_
          refine j_get8 C 0 rfl 3 (by decide) in_X8_save_8 lk_X8_save_45 rfl dX8_save_64 ?_
          refine j_sipush C (v := 1027) dX8_save_67 (by decide) ?_
          refine j_imul C dX8_save_70 ?_
          refine j_iload_n C dX8_save_71 rfl 1 rfl ?_
          refine j_iadd C dX8_save_72 ?_
          refine j_aload_n C dX8_save_73 rfl 0 rfl ?_
          refine j_get8 C 0 rfl 1 (by decide) in_X8_save_8 lk_X8_save_7 rfl dX8_save_74 ?_
          refine j_iload_n C dX8_save_77 rfl 1 rfl ?_
          obtain ⟨z78, hf⟩ := dz_in_some hf
          refine j_iald C 1 rfl z78 dX8_save_78 ?_
          obtain ⟨z79, hf⟩ := dz_in_some hf
          refine j_iast (ws' := [(h8, .inr (8, [.int mT, .ref qz, .ref qv, .int mV_50, .ref qp, .ref qf, .int mY, .ref qo, .int mO, .int mS, .int mW, .long mH])), (qz, .inl (gI X.1, 1027, .inl mZ)), (qv, .inl (gI X.1, 6162, .inl (upd mU_52 (Int32.toNatClampNeg ((mV_50 * 1027) + x52_1)) (mZ (Int32.toNatClampNeg x52_1))))), (qp, .inl (gI X.1, 512, .inl mP)), (qf, .inl (gI X.1, 60, .inl mB)), (qo, .inl (gI X.1, 60, .inl mR))]) C 2 rfl z79 rfl dX8_save_79 ?_
          refine j_iinc (v := (x52_1 + 1)) (lv' := [(1, .int (x52_1 + 1)), (0, .ref h8)]) C dX8_save_80 1 rfl (by first | rfl | decide) (by decide) rfl ?_
          refine j_goto C (tgt := 52) dX8_save_83 (by decide) ?_
          obtain rfl := Option.some.inj hf
          have hf := dz_go_inl hg52
          refine j_loc [1, 0] rfl ?_
          exact ih52 (x52_1 + 1) (upd mU_52 (Int32.toNatClampNeg ((mV_50 * 1027) + x52_1)) (mZ (Int32.toNatClampNeg x52_1))) hf
    refine j_loc [1, 0] rfl ?_
    exact kk52 _ 0 mU_50 hf
  refine j_icmp_ne C (tgt := 50) dX8_save_6 (by decide) (fun e6 => ?_) (fun e6 => ?_)
  · have hf := (if_neg e6).symm.trans hf
    refine j_loc [0] rfl ?_
    exact k50 mU mV hf
  · have hf := (if_pos e6).symm.trans hf
    refine j_iconst C (v := 0) dX8_save_9 (by decide) ?_
    refine j_istore_n (lv' := [(1, .int 0), (0, .ref h8)]) C dX8_save_10 rfl (by decide) rfl ?_
    have kk11 : ∀ (n : Nat) (x11_1 : Int32) (mU_11 : (Nat → Int32)), dz_iter n (fun s : Int32 × (Nat → Int32) => f_X8_save_L11 mZ mV s.1 s.2) (x11_1, mU_11) = some y → Jt X [(h8, .inr (8, [.int mT, .ref qz, .ref qv, .int mV, .ref qp, .ref qf, .int mY, .ref qo, .int mO, .int mS, .int mW, .long mH])), (qz, .inl (gI X.1, 1027, .inl mZ)), (qv, .inl (gI X.1, 6162, .inl mU_11)), (qp, .inl (gI X.1, 512, .inl mP)), (qf, .inl (gI X.1, 60, .inl mB)), (qo, .inl (gI X.1, 60, .inl mR))] 0 0 11 [(0, .ref h8), (1, .int x11_1)] [] := by
      intro n
      induction n with
      | zero => intro x11_1 mU_11 hit; exact absurd hit (by simp [dz_iter])
      | succ n ih11 =>
        intro x11_1 mU_11 hit
        obtain ⟨y11, hf, hg11⟩ := dz_iter_succ hit
        replace hf : f_X8_save_L11 mZ mV x11_1 mU_11 = some y11 := hf
        unfold f_X8_save_L11 at hf
        refine j_iload_n C dX8_save_11 rfl 1 rfl ?_
        refine j_sipush C (v := 5135) dX8_save_12 (by decide) ?_
        refine j_icmp_ge C (tgt := 40) dX8_save_15 (by decide) (fun e15 => ?_) (fun e15 => ?_)
        · have hf := (if_pos e15).symm.trans hf
          refine j_aload_n C dX8_save_40 rfl 0 rfl ?_
          refine j_dup C dX8_save_41 rfl ?_
          refine j_get8 C 0 rfl 3 (by decide) in_X8_save_8 lk_X8_save_45 rfl dX8_save_42 ?_
          refine j_iconst C (v := 1) dX8_save_45 (by decide) ?_
          refine j_isub C dX8_save_46 ?_
          refine j_put8 (ty := .int) (ws' := [(h8, .inr (8, [.int mT, .ref qz, .ref qv, .int (mV - 1), .ref qp, .ref qf, .int mY, .ref qo, .int mO, .int mS, .int mW, .long mH])), (qz, .inl (gI X.1, 1027, .inl mZ)), (qv, .inl (gI X.1, 6162, .inl mU_11)), (qp, .inl (gI X.1, 512, .inl mP)), (qf, .inl (gI X.1, 60, .inl mB)), (qo, .inl (gI X.1, 60, .inl mR))]) C 0 rfl 3 (by decide) in_X8_save_8 lk_X8_save_45 rfl (by decide +kernel) rfl rfl (Nat.le_of_ble_eq_true rfl) rfl dX8_save_47 ?_
          obtain ⟨u1, hq1, rfl⟩ := dz_up_some hf
          obtain rfl := dz_go_inr hg11
          refine j_loc [0] rfl ?_
          exact k50 mU_11 (mV - 1) hq1
        · have hf := (if_neg e15).symm.trans hf
          refine j_aload_n C dX8_save_18 rfl 0 rfl ?_
          refine j_get8 C 0 rfl 2 (by decide) in_X8_save_8 lk_X8_save_13 rfl dX8_save_19 ?_
          refine j_iload_n C dX8_save_22 rfl 1 rfl ?_
          refine j_aload_n C dX8_save_23 rfl 0 rfl ?_
          refine j_get8 C 0 rfl 2 (by decide) in_X8_save_8 lk_X8_save_13 rfl dX8_save_24 ?_
          refine j_iload_n C dX8_save_27 rfl 1 rfl ?_
          refine j_sipush C (v := 1027) dX8_save_28 (by decide) ?_
          refine j_iadd C dX8_save_31 ?_
          obtain ⟨z32, hf⟩ := dz_in_some hf
          refine j_iald C 2 rfl z32 dX8_save_32 ?_
          obtain ⟨z33, hf⟩ := dz_in_some hf
          refine j_iast (ws' := [(h8, .inr (8, [.int mT, .ref qz, .ref qv, .int mV, .ref qp, .ref qf, .int mY, .ref qo, .int mO, .int mS, .int mW, .long mH])), (qz, .inl (gI X.1, 1027, .inl mZ)), (qv, .inl (gI X.1, 6162, .inl (upd mU_11 (Int32.toNatClampNeg x11_1) (mU_11 (Int32.toNatClampNeg (x11_1 + 1027)))))), (qp, .inl (gI X.1, 512, .inl mP)), (qf, .inl (gI X.1, 60, .inl mB)), (qo, .inl (gI X.1, 60, .inl mR))]) C 2 rfl z33 rfl dX8_save_33 ?_
          refine j_iinc (v := (x11_1 + 1)) (lv' := [(1, .int (x11_1 + 1)), (0, .ref h8)]) C dX8_save_34 1 rfl (by first | rfl | decide) (by decide) rfl ?_
          refine j_goto C (tgt := 11) dX8_save_37 (by decide) ?_
          obtain rfl := Option.some.inj hf
          have hf := dz_go_inl hg11
          refine j_loc [1, 0] rfl ?_
          exact ih11 (x11_1 + 1) (upd mU_11 (Int32.toNatClampNeg x11_1) (mU_11 (Int32.toNatClampNeg (x11_1 + 1027)))) hf
    refine j_loc [1, 0] rfl ?_
    exact kk11 _ 0 mU hf

theorem lk_X8_undo_45 : Cond.fieldLink RX8 45 (TX8 3).1 (TX8 3).2.1 (TX8 3).2.2.1 ∈ wsX8_undo := by decide +kernel
theorem in_X8_undo_8 : ∀ w ∈ wsX80, w ∈ wsX8_undo := by decide +kernel
theorem lk_X8_undo_25 : Cond.fieldLink RX8 25 (TX8 0).1 (TX8 0).2.1 (TX8 0).2.2.1 ∈ wsX8_undo := by decide +kernel
theorem lk_X8_undo_7 : Cond.fieldLink RX8 7 (TX8 1).1 (TX8 1).2.1 (TX8 1).2.2.1 ∈ wsX8_undo := by decide +kernel
theorem lk_X8_undo_13 : Cond.fieldLink RX8 13 (TX8 2).1 (TX8 2).2.1 (TX8 2).2.2.1 ∈ wsX8_undo := by decide +kernel
def f_X8_undo_L37 (mU : (Nat → Int32)) (mV : Int32) (s13_0 : Int32) (x37_1 : Int32) (mZ_37 : (Nat → Int32)) : Option ((Int32 × (Nat → Int32)) ⊕ (Int32 × Int32 × (Nat → Int32) × Int32)) :=
  if 1027 ≤ x37_1 then some (.inr (((mV - 1), s13_0, mZ_37, (mV - 1)))) else dz_in (((mV - 1) * 1027) + x37_1) 6162 (dz_in x37_1 1027 (some (.inl ((x37_1 + 1), (upd mZ_37 (Int32.toNatClampNeg x37_1) (mU (Int32.toNatClampNeg (((mV - 1) * 1027) + x37_1))))))))
def f_X8_undo_J13 (mZ : (Nat → Int32)) (mU : (Nat → Int32)) (mV : Int32) (s13_0 : Int32) : Option (Int32 × Int32 × (Nat → Int32) × Int32) :=
  if s13_0 ≤ 0 then dz_it (fun s : Int32 × (Nat → Int32) => f_X8_undo_L37 mU mV s13_0 s.1 s.2) (0, mZ) else some ((0, s13_0, mZ, mV))
def f_X8_undo (mZ : (Nat → Int32)) (mU : (Nat → Int32)) (mV : Int32) : Option (Int32 × Int32 × (Nat → Int32) × Int32) :=
  if mV = 0 then (f_X8_undo_J13 mZ mU mV 1) else (f_X8_undo_J13 mZ mU mV 0)
abbrev rm_X8_undo : Room := { frames := 1, cells := 0, slots := 0, locals := 16 }
theorem k_X8_undo : Cf yX8_undo wsX8_undo rm_X8_undo cX8_undo 2 (some .int) 0 := ⟨⟨_, rfl⟩, by decide +kernel, by decide +kernel, by decide +kernel⟩
set_option maxRecDepth 100000 in
set_option maxHeartbeats 4000000 in
theorem b_X8_undo (G : CG) (hl : (gL G).stackTraces = false) (h8 : Nat) (qz : Nat) (qv : Nat) (qp : Nat) (qf : Nat) (qo : Nat) (mT : Int32) (mZ : (Nat → Int32)) (mU : (Nat → Int32)) (mV : Int32) (mP : (Nat → Int32)) (mB : (Nat → Int32)) (mY : Int32) (mR : (Nat → Int32)) (mO : Int32) (mS : Int32) (mW : Int32) (mH : Int64) (y : Int32 × Int32 × (Nat → Int32) × Int32) (hf : f_X8_undo mZ mU mV = some y) : Ct G yX8_undo wsX8_undo rm_X8_undo [.ref h8] [(h8, .inr (8, [.int mT, .ref qz, .ref qv, .int mV, .ref qp, .ref qf, .int mY, .ref qo, .int mO, .int mS, .int mW, .long mH])), (qz, .inl (gI G, 1027, .inl mZ)), (qv, .inl (gI G, 6162, .inl mU)), (qp, .inl (gI G, 512, .inl mP)), (qf, .inl (gI G, 60, .inl mB)), (qo, .inl (gI G, 60, .inl mR))] (fin1 (some (.int y.1)) [(h8, .inr (8, [.int y.2.1, .ref qz, .ref qv, .int y.2.2.2, .ref qp, .ref qf, .int mY, .ref qo, .int mO, .int mS, .int mW, .long mH])), (qz, .inl (gI G, 1027, .inl y.2.2.1)), (qv, .inl (gI G, 6162, .inl mU)), (qp, .inl (gI G, 512, .inl mP)), (qf, .inl (gI G, 60, .inl mB)), (qo, .inl (gI G, 60, .inl mR))]) 0 0 := by
  refine Ct.of (cc := cX8_undo) (N := 2) (ret := (some .int)) RX8 (by decide) rfl rfl hl (Nat.le_of_ble_eq_true rfl) (lv := [(0, .ref h8)]) rfl (fun X hXG C hex hnm hQ => ?_)
  subst hXG
  unfold f_X8_undo at hf
  refine j_aload_n C dX8_undo_0 rfl 0 rfl ?_
  refine j_aload_n C dX8_undo_1 rfl 0 rfl ?_
  refine j_get8 C 0 rfl 3 (by decide) in_X8_undo_8 lk_X8_undo_45 rfl dX8_undo_2 ?_
  have k13 : ∀ (s13_0 : Int32), f_X8_undo_J13 mZ mU mV s13_0 = some y → Jt X [(h8, .inr (8, [.int mT, .ref qz, .ref qv, .int mV, .ref qp, .ref qf, .int mY, .ref qo, .int mO, .int mS, .int mW, .long mH])), (qz, .inl (gI X.1, 1027, .inl mZ)), (qv, .inl (gI X.1, 6162, .inl mU)), (qp, .inl (gI X.1, 512, .inl mP)), (qf, .inl (gI X.1, 60, .inl mB)), (qo, .inl (gI X.1, 60, .inl mR))] 0 0 13 [(0, .ref h8)] [.int s13_0, .ref h8] := by
    intro s13_0 hf
    unfold f_X8_undo_J13 at hf
    refine j_put8 (ty := .int) (ws' := [(h8, .inr (8, [.int s13_0, .ref qz, .ref qv, .int mV, .ref qp, .ref qf, .int mY, .ref qo, .int mO, .int mS, .int mW, .long mH])), (qz, .inl (gI X.1, 1027, .inl mZ)), (qv, .inl (gI X.1, 6162, .inl mU)), (qp, .inl (gI X.1, 512, .inl mP)), (qf, .inl (gI X.1, 60, .inl mB)), (qo, .inl (gI X.1, 60, .inl mR))]) C 0 rfl 0 (by decide) in_X8_undo_8 lk_X8_undo_25 rfl (by decide +kernel) rfl rfl (Nat.le_of_ble_eq_true rfl) rfl dX8_undo_13 ?_
    refine j_aload_n C dX8_undo_16 rfl 0 rfl ?_
    refine j_get8 C 0 rfl 0 (by decide) in_X8_undo_8 lk_X8_undo_25 rfl dX8_undo_17 ?_
    refine j_if_le C (tgt := 25) dX8_undo_20 (by decide) (fun e20 => ?_) (fun e20 => ?_)
    · have hf := (if_pos e20).symm.trans hf
      refine j_aload_n C dX8_undo_25 rfl 0 rfl ?_
      refine j_dup C dX8_undo_26 rfl ?_
      refine j_get8 C 0 rfl 3 (by decide) in_X8_undo_8 lk_X8_undo_45 rfl dX8_undo_27 ?_
      refine j_iconst C (v := 1) dX8_undo_30 (by decide) ?_
      refine j_isub C dX8_undo_31 ?_
      refine j_put8 (ty := .int) (ws' := [(h8, .inr (8, [.int s13_0, .ref qz, .ref qv, .int (mV - 1), .ref qp, .ref qf, .int mY, .ref qo, .int mO, .int mS, .int mW, .long mH])), (qz, .inl (gI X.1, 1027, .inl mZ)), (qv, .inl (gI X.1, 6162, .inl mU)), (qp, .inl (gI X.1, 512, .inl mP)), (qf, .inl (gI X.1, 60, .inl mB)), (qo, .inl (gI X.1, 60, .inl mR))]) C 0 rfl 3 (by decide) in_X8_undo_8 lk_X8_undo_45 rfl (by decide +kernel) rfl rfl (Nat.le_of_ble_eq_true rfl) rfl dX8_undo_32 ?_
      refine j_iconst C (v := 0) dX8_undo_35 (by decide) ?_
      refine j_istore_n (lv' := [(1, .int 0), (0, .ref h8)]) C dX8_undo_36 rfl (by decide) rfl ?_
      have kk37 : ∀ (n : Nat) (x37_1 : Int32) (mZ_37 : (Nat → Int32)), dz_iter n (fun s : Int32 × (Nat → Int32) => f_X8_undo_L37 mU mV s13_0 s.1 s.2) (x37_1, mZ_37) = some y → Jt X [(h8, .inr (8, [.int s13_0, .ref qz, .ref qv, .int (mV - 1), .ref qp, .ref qf, .int mY, .ref qo, .int mO, .int mS, .int mW, .long mH])), (qz, .inl (gI X.1, 1027, .inl mZ_37)), (qv, .inl (gI X.1, 6162, .inl mU)), (qp, .inl (gI X.1, 512, .inl mP)), (qf, .inl (gI X.1, 60, .inl mB)), (qo, .inl (gI X.1, 60, .inl mR))] 0 0 37 [(0, .ref h8), (1, .int x37_1)] [] := by
        intro n
        induction n with
        | zero => intro x37_1 mZ_37 hit; exact absurd hit (by simp [dz_iter])
        | succ n ih37 =>
          intro x37_1 mZ_37 hit
          obtain ⟨y37, hf, hg37⟩ := dz_iter_succ hit
          replace hf : f_X8_undo_L37 mU mV s13_0 x37_1 mZ_37 = some y37 := hf
          unfold f_X8_undo_L37 at hf
          refine j_iload_n C dX8_undo_37 rfl 1 rfl ?_
          refine j_sipush C (v := 1027) dX8_undo_38 (by decide) ?_
          refine j_icmp_ge C (tgt := 71) dX8_undo_41 (by decide) (fun e41 => ?_) (fun e41 => ?_)
          · have hf := (if_pos e41).symm.trans hf
            refine j_aload_n C dX8_undo_71 rfl 0 rfl ?_
            refine j_get8 C 0 rfl 3 (by decide) in_X8_undo_8 lk_X8_undo_45 rfl dX8_undo_72 ?_
            obtain rfl := Option.some.inj hf
            obtain rfl := dz_go_inr hg37
            exact j_iret C hQ rfl dX8_undo_75 (Nat.zero_le _) (Nat.zero_le _) ⟨rfl, rfl⟩
          · have hf := (if_neg e41).symm.trans hf
            refine j_aload_n C dX8_undo_44 rfl 0 rfl ?_
            refine j_get8 C 0 rfl 1 (by decide) in_X8_undo_8 lk_X8_undo_7 rfl dX8_undo_45 ?_
            refine j_iload_n C dX8_undo_48 rfl 1 rfl ?_
            refine j_aload_n C dX8_undo_49 rfl 0 rfl ?_
            refine j_get8 C 0 rfl 2 (by decide) in_X8_undo_8 lk_X8_undo_13 rfl dX8_undo_50 ?_
            refine j_aload_n C dX8_undo_53 rfl 0 rfl ?_
            refine j_get8 C 0 rfl 3 (by decide) in_X8_undo_8 lk_X8_undo_45 rfl dX8_undo_54 ?_
            refine j_sipush C (v := 1027) dX8_undo_57 (by decide) ?_
            refine j_imul C dX8_undo_60 ?_
            refine j_iload_n C dX8_undo_61 rfl 1 rfl ?_
            refine j_iadd C dX8_undo_62 ?_
            obtain ⟨z63, hf⟩ := dz_in_some hf
            refine j_iald C 2 rfl z63 dX8_undo_63 ?_
            obtain ⟨z64, hf⟩ := dz_in_some hf
            refine j_iast (ws' := [(h8, .inr (8, [.int s13_0, .ref qz, .ref qv, .int (mV - 1), .ref qp, .ref qf, .int mY, .ref qo, .int mO, .int mS, .int mW, .long mH])), (qz, .inl (gI X.1, 1027, .inl (upd mZ_37 (Int32.toNatClampNeg x37_1) (mU (Int32.toNatClampNeg (((mV - 1) * 1027) + x37_1)))))), (qv, .inl (gI X.1, 6162, .inl mU)), (qp, .inl (gI X.1, 512, .inl mP)), (qf, .inl (gI X.1, 60, .inl mB)), (qo, .inl (gI X.1, 60, .inl mR))]) C 1 rfl z64 rfl dX8_undo_64 ?_
            refine j_iinc (v := (x37_1 + 1)) (lv' := [(1, .int (x37_1 + 1)), (0, .ref h8)]) C dX8_undo_65 1 rfl (by first | rfl | decide) (by decide) rfl ?_
            refine j_goto C (tgt := 37) dX8_undo_68 (by decide) ?_
            obtain rfl := Option.some.inj hf
            have hf := dz_go_inl hg37
            refine j_loc [1, 0] rfl ?_
            exact ih37 (x37_1 + 1) (upd mZ_37 (Int32.toNatClampNeg x37_1) (mU (Int32.toNatClampNeg (((mV - 1) * 1027) + x37_1)))) hf
      refine j_loc [1, 0] rfl ?_
      exact kk37 _ 0 mZ hf
    · have hf := (if_neg e20).symm.trans hf
      refine j_iconst C (v := 0) dX8_undo_23 (by decide) ?_
      obtain rfl := Option.some.inj hf
      exact j_iret C hQ rfl dX8_undo_24 (Nat.zero_le _) (Nat.zero_le _) ⟨rfl, rfl⟩
  refine j_if_ne C (tgt := 12) dX8_undo_5 (by decide) (fun e5 => ?_) (fun e5 => ?_)
  · have hf := (if_neg e5).symm.trans hf
    refine j_iconst C (v := 0) dX8_undo_12 (by decide) ?_
    refine j_loc [0] rfl ?_
    exact k13 0 hf
  · have hf := (if_pos e5).symm.trans hf
    refine j_iconst C (v := 1) dX8_undo_8 (by decide) ?_
    refine j_goto C (tgt := 13) dX8_undo_9 (by decide) ?_
    refine j_loc [0] rfl ?_
    exact k13 1 hf

theorem lk_X8_numberAt_7 : Cond.fieldLink RX8 7 (TX8 1).1 (TX8 1).2.1 (TX8 1).2.2.1 ∈ wsX8_numberAt := by decide +kernel
theorem in_X8_numberAt_8 : ∀ w ∈ wsX80, w ∈ wsX8_numberAt := by decide +kernel
def f_X8_numberAt (p1 : Int32) (p2 : Int32) (p3 : Int32) (mZ : (Nat → Int32)) : Option (Int32) :=
  dz_nz (mZ 0) (dz_nz (mZ 0) (Option.bind (f_X8_numberBy p1 p2 (p3 - p3 / (mZ 0) * (mZ 0)) (p3 / (mZ 0)) mZ) (fun r19 => some (r19))))
abbrev rm_X8_numberAt : Room := { frames := 4, cells := 0, slots := 0, locals := 85 }
theorem k_X8_numberAt : Cf yX8_numberAt wsX8_numberAt rm_X8_numberAt cX8_numberAt 4 (some .int) 3 := ⟨⟨_, rfl⟩, by decide +kernel, by decide +kernel, by decide +kernel⟩
set_option maxRecDepth 100000 in
set_option maxHeartbeats 4000000 in
theorem b_X8_numberAt (G : CG) (hl : (gL G).stackTraces = false) (h8 : Nat) (qz : Nat) (qv : Nat) (qp : Nat) (qf : Nat) (qo : Nat) (mT : Int32) (mZ : (Nat → Int32)) (mU : (Nat → Int32)) (mV : Int32) (mP : (Nat → Int32)) (mB : (Nat → Int32)) (mY : Int32) (mR : (Nat → Int32)) (mO : Int32) (mS : Int32) (mW : Int32) (mH : Int64) (p1 : Int32) (p2 : Int32) (p3 : Int32) (y : Int32) (hf : f_X8_numberAt p1 p2 p3 mZ = some y) : Ct G yX8_numberAt wsX8_numberAt rm_X8_numberAt [.ref h8, .int p1, .int p2, .int p3] [(h8, .inr (8, [.int mT, .ref qz, .ref qv, .int mV, .ref qp, .ref qf, .int mY, .ref qo, .int mO, .int mS, .int mW, .long mH])), (qz, .inl (gI G, 1027, .inl mZ)), (qv, .inl (gI G, 6162, .inl mU)), (qp, .inl (gI G, 512, .inl mP)), (qf, .inl (gI G, 60, .inl mB)), (qo, .inl (gI G, 60, .inl mR))] (fin1 (some (.int y)) [(h8, .inr (8, [.int mT, .ref qz, .ref qv, .int mV, .ref qp, .ref qf, .int mY, .ref qo, .int mO, .int mS, .int mW, .long mH])), (qz, .inl (gI G, 1027, .inl mZ)), (qv, .inl (gI G, 6162, .inl mU)), (qp, .inl (gI G, 512, .inl mP)), (qf, .inl (gI G, 60, .inl mB)), (qo, .inl (gI G, 60, .inl mR))]) 0 0 := by
  refine Ct.of (cc := cX8_numberAt) (N := 4) (ret := (some .int)) RX8 (by decide) rfl rfl hl (Nat.le_of_ble_eq_true rfl) (lv := [(0, .ref h8), (1, .int p1), (2, .int p2), (3, .int p3)]) rfl (fun X hXG C hex hnm hQ => ?_)
  subst hXG
  unfold f_X8_numberAt at hf
  refine j_aload_n C dX8_numberAt_0 rfl 0 rfl ?_
  refine j_iload_n C dX8_numberAt_1 rfl 1 rfl ?_
  refine j_iload_n C dX8_numberAt_2 rfl 2 rfl ?_
  refine j_iload_n C dX8_numberAt_3 rfl 3 rfl ?_
  refine j_aload_n C dX8_numberAt_4 rfl 0 rfl ?_
  refine j_get8 C 0 rfl 1 (by decide) in_X8_numberAt_8 lk_X8_numberAt_7 rfl dX8_numberAt_5 ?_
  refine j_iconst C (v := 0) dX8_numberAt_8 (by decide) ?_
  refine j_iald C 1 rfl (by unfold vp_in; decide) dX8_numberAt_9 ?_
  obtain ⟨z10, hf⟩ := dz_nz_some hf
  refine j_irem C dX8_numberAt_10 z10 ?_
  refine j_iload_n C dX8_numberAt_11 rfl 3 rfl ?_
  refine j_aload_n C dX8_numberAt_12 rfl 0 rfl ?_
  refine j_get8 C 0 rfl 1 (by decide) in_X8_numberAt_8 lk_X8_numberAt_7 rfl dX8_numberAt_13 ?_
  refine j_iconst C (v := 0) dX8_numberAt_16 (by decide) ?_
  refine j_iald C 1 rfl (by unfold vp_in; decide) dX8_numberAt_17 ?_
  obtain ⟨z18, hf⟩ := dz_nz_some hf
  refine j_idiv C dX8_numberAt_18 z18 ?_
  obtain ⟨r19, hc19, hf⟩ := Option.bind_eq_some_iff.mp hf
  refine j_cV C (b_X8_numberBy X.1 hl h8 qz qv qp qf qo mT mZ mU mV mP mB mY mR mO mS mW mH p1 p2 (p3 - p3 / (mZ 0) * (mZ 0)) (p3 / (mZ 0)) r19 hc19) k_X8_numberBy gX8_numberAt_X8_numberBy rfl (ci := 8) (q0 := 0) rfl rfl (As := [.int p1, .int p2, .int (p3 - p3 / (mZ 0) * (mZ 0)), .int (p3 / (mZ 0))]) (rest := []) (st' := [.int r19]) (ws' := [(h8, .inr (8, [.int mT, .ref qz, .ref qv, .int mV, .ref qp, .ref qf, .int mY, .ref qo, .int mO, .int mS, .int mW, .long mH])), (qz, .inl (gI X.1, 1027, .inl mZ)), (qv, .inl (gI X.1, 6162, .inl mU)), (qp, .inl (gI X.1, 512, .inl mP)), (qf, .inl (gI X.1, 60, .inl mB)), (qo, .inl (gI X.1, 60, .inl mR))]) rfl rfl dX8_numberAt_19 [0, 1, 2, 3, 4, 5] [] [0, 1, 2, 3, 4, 5] rfl rfl rfl rfl rfl rfl ?_
  obtain rfl := Option.some.inj hf
  exact j_iret C hQ rfl dX8_numberAt_22 (Nat.zero_le _) (Nat.zero_le _) ⟨rfl, rfl⟩

theorem lk_X8_offsets_7 : Cond.fieldLink RX8 7 (TX8 1).1 (TX8 1).2.1 (TX8 1).2.2.1 ∈ wsX8_offsets := by decide +kernel
theorem in_X8_offsets_8 : ∀ w ∈ wsX80, w ∈ wsX8_offsets := by decide +kernel
def f_X8_offsets (mZ : (Nat → Int32)) : Int32 :=
  ((mZ 0) * (mZ 0))
abbrev rm_X8_offsets : Room := { frames := 1, cells := 0, slots := 0, locals := 16 }
theorem k_X8_offsets : Cf yX8_offsets wsX8_offsets rm_X8_offsets cX8_offsets 1 (some .int) 0 := ⟨⟨_, rfl⟩, by decide +kernel, by decide +kernel, by decide +kernel⟩
set_option maxRecDepth 100000 in
set_option maxHeartbeats 4000000 in
theorem b_X8_offsets (G : CG) (hl : (gL G).stackTraces = false) (h8 : Nat) (qz : Nat) (qv : Nat) (qp : Nat) (qf : Nat) (qo : Nat) (mT : Int32) (mZ : (Nat → Int32)) (mU : (Nat → Int32)) (mV : Int32) (mP : (Nat → Int32)) (mB : (Nat → Int32)) (mY : Int32) (mR : (Nat → Int32)) (mO : Int32) (mS : Int32) (mW : Int32) (mH : Int64) (y : Int32) (hf : f_X8_offsets mZ = y) : Ct G yX8_offsets wsX8_offsets rm_X8_offsets [.ref h8] [(h8, .inr (8, [.int mT, .ref qz, .ref qv, .int mV, .ref qp, .ref qf, .int mY, .ref qo, .int mO, .int mS, .int mW, .long mH])), (qz, .inl (gI G, 1027, .inl mZ)), (qv, .inl (gI G, 6162, .inl mU)), (qp, .inl (gI G, 512, .inl mP)), (qf, .inl (gI G, 60, .inl mB)), (qo, .inl (gI G, 60, .inl mR))] (fin1 (some (.int y)) [(h8, .inr (8, [.int mT, .ref qz, .ref qv, .int mV, .ref qp, .ref qf, .int mY, .ref qo, .int mO, .int mS, .int mW, .long mH])), (qz, .inl (gI G, 1027, .inl mZ)), (qv, .inl (gI G, 6162, .inl mU)), (qp, .inl (gI G, 512, .inl mP)), (qf, .inl (gI G, 60, .inl mB)), (qo, .inl (gI G, 60, .inl mR))]) 0 0 := by
  refine Ct.of (cc := cX8_offsets) (N := 1) (ret := (some .int)) RX8 (by decide) rfl rfl hl (Nat.le_of_ble_eq_true rfl) (lv := [(0, .ref h8)]) rfl (fun X hXG C hex hnm hQ => ?_)
  subst hXG
  unfold f_X8_offsets at hf
  refine j_aload_n C dX8_offsets_0 rfl 0 rfl ?_
  refine j_get8 C 0 rfl 1 (by decide) in_X8_offsets_8 lk_X8_offsets_7 rfl dX8_offsets_1 ?_
  refine j_iconst C (v := 0) dX8_offsets_4 (by decide) ?_
  refine j_iald C 1 rfl (by unfold vp_in; decide) dX8_offsets_5 ?_
  refine j_aload_n C dX8_offsets_6 rfl 0 rfl ?_
  refine j_get8 C 0 rfl 1 (by decide) in_X8_offsets_8 lk_X8_offsets_7 rfl dX8_offsets_7 ?_
  refine j_iconst C (v := 0) dX8_offsets_10 (by decide) ?_
  refine j_iald C 1 rfl (by unfold vp_in; decide) dX8_offsets_11 ?_
  refine j_imul C dX8_offsets_12 ?_
  subst hf
  exact j_iret C hQ rfl dX8_offsets_13 (Nat.zero_le _) (Nat.zero_le _) ⟨rfl, rfl⟩
theorem c_X8_offsets (G : CG) (hl : (gL G).stackTraces = false) (h8 : Nat) (qz : Nat) (qv : Nat) (qp : Nat) (qf : Nat) (qo : Nat) (mT : Int32) (mZ : (Nat → Int32)) (mU : (Nat → Int32)) (mV : Int32) (mP : (Nat → Int32)) (mB : (Nat → Int32)) (mY : Int32) (mR : (Nat → Int32)) (mO : Int32) (mS : Int32) (mW : Int32) (mH : Int64) : Ct G yX8_offsets wsX8_offsets rm_X8_offsets [.ref h8] [(h8, .inr (8, [.int mT, .ref qz, .ref qv, .int mV, .ref qp, .ref qf, .int mY, .ref qo, .int mO, .int mS, .int mW, .long mH])), (qz, .inl (gI G, 1027, .inl mZ)), (qv, .inl (gI G, 6162, .inl mU)), (qp, .inl (gI G, 512, .inl mP)), (qf, .inl (gI G, 60, .inl mB)), (qo, .inl (gI G, 60, .inl mR))] (fin1 (some (.int (f_X8_offsets mZ))) [(h8, .inr (8, [.int mT, .ref qz, .ref qv, .int mV, .ref qp, .ref qf, .int mY, .ref qo, .int mO, .int mS, .int mW, .long mH])), (qz, .inl (gI G, 1027, .inl mZ)), (qv, .inl (gI G, 6162, .inl mU)), (qp, .inl (gI G, 512, .inl mP)), (qf, .inl (gI G, 60, .inl mB)), (qo, .inl (gI G, 60, .inl mR))]) 0 0 := b_X8_offsets G hl h8 qz qv qp qf qo mT mZ mU mV mP mB mY mR mO mS mW mH _ rfl

end
