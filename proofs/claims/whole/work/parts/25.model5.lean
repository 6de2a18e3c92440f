noncomputable section
theorem lk_X8_ifPut_25 : Cond.fieldLink RX8 25 (TX8 0).1 (TX8 0).2.1 (TX8 0).2.2.1 ∈ wsX8_ifPut := by decide +kernel
theorem in_X8_ifPut_8 : ∀ w ∈ wsX80, w ∈ wsX8_ifPut := by decide +kernel
def f_X8_ifPut_J38 (p1 : Int32) (p2 : Int32) (p3 : Int32) (p4 : Int32) (p5 : Int32) (mZ : (Nat → Int32)) (s38_0 : Int32) : Option (Int32 × Int32 × (Nat → Int32)) :=
  if s38_0 ≤ 0 then Option.bind (f_X8_wouldPut p1 p2 p3 p4 p5 mZ) (fun r60 => some ((r60.1, s38_0, r60.2))) else some ((0, s38_0, mZ))
def f_X8_ifPut_J37 (p1 : Int32) (p2 : Int32) (p3 : Int32) (p4 : Int32) (p5 : Int32) (mZ : (Nat → Int32)) : Option (Int32 × Int32 × (Nat → Int32)) :=
  (f_X8_ifPut_J38 p1 p2 p3 p4 p5 mZ 2)
def f_X8_ifPut (p1 : Int32) (p2 : Int32) (p3 : Int32) (p4 : Int32) (p5 : Int32) (mZ : (Nat → Int32)) : Option (Int32 × Int32 × (Nat → Int32)) :=
  if (f_X8_isPoint p1 p2 p3 mZ) = 0 then (f_X8_ifPut_J38 p1 p2 p3 p4 p5 mZ 1) else if (f_X8_isNumber p4) = 0 then (f_X8_ifPut_J37 p1 p2 p3 p4 p5 mZ) else if (f_X8_in p5 0 1) = 0 then (f_X8_ifPut_J37 p1 p2 p3 p4 p5 mZ) else (f_X8_ifPut_J38 p1 p2 p3 p4 p5 mZ 0)
abbrev rm_X8_ifPut : Room := { frames := 11, cells := 0, slots := 0, locals := 251 }
theorem k_X8_ifPut : Cf yX8_ifPut wsX8_ifPut rm_X8_ifPut cX8_ifPut 6 (some .int) 5 := ⟨⟨_, rfl⟩, by decide +kernel, by decide +kernel, by decide +kernel⟩
set_option maxRecDepth 100000 in
set_option maxHeartbeats 4000000 in
theorem b_X8_ifPut (G : CG) (hl : (gL G).stackTraces = false) (h8 : Nat) (qz : Nat) (qv : Nat) (qp : Nat) (qf : Nat) (qo : Nat) (mT : Int32) (mZ : (Nat → Int32)) (mU : (Nat → Int32)) (mV : Int32) (mP : (Nat → Int32)) (mB : (Nat → Int32)) (mY : Int32) (mR : (Nat → Int32)) (mO : Int32) (mS : Int32) (mW : Int32) (mH : Int64) (p1 : Int32) (p2 : Int32) (p3 : Int32) (p4 : Int32) (p5 : Int32) (y : Int32 × Int32 × (Nat → Int32)) (hf : f_X8_ifPut p1 p2 p3 p4 p5 mZ = some y) : Ct G yX8_ifPut wsX8_ifPut rm_X8_ifPut [.ref h8, .int p1, .int p2, .int p3, .int p4, .int p5] [(h8, .inr (8, [.int mT, .ref qz, .ref qv, .int mV, .ref qp, .ref qf, .int mY, .ref qo, .int mO, .int mS, .int mW, .long mH])), (qz, .inl (gI G, 1027, .inl mZ)), (qv, .inl (gI G, 6162, .inl mU)), (qp, .inl (gI G, 512, .inl mP)), (qf, .inl (gI G, 60, .inl mB)), (qo, .inl (gI G, 60, .inl mR))] (fin1 (some (.int y.1)) [(h8, .inr (8, [.int y.2.1, .ref qz, .ref qv, .int mV, .ref qp, .ref qf, .int mY, .ref qo, .int mO, .int mS, .int mW, .long mH])), (qz, .inl (gI G, 1027, .inl y.2.2)), (qv, .inl (gI G, 6162, .inl mU)), (qp, .inl (gI G, 512, .inl mP)), (qf, .inl (gI G, 60, .inl mB)), (qo, .inl (gI G, 60, .inl mR))]) 0 0 := by
  refine Ct.of (cc := cX8_ifPut) (N := 6) (ret := (some .int)) RX8 (by decide) rfl rfl hl (Nat.le_of_ble_eq_true rfl) (lv := [(0, .ref h8), (1, .int p1), (2, .int p2), (3, .int p3), (4, .int p4), (5, .int p5)]) rfl (fun X hXG C hex hnm hQ => ?_)
  subst hXG
  unfold f_X8_ifPut at hf
  refine j_aload_n C dX8_ifPut_0 rfl 0 rfl ?_
  refine j_aload_n C dX8_ifPut_1 rfl 0 rfl ?_
  refine j_iload_n C dX8_ifPut_2 rfl 1 rfl ?_
  refine j_iload_n C dX8_ifPut_3 rfl 2 rfl ?_
  refine j_iload_n C dX8_ifPut_4 rfl 3 rfl ?_
  refine j_cV C (c_X8_isPoint X.1 hl h8 qz qv qp qf qo mT mZ mU mV mP mB mY mR mO mS mW mH p1 p2 p3) k_X8_isPoint gX8_ifPut_X8_isPoint rfl (ci := 8) (q0 := 0) rfl rfl (As := [.int p1, .int p2, .int p3]) (rest := [.ref h8]) (st' := [.int (f_X8_isPoint p1 p2 p3 mZ), .ref h8]) (ws' := [(h8, .inr (8, [.int mT, .ref qz, .ref qv, .int mV, .ref qp, .ref qf, .int mY, .ref qo, .int mO, .int mS, .int mW, .long mH])), (qz, .inl (gI X.1, 1027, .inl mZ)), (qv, .inl (gI X.1, 6162, .inl mU)), (qp, .inl (gI X.1, 512, .inl mP)), (qf, .inl (gI X.1, 60, .inl mB)), (qo, .inl (gI X.1, 60, .inl mR))]) rfl rfl dX8_ifPut_5 [0, 1, 2, 3, 4, 5] [] [0, 1, 2, 3, 4, 5] rfl rfl rfl rfl rfl rfl ?_
  have k38 : ∀ (s38_0 : Int32), f_X8_ifPut_J38 p1 p2 p3 p4 p5 mZ s38_0 = some y → Jt X [(h8, .inr (8, [.int mT, .ref qz, .ref qv, .int mV, .ref qp, .ref qf, .int mY, .ref qo, .int mO, .int mS, .int mW, .long mH])), (qz, .inl (gI X.1, 1027, .inl mZ)), (qv, .inl (gI X.1, 6162, .inl mU)), (qp, .inl (gI X.1, 512, .inl mP)), (qf, .inl (gI X.1, 60, .inl mB)), (qo, .inl (gI X.1, 60, .inl mR))] 0 0 38 [(0, .ref h8), (1, .int p1), (2, .int p2), (3, .int p3), (4, .int p4), (5, .int p5)] [.int s38_0, .ref h8] := by
    intro s38_0 hf
    unfold f_X8_ifPut_J38 at hf
    refine j_put8 (ty := .int) (ws' := [(h8, .inr (8, [.int s38_0, .ref qz, .ref qv, .int mV, .ref qp, .ref qf, .int mY, .ref qo, .int mO, .int mS, .int mW, .long mH])), (qz, .inl (gI X.1, 1027, .inl mZ)), (qv, .inl (gI X.1, 6162, .inl mU)), (qp, .inl (gI X.1, 512, .inl mP)), (qf, .inl (gI X.1, 60, .inl mB)), (qo, .inl (gI X.1, 60, .inl mR))]) C 0 rfl 0 (by decide) in_X8_ifPut_8 lk_X8_ifPut_25 rfl (by decide +kernel) rfl rfl (Nat.le_of_ble_eq_true rfl) rfl dX8_ifPut_38 ?_
    refine j_aload_n C dX8_ifPut_41 rfl 0 rfl ?_
    refine j_get8 C 0 rfl 0 (by decide) in_X8_ifPut_8 lk_X8_ifPut_25 rfl dX8_ifPut_42 ?_
    refine j_if_le C (tgt := 52) dX8_ifPut_45 (by decide) (fun e45 => ?_) (fun e45 => ?_)
    · have hf := (if_pos e45).symm.trans hf
      refine j_aload_n C dX8_ifPut_52 rfl 0 rfl ?_
      refine j_iload_n C dX8_ifPut_53 rfl 1 rfl ?_
      refine j_iload_n C dX8_ifPut_54 rfl 2 rfl ?_
      refine j_iload_n C dX8_ifPut_55 rfl 3 rfl ?_
      refine j_iload C dX8_ifPut_56 4 rfl ?_
      refine j_iload C dX8_ifPut_58 5 rfl ?_
      obtain ⟨r60, hc60, hf⟩ := Option.bind_eq_some_iff.mp hf
      refine j_cV C (b_X8_wouldPut X.1 hl h8 qz qv qp qf qo s38_0 mZ mU mV mP mB mY mR mO mS mW mH p1 p2 p3 p4 p5 r60 hc60) k_X8_wouldPut gX8_ifPut_X8_wouldPut rfl (ci := 8) (q0 := 0) rfl rfl (As := [.int p1, .int p2, .int p3, .int p4, .int p5]) (rest := []) (st' := [.int r60.1]) (ws' := [(h8, .inr (8, [.int s38_0, .ref qz, .ref qv, .int mV, .ref qp, .ref qf, .int mY, .ref qo, .int mO, .int mS, .int mW, .long mH])), (qz, .inl (gI X.1, 1027, .inl r60.2)), (qv, .inl (gI X.1, 6162, .inl mU)), (qp, .inl (gI X.1, 512, .inl mP)), (qf, .inl (gI X.1, 60, .inl mB)), (qo, .inl (gI X.1, 60, .inl mR))]) rfl rfl dX8_ifPut_60 [0, 1, 2, 3, 4, 5] [] [0, 1, 2, 3, 4, 5] rfl rfl rfl rfl rfl rfl ?_
      obtain rfl := Option.some.inj hf
      exact j_iret C hQ rfl dX8_ifPut_63 (Nat.zero_le _) (Nat.zero_le _) ⟨rfl, rfl⟩
    · have hf := (if_neg e45).symm.trans hf
      refine j_iconst C (v := 0) dX8_ifPut_48 (by decide) ?_
      refine j_goto C (tgt := 63) dX8_ifPut_49 (by decide) ?_
      obtain rfl := Option.some.inj hf
      exact j_iret C hQ rfl dX8_ifPut_63 (Nat.zero_le _) (Nat.zero_le _) ⟨rfl, rfl⟩
  refine j_if_ne C (tgt := 15) dX8_ifPut_8 (by decide) (fun e8 => ?_) (fun e8 => ?_)
  · have hf := (if_neg e8).symm.trans hf
    refine j_iload C dX8_ifPut_15 4 rfl ?_
    refine j_cS C (c_X8_isNumber X.1 hl p4) k_X8_isNumber gX8_ifPut_X8_isNumber (As := [.int p4]) (rest := [.ref h8]) (st' := [.int (f_X8_isNumber p4), .ref h8]) (ws' := [(h8, .inr (8, [.int mT, .ref qz, .ref qv, .int mV, .ref qp, .ref qf, .int mY, .ref qo, .int mO, .int mS, .int mW, .long mH])), (qz, .inl (gI X.1, 1027, .inl mZ)), (qv, .inl (gI X.1, 6162, .inl mU)), (qp, .inl (gI X.1, 512, .inl mP)), (qf, .inl (gI X.1, 60, .inl mB)), (qo, .inl (gI X.1, 60, .inl mR))]) rfl rfl dX8_ifPut_17 [] [0, 1, 2, 3, 4, 5] [0, 1, 2, 3, 4, 5] rfl rfl rfl rfl rfl rfl ?_
    have k37 : f_X8_ifPut_J37 p1 p2 p3 p4 p5 mZ = some y → Jt X [(h8, .inr (8, [.int mT, .ref qz, .ref qv, .int mV, .ref qp, .ref qf, .int mY, .ref qo, .int mO, .int mS, .int mW, .long mH])), (qz, .inl (gI X.1, 1027, .inl mZ)), (qv, .inl (gI X.1, 6162, .inl mU)), (qp, .inl (gI X.1, 512, .inl mP)), (qf, .inl (gI X.1, 60, .inl mB)), (qo, .inl (gI X.1, 60, .inl mR))] 0 0 37 [(0, .ref h8), (1, .int p1), (2, .int p2), (3, .int p3), (4, .int p4), (5, .int p5)] [.ref h8] := by
      intro  hf
      unfold f_X8_ifPut_J37 at hf
      refine j_iconst C (v := 2) dX8_ifPut_37 (by decide) ?_
      refine j_loc [0, 1, 2, 3, 4, 5] rfl ?_
      exact k38 2 hf
    refine j_if_eq C (tgt := 37) dX8_ifPut_20 (by decide) (fun e20 => ?_) (fun e20 => ?_)
    · have hf := (if_pos e20).symm.trans hf
      refine j_loc [0, 1, 2, 3, 4, 5] rfl ?_
      exact k37  hf
    · have hf := (if_neg e20).symm.trans hf
      refine j_iload C dX8_ifPut_23 5 rfl ?_
      refine j_iconst C (v := 0) dX8_ifPut_25 (by decide) ?_
      refine j_iconst C (v := 1) dX8_ifPut_26 (by decide) ?_
      refine j_cS C (c_X8_in X.1 hl p5 0 1) k_X8_in gX8_ifPut_X8_in (As := [.int p5, .int 0, .int 1]) (rest := [.ref h8]) (st' := [.int (f_X8_in p5 0 1), .ref h8]) (ws' := [(h8, .inr (8, [.int mT, .ref qz, .ref qv, .int mV, .ref qp, .ref qf, .int mY, .ref qo, .int mO, .int mS, .int mW, .long mH])), (qz, .inl (gI X.1, 1027, .inl mZ)), (qv, .inl (gI X.1, 6162, .inl mU)), (qp, .inl (gI X.1, 512, .inl mP)), (qf, .inl (gI X.1, 60, .inl mB)), (qo, .inl (gI X.1, 60, .inl mR))]) rfl rfl dX8_ifPut_27 [] [0, 1, 2, 3, 4, 5] [0, 1, 2, 3, 4, 5] rfl rfl rfl rfl rfl rfl ?_
      refine j_if_eq C (tgt := 37) dX8_ifPut_30 (by decide) (fun e30 => ?_) (fun e30 => ?_)
      · have hf := (if_pos e30).symm.trans hf
        refine j_loc [0, 1, 2, 3, 4, 5] rfl ?_
        exact k37  hf
      · have hf := (if_neg e30).symm.trans hf
        refine j_iconst C (v := 0) dX8_ifPut_33 (by decide) ?_
        refine j_goto C (tgt := 38) dX8_ifPut_34 (by decide) ?_
        refine j_loc [0, 1, 2, 3, 4, 5] rfl ?_
        exact k38 0 hf
  · have hf := (if_pos e8).symm.trans hf
    refine j_iconst C (v := 1) dX8_ifPut_11 (by decide) ?_
    refine j_goto C (tgt := 38) dX8_ifPut_12 (by decide) ?_
    refine j_loc [0, 1, 2, 3, 4, 5] rfl ?_
    exact k38 1 hf

theorem lk_X8_bestOf_7 : Cond.fieldLink RX8 7 (TX8 1).1 (TX8 1).2.1 (TX8 1).2.2.1 ∈ wsX8_bestOf := by decide +kernel
theorem in_X8_bestOf_8 : ∀ w ∈ wsX80, w ∈ wsX8_bestOf := by decide +kernel
def f_X8_bestOf_J108 (mZ_27 : (Nat → Int32)) (s108_0 : Int32) (s81_0 : Int32) (s94_0 : Int32) (x27_7 : Int32) : Option ((Int32 × Int32 × Int32 × Int32 × (Nat → Int32)) ⊕ ((Int32 × Int32 × Int32 × Int32 × (Nat → Int32)) ⊕ (Int32 × (Nat → Int32)))) :=
  some (.inl (s81_0, s94_0, s108_0, (x27_7 + 1), (upd mZ_27 2 x27_7)))
def f_X8_bestOf_J94 (mZ_27 : (Nat → Int32)) (r45 : Int32) (s68_0 : Int32) (s81_0 : Int32) (s94_0 : Int32) (x27_5 : Int32) (x27_7 : Int32) : Option ((Int32 × Int32 × Int32 × Int32 × (Nat → Int32)) ⊕ ((Int32 × Int32 × Int32 × Int32 × (Nat → Int32)) ⊕ (Int32 × (Nat → Int32)))) :=
  if s68_0 = 0 then (f_X8_bestOf_J108 mZ_27 x27_5 s81_0 s94_0 x27_7) else (f_X8_bestOf_J108 mZ_27 r45 s81_0 s94_0 x27_7)
def f_X8_bestOf_J81 (mZ_27 : (Nat → Int32)) (r45 : Int32) (s68_0 : Int32) (s81_0 : Int32) (x27_4 : Int32) (x27_5 : Int32) (x27_7 : Int32) : Option ((Int32 × Int32 × Int32 × Int32 × (Nat → Int32)) ⊕ ((Int32 × Int32 × Int32 × Int32 × (Nat → Int32)) ⊕ (Int32 × (Nat → Int32)))) :=
  if s68_0 = 0 then (f_X8_bestOf_J94 mZ_27 r45 s68_0 s81_0 x27_4 x27_5 x27_7) else (f_X8_bestOf_J94 mZ_27 r45 s68_0 s81_0 x27_7 x27_5 x27_7)
def f_X8_bestOf_J68 (mZ_27 : (Nat → Int32)) (r45 : Int32) (s68_0 : Int32) (x18_6 : Int32) (x27_3 : Int32) (x27_4 : Int32) (x27_5 : Int32) (x27_7 : Int32) : Option ((Int32 × Int32 × Int32 × Int32 × (Nat → Int32)) ⊕ ((Int32 × Int32 × Int32 × Int32 × (Nat → Int32)) ⊕ (Int32 × (Nat → Int32)))) :=
  if s68_0 = 0 then (f_X8_bestOf_J81 mZ_27 r45 s68_0 x27_3 x27_4 x27_5 x27_7) else (f_X8_bestOf_J81 mZ_27 r45 s68_0 x18_6 x27_4 x27_5 x27_7)
def f_X8_bestOf_J63 (mZ_27 : (Nat → Int32)) (r45 : Int32) (x18_6 : Int32) (x27_3 : Int32) (x27_4 : Int32) (x27_5 : Int32) (x27_7 : Int32) : Option ((Int32 × Int32 × Int32 × Int32 × (Nat → Int32)) ⊕ ((Int32 × Int32 × Int32 × Int32 × (Nat → Int32)) ⊕ (Int32 × (Nat → Int32)))) :=
  (f_X8_bestOf_J68 mZ_27 r45 1 x18_6 x27_3 x27_4 x27_5 x27_7)
def f_X8_bestOf_L27 (x18_6 : Int32) (x27_3 : Int32) (x27_4 : Int32) (x27_5 : Int32) (x27_7 : Int32) (mZ_27 : (Nat → Int32)) : Option ((Int32 × Int32 × Int32 × Int32 × (Nat → Int32)) ⊕ ((Int32 × Int32 × Int32 × Int32 × (Nat → Int32)) ⊕ (Int32 × (Nat → Int32)))) :=
  if 64 < x27_7 then some (.inr (.inl (x27_3, x27_4, x27_5, (x18_6 + 1), mZ_27))) else Option.bind (f_X8_roomBy x18_6 (upd mZ_27 2 x27_7)) (fun r45 => if x27_5 = (-1) then (f_X8_bestOf_J63 mZ_27 r45 x18_6 x27_3 x27_4 x27_5 x27_7) else if x27_5 ≤ r45 then (f_X8_bestOf_J68 mZ_27 r45 0 x18_6 x27_3 x27_4 x27_5 x27_7) else (f_X8_bestOf_J63 mZ_27 r45 x18_6 x27_3 x27_4 x27_5 x27_7))
def f_X8_bestOf_L18 (p1 : Int32) (mZ : (Nat → Int32)) (x18_3 : Int32) (x18_4 : Int32) (x18_5 : Int32) (x18_6 : Int32) (mZ_18 : (Nat → Int32)) : Option ((Int32 × Int32 × Int32 × Int32 × (Nat → Int32)) ⊕ (Int32 × (Nat → Int32))) :=
  if 3 ≤ x18_6 then if p1 = 0 then some (.inr ((x18_3, (upd mZ_18 2 (mZ 2))))) else if p1 = 1 then some (.inr ((x18_4, (upd mZ_18 2 (mZ 2))))) else some (.inr ((x18_5, (upd mZ_18 2 (mZ 2))))) else dz_it (fun s : Int32 × Int32 × Int32 × Int32 × (Nat → Int32) => f_X8_bestOf_L27 x18_6 s.1 s.2.1 s.2.2.1 s.2.2.2.1 s.2.2.2.2) (x18_3, x18_4, x18_5, 1, mZ_18)
def f_X8_bestOf (p1 : Int32) (mZ : (Nat → Int32)) : Option (Int32 × (Nat → Int32)) :=
  dz_it (fun s : Int32 × Int32 × Int32 × Int32 × (Nat → Int32) => f_X8_bestOf_L18 p1 mZ s.1 s.2.1 s.2.2.1 s.2.2.2.1 s.2.2.2.2) ((-1), (-1), (-1), 0, mZ)
abbrev rm_X8_bestOf : Room := { frames := 9, cells := 0, slots := 0, locals := 202 }
theorem k_X8_bestOf : Cf yX8_bestOf wsX8_bestOf rm_X8_bestOf cX8_bestOf 10 (some .int) 1 := ⟨⟨_, rfl⟩, by decide +kernel, by decide +kernel, by decide +kernel⟩
set_option maxRecDepth 100000 in
set_option maxHeartbeats 4000000 in
theorem b_X8_bestOf (G : CG) (hl : (gL G).stackTraces = false) (h8 : Nat) (qz : Nat) (qv : Nat) (qp : Nat) (qf : Nat) (qo : Nat) (mT : Int32) (mZ : (Nat → Int32)) (mU : (Nat → Int32)) (mV : Int32) (mP : (Nat → Int32)) (mB : (Nat → Int32)) (mY : Int32) (mR : (Nat → Int32)) (mO : Int32) (mS : Int32) (mW : Int32) (mH : Int64) (p1 : Int32) (y : Int32 × (Nat → Int32)) (hf : f_X8_bestOf p1 mZ = some y) : Ct G yX8_bestOf wsX8_bestOf rm_X8_bestOf [.ref h8, .int p1] [(h8, .inr (8, [.int mT, .ref qz, .ref qv, .int mV, .ref qp, .ref qf, .int mY, .ref qo, .int mO, .int mS, .int mW, .long mH])), (qz, .inl (gI G, 1027, .inl mZ)), (qv, .inl (gI G, 6162, .inl mU)), (qp, .inl (gI G, 512, .inl mP)), (qf, .inl (gI G, 60, .inl mB)), (qo, .inl (gI G, 60, .inl mR))] (fin1 (some (.int y.1)) [(h8, .inr (8, [.int mT, .ref qz, .ref qv, .int mV, .ref qp, .ref qf, .int mY, .ref qo, .int mO, .int mS, .int mW, .long mH])), (qz, .inl (gI G, 1027, .inl y.2)), (qv, .inl (gI G, 6162, .inl mU)), (qp, .inl (gI G, 512, .inl mP)), (qf, .inl (gI G, 60, .inl mB)), (qo, .inl (gI G, 60, .inl mR))]) 0 0 := by
  refine Ct.of (cc := cX8_bestOf) (N := 10) (ret := (some .int)) RX8 (by decide) rfl rfl hl (Nat.le_of_ble_eq_true rfl) (lv := [(0, .ref h8), (1, .int p1)]) rfl (fun X hXG C hex hnm hQ => ?_)
  subst hXG
  unfold f_X8_bestOf at hf
  refine j_aload_n C dX8_bestOf_0 rfl 0 rfl ?_
  refine j_get8 C 0 rfl 1 (by decide) in_X8_bestOf_8 lk_X8_bestOf_7 rfl dX8_bestOf_1 ?_
  refine j_iconst C (v := 2) dX8_bestOf_4 (by decide) ?_
  refine j_iald C 1 rfl (by unfold vp_in; decide) dX8_bestOf_5 ?_
  refine j_istore_n (lv' := [(2, .int (mZ 2)), (0, .ref h8), (1, .int p1)]) C dX8_bestOf_6 rfl (by decide) rfl ?_
  refine j_iconst C (v := (-1)) dX8_bestOf_7 (by decide) ?_
  refine j_istore_n (lv' := [(3, .int (-1)), (2, .int (mZ 2)), (0, .ref h8), (1, .int p1)]) C dX8_bestOf_8 rfl (by decide) rfl ?_
  refine j_iconst C (v := (-1)) dX8_bestOf_9 (by decide) ?_
  refine j_istore (lv' := [(4, .int (-1)), (3, .int (-1)), (2, .int (mZ 2)), (0, .ref h8), (1, .int p1)]) C dX8_bestOf_10 (by decide) rfl ?_
  refine j_iconst C (v := (-1)) dX8_bestOf_12 (by decide) ?_
  refine j_istore (lv' := [(5, .int (-1)), (4, .int (-1)), (3, .int (-1)), (2, .int (mZ 2)), (0, .ref h8), (1, .int p1)]) C dX8_bestOf_13 (by decide) rfl ?_
  refine j_iconst C (v := 0) dX8_bestOf_15 (by decide) ?_
  refine j_istore (lv' := [(6, .int 0), (5, .int (-1)), (4, .int (-1)), (3, .int (-1)), (2, .int (mZ 2)), (0, .ref h8), (1, .int p1)]) C dX8_bestOf_16 (by decide) rfl ?_
  have kk18 : ∀ (n : Nat) (x18_3 : Int32) (x18_4 : Int32) (x18_5 : Int32) (x18_6 : Int32) (mZ_18 : (Nat → Int32)), dz_iter n (fun s : Int32 × Int32 × Int32 × Int32 × (Nat → Int32) => f_X8_bestOf_L18 p1 mZ s.1 s.2.1 s.2.2.1 s.2.2.2.1 s.2.2.2.2) (x18_3, x18_4, x18_5, x18_6, mZ_18) = some y → Jt X [(h8, .inr (8, [.int mT, .ref qz, .ref qv, .int mV, .ref qp, .ref qf, .int mY, .ref qo, .int mO, .int mS, .int mW, .long mH])), (qz, .inl (gI X.1, 1027, .inl mZ_18)), (qv, .inl (gI X.1, 6162, .inl mU)), (qp, .inl (gI X.1, 512, .inl mP)), (qf, .inl (gI X.1, 60, .inl mB)), (qo, .inl (gI X.1, 60, .inl mR))] 0 0 18 [(0, .ref h8), (1, .int p1), (2, .int (mZ 2)), (3, .int x18_3), (4, .int x18_4), (5, .int x18_5), (6, .int x18_6)] [] := by
    intro n
    induction n with
    | zero => intro x18_3 x18_4 x18_5 x18_6 mZ_18 hit; exact absurd hit (by simp [dz_iter])
    | succ n ih18 =>
      intro x18_3 x18_4 x18_5 x18_6 mZ_18 hit
      obtain ⟨y18, hf, hg18⟩ := dz_iter_succ hit
      replace hf : f_X8_bestOf_L18 p1 mZ x18_3 x18_4 x18_5 x18_6 mZ_18 = some y18 := hf
      unfold f_X8_bestOf_L18 at hf
      refine j_iload C dX8_bestOf_18 6 rfl ?_
      refine j_iconst C (v := 3) dX8_bestOf_20 (by decide) ?_
      refine j_icmp_ge C (tgt := 122) dX8_bestOf_21 (by decide) (fun e21 => ?_) (fun e21 => ?_)
      · have hf := (if_pos e21).symm.trans hf
        refine j_aload_n C dX8_bestOf_122 rfl 0 rfl ?_
        refine j_get8 C 0 rfl 1 (by decide) in_X8_bestOf_8 lk_X8_bestOf_7 rfl dX8_bestOf_123 ?_
        refine j_iconst C (v := 2) dX8_bestOf_126 (by decide) ?_
        refine j_iload_n C dX8_bestOf_127 rfl 2 rfl ?_
        refine j_iast (ws' := [(h8, .inr (8, [.int mT, .ref qz, .ref qv, .int mV, .ref qp, .ref qf, .int mY, .ref qo, .int mO, .int mS, .int mW, .long mH])), (qz, .inl (gI X.1, 1027, .inl (upd mZ_18 2 (mZ 2)))), (qv, .inl (gI X.1, 6162, .inl mU)), (qp, .inl (gI X.1, 512, .inl mP)), (qf, .inl (gI X.1, 60, .inl mB)), (qo, .inl (gI X.1, 60, .inl mR))]) C 1 rfl (by unfold vp_in; decide) rfl dX8_bestOf_128 ?_
        refine j_iload_n C dX8_bestOf_129 rfl 1 rfl ?_
        refine j_if_ne C (tgt := 137) dX8_bestOf_130 (by decide) (fun e130 => ?_) (fun e130 => ?_)
        · have hf := (if_neg e130).symm.trans hf
          refine j_iload_n C dX8_bestOf_137 rfl 1 rfl ?_
          refine j_iconst C (v := 1) dX8_bestOf_138 (by decide) ?_
          refine j_icmp_ne C (tgt := 147) dX8_bestOf_139 (by decide) (fun e139 => ?_) (fun e139 => ?_)
          · have hf := (if_neg e139).symm.trans hf
            refine j_iload C dX8_bestOf_147 5 rfl ?_
            obtain rfl := Option.some.inj hf
            obtain rfl := dz_go_inr hg18
            exact j_iret C hQ rfl dX8_bestOf_149 (Nat.zero_le _) (Nat.zero_le _) ⟨rfl, rfl⟩
          · have hf := (if_pos e139).symm.trans hf
            refine j_iload C dX8_bestOf_142 4 rfl ?_
            refine j_goto C (tgt := 149) dX8_bestOf_144 (by decide) ?_
            obtain rfl := Option.some.inj hf
            obtain rfl := dz_go_inr hg18
            exact j_iret C hQ rfl dX8_bestOf_149 (Nat.zero_le _) (Nat.zero_le _) ⟨rfl, rfl⟩
        · have hf := (if_pos e130).symm.trans hf
          refine j_iload_n C dX8_bestOf_133 rfl 3 rfl ?_
          refine j_goto C (tgt := 149) dX8_bestOf_134 (by decide) ?_
          obtain rfl := Option.some.inj hf
          obtain rfl := dz_go_inr hg18
          exact j_iret C hQ rfl dX8_bestOf_149 (Nat.zero_le _) (Nat.zero_le _) ⟨rfl, rfl⟩
      · have hf := (if_neg e21).symm.trans hf
        refine j_iconst C (v := 1) dX8_bestOf_24 (by decide) ?_
        refine j_istore (lv' := [(7, .int 1), (0, .ref h8), (1, .int p1), (2, .int (mZ 2)), (3, .int x18_3), (4, .int x18_4), (5, .int x18_5), (6, .int x18_6)]) C dX8_bestOf_25 (by decide) rfl ?_
        have kk27 : ∀ (n : Nat) (x27_3 : Int32) (x27_4 : Int32) (x27_5 : Int32) (x27_7 : Int32) (mZ_27 : (Nat → Int32)), dz_iter n (fun s : Int32 × Int32 × Int32 × Int32 × (Nat → Int32) => f_X8_bestOf_L27 x18_6 s.1 s.2.1 s.2.2.1 s.2.2.2.1 s.2.2.2.2) (x27_3, x27_4, x27_5, x27_7, mZ_27) = some y18 → Jt X [(h8, .inr (8, [.int mT, .ref qz, .ref qv, .int mV, .ref qp, .ref qf, .int mY, .ref qo, .int mO, .int mS, .int mW, .long mH])), (qz, .inl (gI X.1, 1027, .inl mZ_27)), (qv, .inl (gI X.1, 6162, .inl mU)), (qp, .inl (gI X.1, 512, .inl mP)), (qf, .inl (gI X.1, 60, .inl mB)), (qo, .inl (gI X.1, 60, .inl mR))] 0 0 27 [(0, .ref h8), (1, .int p1), (2, .int (mZ 2)), (3, .int x27_3), (4, .int x27_4), (5, .int x27_5), (6, .int x18_6), (7, .int x27_7)] [] := by
          intro n
          induction n with
          | zero => intro x27_3 x27_4 x27_5 x27_7 mZ_27 hit; exact absurd hit (by simp [dz_iter])
          | succ n ih27 =>
            intro x27_3 x27_4 x27_5 x27_7 mZ_27 hit
            obtain ⟨y27, hf, hg27⟩ := dz_iter_succ hit
            replace hf : f_X8_bestOf_L27 x18_6 x27_3 x27_4 x27_5 x27_7 mZ_27 = some y27 := hf
            unfold f_X8_bestOf_L27 at hf
            refine j_iload C dX8_bestOf_27 7 rfl ?_
            refine j_bipush C (v := 64) dX8_bestOf_29 (by decide) ?_
            refine j_icmp_gt C (tgt := 116) dX8_bestOf_31 (by decide) (fun e31 => ?_) (fun e31 => ?_)
            · have hf := (if_pos e31).symm.trans hf
              refine j_iinc (v := (x18_6 + 1)) (lv' := [(6, .int (x18_6 + 1)), (0, .ref h8), (1, .int p1), (2, .int (mZ 2)), (3, .int x27_3), (4, .int x27_4), (5, .int x27_5), (7, .int x27_7)]) C dX8_bestOf_116 6 rfl (by first | rfl | decide) (by decide) rfl ?_
              refine j_goto C (tgt := 18) dX8_bestOf_119 (by decide) ?_
              obtain rfl := Option.some.inj hf
              obtain rfl := dz_go_inr hg27
              have hf := dz_go_inl hg18
              refine j_loc [1, 2, 3, 4, 5, 6, 0] rfl ?_
              exact ih18 x27_3 x27_4 x27_5 (x18_6 + 1) mZ_27 hf
            · have hf := (if_neg e31).symm.trans hf
              refine j_aload_n C dX8_bestOf_34 rfl 0 rfl ?_
              refine j_get8 C 0 rfl 1 (by decide) in_X8_bestOf_8 lk_X8_bestOf_7 rfl dX8_bestOf_35 ?_
              refine j_iconst C (v := 2) dX8_bestOf_38 (by decide) ?_
              refine j_iload C dX8_bestOf_39 7 rfl ?_
              refine j_iast (ws' := [(h8, .inr (8, [.int mT, .ref qz, .ref qv, .int mV, .ref qp, .ref qf, .int mY, .ref qo, .int mO, .int mS, .int mW, .long mH])), (qz, .inl (gI X.1, 1027, .inl (upd mZ_27 2 x27_7))), (qv, .inl (gI X.1, 6162, .inl mU)), (qp, .inl (gI X.1, 512, .inl mP)), (qf, .inl (gI X.1, 60, .inl mB)), (qo, .inl (gI X.1, 60, .inl mR))]) C 1 rfl (by unfold vp_in; decide) rfl dX8_bestOf_41 ?_
              refine j_aload_n C dX8_bestOf_42 rfl 0 rfl ?_
              refine j_iload C dX8_bestOf_43 6 rfl ?_
              obtain ⟨r45, hc45, hf⟩ := Option.bind_eq_some_iff.mp hf
              refine j_cV C (b_X8_roomBy X.1 hl h8 qz qv qp qf qo mT (upd mZ_27 2 x27_7) mU mV mP mB mY mR mO mS mW mH x18_6 r45 hc45) k_X8_roomBy gX8_bestOf_X8_roomBy rfl (ci := 8) (q0 := 0) rfl rfl (As := [.int x18_6]) (rest := []) (st' := [.int r45]) (ws' := [(h8, .inr (8, [.int mT, .ref qz, .ref qv, .int mV, .ref qp, .ref qf, .int mY, .ref qo, .int mO, .int mS, .int mW, .long mH])), (qz, .inl (gI X.1, 1027, .inl (upd mZ_27 2 x27_7))), (qv, .inl (gI X.1, 6162, .inl mU)), (qp, .inl (gI X.1, 512, .inl mP)), (qf, .inl (gI X.1, 60, .inl mB)), (qo, .inl (gI X.1, 60, .inl mR))]) rfl rfl dX8_bestOf_45 [0, 1, 2, 3, 4, 5] [] [0, 1, 2, 3, 4, 5] rfl rfl rfl rfl rfl rfl ?_
              refine j_istore (lv' := [(8, .int r45), (0, .ref h8), (1, .int p1), (2, .int (mZ 2)), (3, .int x27_3), (4, .int x27_4), (5, .int x27_5), (6, .int x18_6), (7, .int x27_7)]) C dX8_bestOf_48 (by decide) rfl ?_
              refine j_iload C dX8_bestOf_50 6 rfl ?_
              refine j_iconst C (v := (-1)) dX8_bestOf_52 (by decide) ?_
              have k68 : ∀ (s68_0 : Int32), f_X8_bestOf_J68 mZ_27 r45 s68_0 x18_6 x27_3 x27_4 x27_5 x27_7 = some y27 → Jt X [(h8, .inr (8, [.int mT, .ref qz, .ref qv, .int mV, .ref qp, .ref qf, .int mY, .ref qo, .int mO, .int mS, .int mW, .long mH])), (qz, .inl (gI X.1, 1027, .inl (upd mZ_27 2 x27_7))), (qv, .inl (gI X.1, 6162, .inl mU)), (qp, .inl (gI X.1, 512, .inl mP)), (qf, .inl (gI X.1, 60, .inl mB)), (qo, .inl (gI X.1, 60, .inl mR))] 0 0 68 [(0, .ref h8), (1, .int p1), (2, .int (mZ 2)), (3, .int x27_3), (4, .int x27_4), (5, .int x27_5), (6, .int x18_6), (7, .int x27_7), (8, .int r45)] [.int s68_0] := by
                intro s68_0 hf
                unfold f_X8_bestOf_J68 at hf
                refine j_istore (lv' := [(9, .int s68_0), (0, .ref h8), (1, .int p1), (2, .int (mZ 2)), (3, .int x27_3), (4, .int x27_4), (5, .int x27_5), (6, .int x18_6), (7, .int x27_7), (8, .int r45)]) C dX8_bestOf_68 (by decide) rfl ?_
                refine j_iload C dX8_bestOf_70 0 rfl ?_
                have k81 : ∀ (s81_0 : Int32), f_X8_bestOf_J81 mZ_27 r45 s68_0 s81_0 x27_4 x27_5 x27_7 = some y27 → Jt X [(h8, .inr (8, [.int mT, .ref qz, .ref qv, .int mV, .ref qp, .ref qf, .int mY, .ref qo, .int mO, .int mS, .int mW, .long mH])), (qz, .inl (gI X.1, 1027, .inl (upd mZ_27 2 x27_7))), (qv, .inl (gI X.1, 6162, .inl mU)), (qp, .inl (gI X.1, 512, .inl mP)), (qf, .inl (gI X.1, 60, .inl mB)), (qo, .inl (gI X.1, 60, .inl mR))] 0 0 81 [(0, .ref h8), (1, .int p1), (2, .int (mZ 2)), (3, .int x27_3), (4, .int x27_4), (5, .int x27_5), (6, .int x18_6), (7, .int x27_7), (8, .int r45), (9, .int s68_0)] [.int s81_0] := by
                  intro s81_0 hf
                  unfold f_X8_bestOf_J81 at hf
                  refine j_istore_n (lv' := [(3, .int s81_0), (0, .ref h8), (1, .int p1), (2, .int (mZ 2)), (4, .int x27_4), (5, .int x27_5), (6, .int x18_6), (7, .int x27_7), (8, .int r45), (9, .int s68_0)]) C dX8_bestOf_81 rfl (by decide) rfl ?_
                  refine j_iload C dX8_bestOf_82 9 rfl ?_
                  have k94 : ∀ (s94_0 : Int32), f_X8_bestOf_J94 mZ_27 r45 s68_0 s81_0 s94_0 x27_5 x27_7 = some y27 → Jt X [(h8, .inr (8, [.int mT, .ref qz, .ref qv, .int mV, .ref qp, .ref qf, .int mY, .ref qo, .int mO, .int mS, .int mW, .long mH])), (qz, .inl (gI X.1, 1027, .inl (upd mZ_27 2 x27_7))), (qv, .inl (gI X.1, 6162, .inl mU)), (qp, .inl (gI X.1, 512, .inl mP)), (qf, .inl (gI X.1, 60, .inl mB)), (qo, .inl (gI X.1, 60, .inl mR))] 0 0 94 [(0, .ref h8), (1, .int p1), (2, .int (mZ 2)), (3, .int s81_0), (4, .int x27_4), (5, .int x27_5), (6, .int x18_6), (7, .int x27_7), (8, .int r45), (9, .int s68_0)] [.int s94_0] := by
                    intro s94_0 hf
                    unfold f_X8_bestOf_J94 at hf
                    refine j_istore (lv' := [(4, .int s94_0), (0, .ref h8), (1, .int p1), (2, .int (mZ 2)), (3, .int s81_0), (5, .int x27_5), (6, .int x18_6), (7, .int x27_7), (8, .int r45), (9, .int s68_0)]) C dX8_bestOf_94 (by decide) rfl ?_
                    refine j_iload C dX8_bestOf_96 9 rfl ?_
                    have k108 : ∀ (s108_0 : Int32), f_X8_bestOf_J108 mZ_27 s108_0 s81_0 s94_0 x27_7 = some y27 → Jt X [(h8, .inr (8, [.int mT, .ref qz, .ref qv, .int mV, .ref qp, .ref qf, .int mY, .ref qo, .int mO, .int mS, .int mW, .long mH])), (qz, .inl (gI X.1, 1027, .inl (upd mZ_27 2 x27_7))), (qv, .inl (gI X.1, 6162, .inl mU)), (qp, .inl (gI X.1, 512, .inl mP)), (qf, .inl (gI X.1, 60, .inl mB)), (qo, .inl (gI X.1, 60, .inl mR))] 0 0 108 [(0, .ref h8), (1, .int p1), (2, .int (mZ 2)), (3, .int s81_0), (4, .int s94_0), (5, .int x27_5), (6, .int x18_6), (7, .int x27_7), (8, .int r45), (9, .int s68_0)] [.int s108_0] := by
                      intro s108_0 hf
                      unfold f_X8_bestOf_J108 at hf
                      refine j_istore (lv' := [(5, .int s108_0), (0, .ref h8), (1, .int p1), (2, .int (mZ 2)), (3, .int s81_0), (4, .int s94_0), (6, .int x18_6), (7, .int x27_7), (8, .int r45), (9, .int s68_0)]) C dX8_bestOf_108 (by decide) rfl ?_
                      refine j_iinc (v := (x27_7 + 1)) (lv' := [(7, .int (x27_7 + 1)), (5, .int s108_0), (0, .ref h8), (1, .int p1), (2, .int (mZ 2)), (3, .int s81_0), (4, .int s94_0), (6, .int x18_6), (8, .int r45), (9, .int s68_0)]) C dX8_bestOf_110 7 rfl (by first | rfl | decide) (by decide) rfl ?_
                      refine j_goto C (tgt := 27) dX8_bestOf_113 (by decide) ?_
                      obtain rfl := Option.some.inj hf
                      have hf := dz_go_inl hg27
                      refine j_loc [2, 3, 4, 5, 6, 1, 7, 0] rfl ?_
                      exact ih27 s81_0 s94_0 s108_0 (x27_7 + 1) (upd mZ_27 2 x27_7) hf
                    refine j_if_eq C (tgt := 106) dX8_bestOf_98 (by decide) (fun e98 => ?_) (fun e98 => ?_)
                    · have hf := (if_pos e98).symm.trans hf
                      refine j_iload C dX8_bestOf_106 5 rfl ?_
                      refine j_loc [1, 2, 3, 4, 0, 5, 6, 7, 8, 9] rfl ?_
                      exact k108 x27_5 hf
                    · have hf := (if_neg e98).symm.trans hf
                      refine j_iload C dX8_bestOf_101 8 rfl ?_
                      refine j_goto C (tgt := 108) dX8_bestOf_103 (by decide) ?_
                      refine j_loc [1, 2, 3, 4, 0, 5, 6, 7, 8, 9] rfl ?_
                      exact k108 r45 hf
                  refine j_if_eq C (tgt := 92) dX8_bestOf_84 (by decide) (fun e84 => ?_) (fun e84 => ?_)
                  · have hf := (if_pos e84).symm.trans hf
                    refine j_iload C dX8_bestOf_92 4 rfl ?_
                    refine j_loc [1, 2, 3, 0, 4, 5, 6, 7, 8, 9] rfl ?_
                    exact k94 x27_4 hf
                  · have hf := (if_neg e84).symm.trans hf
                    refine j_iload C dX8_bestOf_87 7 rfl ?_
                    refine j_goto C (tgt := 94) dX8_bestOf_89 (by decide) ?_
                    refine j_loc [1, 2, 3, 0, 4, 5, 6, 7, 8, 9] rfl ?_
                    exact k94 x27_7 hf
                refine j_if_eq C (tgt := 80) dX8_bestOf_72 (by decide) (fun e72 => ?_) (fun e72 => ?_)
                · have hf := (if_pos e72).symm.trans hf
                  refine j_iload_n C dX8_bestOf_80 rfl 4 rfl ?_
                  refine j_loc [1, 2, 3, 4, 5, 6, 7, 8, 9, 0] rfl ?_
                  exact k81 x27_3 hf
                · have hf := (if_neg e72).symm.trans hf
                  refine j_iload C dX8_bestOf_75 7 rfl ?_
                  refine j_goto C (tgt := 81) dX8_bestOf_77 (by decide) ?_
                  refine j_loc [1, 2, 3, 4, 5, 6, 7, 8, 9, 0] rfl ?_
                  exact k81 x18_6 hf
              have k63 : f_X8_bestOf_J63 mZ_27 r45 x18_6 x27_3 x27_4 x27_5 x27_7 = some y27 → Jt X [(h8, .inr (8, [.int mT, .ref qz, .ref qv, .int mV, .ref qp, .ref qf, .int mY, .ref qo, .int mO, .int mS, .int mW, .long mH])), (qz, .inl (gI X.1, 1027, .inl (upd mZ_27 2 x27_7))), (qv, .inl (gI X.1, 6162, .inl mU)), (qp, .inl (gI X.1, 512, .inl mP)), (qf, .inl (gI X.1, 60, .inl mB)), (qo, .inl (gI X.1, 60, .inl mR))] 0 0 63 [(0, .ref h8), (1, .int p1), (2, .int (mZ 2)), (3, .int x27_3), (4, .int x27_4), (5, .int x27_5), (6, .int x18_6), (7, .int x27_7), (8, .int r45)] [] := by
                intro  hf
                unfold f_X8_bestOf_J63 at hf
                refine j_iconst C (v := 1) dX8_bestOf_63 (by decide) ?_
                refine j_goto C (tgt := 68) dX8_bestOf_64 (by decide) ?_
                refine j_loc [0, 1, 2, 3, 4, 5, 6, 7, 8] rfl ?_
                exact k68 1 hf
              refine j_icmp_eq C (tgt := 63) dX8_bestOf_53 (by decide) (fun e53 => ?_) (fun e53 => ?_)
              · have hf := (if_pos e53).symm.trans hf
                refine j_loc [1, 2, 3, 4, 5, 6, 7, 8, 0] rfl ?_
                exact k63  hf
              · have hf := (if_neg e53).symm.trans hf
                refine j_iload C dX8_bestOf_56 0 rfl ?_
                refine j_iload C dX8_bestOf_58 6 rfl ?_
                refine j_icmp_ge C (tgt := 67) dX8_bestOf_60 (by decide) (fun e60 => ?_) (fun e60 => ?_)
                · have hf := (if_pos e60).symm.trans hf
                  refine j_iconst C (v := 0) dX8_bestOf_67 (by decide) ?_
                  refine j_loc [1, 2, 3, 4, 5, 6, 7, 8, 0] rfl ?_
                  exact k68 0 hf
                · have hf := (if_neg e60).symm.trans hf
                  refine j_loc [1, 2, 3, 4, 5, 6, 7, 8, 0] rfl ?_
                  exact k63  hf
        refine j_loc [1, 2, 3, 4, 5, 6, 7, 0] rfl ?_
        exact kk27 _ x18_3 x18_4 x18_5 1 mZ_18 hf
  refine j_loc [5, 6, 4, 3, 2, 1, 0] rfl ?_
  exact kk18 _ (-1) (-1) (-1) 0 mZ hf

theorem lk_X8_best_25 : Cond.fieldLink RX8 25 (TX8 0).1 (TX8 0).2.1 (TX8 0).2.2.1 ∈ wsX8_best := by decide +kernel
theorem in_X8_best_8 : ∀ w ∈ wsX80, w ∈ wsX8_best := by decide +kernel
def f_X8_best_J15 (p1 : Int32) (mZ : (Nat → Int32)) (s15_0 : Int32) : Option (Int32 × Int32 × (Nat → Int32)) :=
  if s15_0 ≤ 0 then Option.bind (f_X8_bestOf p1 mZ) (fun r31 => some ((r31.1, s15_0, r31.2))) else some ((0, s15_0, mZ))
def f_X8_best (p1 : Int32) (mZ : (Nat → Int32)) : Option (Int32 × Int32 × (Nat → Int32)) :=
  if (f_X8_in p1 0 2) = 0 then (f_X8_best_J15 p1 mZ 1) else (f_X8_best_J15 p1 mZ 0)
abbrev rm_X8_best : Room := { frames := 10, cells := 0, slots := 0, locals := 231 }
theorem k_X8_best : Cf yX8_best wsX8_best rm_X8_best cX8_best 2 (some .int) 1 := ⟨⟨_, rfl⟩, by decide +kernel, by decide +kernel, by decide +kernel⟩
set_option maxRecDepth 100000 in
set_option maxHeartbeats 4000000 in
theorem b_X8_best (G : CG) (hl : (gL G).stackTraces = false) (h8 : Nat) (qz : Nat) (qv : Nat) (qp : Nat) (qf : Nat) (qo : Nat) (mT : Int32) (mZ : (Nat → Int32)) (mU : (Nat → Int32)) (mV : Int32) (mP : (Nat → Int32)) (mB : (Nat → Int32)) (mY : Int32) (mR : (Nat → Int32)) (mO : Int32) (mS : Int32) (mW : Int32) (mH : Int64) (p1 : Int32) (y : Int32 × Int32 × (Nat → Int32)) (hf : f_X8_best p1 mZ = some y) : Ct G yX8_best wsX8_best rm_X8_best [.ref h8, .int p1] [(h8, .inr (8, [.int mT, .ref qz, .ref qv, .int mV, .ref qp, .ref qf, .int mY, .ref qo, .int mO, .int mS, .int mW, .long mH])), (qz, .inl (gI G, 1027, .inl mZ)), (qv, .inl (gI G, 6162, .inl mU)), (qp, .inl (gI G, 512, .inl mP)), (qf, .inl (gI G, 60, .inl mB)), (qo, .inl (gI G, 60, .inl mR))] (fin1 (some (.int y.1)) [(h8, .inr (8, [.int y.2.1, .ref qz, .ref qv, .int mV, .ref qp, .ref qf, .int mY, .ref qo, .int mO, .int mS, .int mW, .long mH])), (qz, .inl (gI G, 1027, .inl y.2.2)), (qv, .inl (gI G, 6162, .inl mU)), (qp, .inl (gI G, 512, .inl mP)), (qf, .inl (gI G, 60, .inl mB)), (qo, .inl (gI G, 60, .inl mR))]) 0 0 := by
  refine Ct.of (cc := cX8_best) (N := 2) (ret := (some .int)) RX8 (by decide) rfl rfl hl (Nat.le_of_ble_eq_true rfl) (lv := [(0, .ref h8), (1, .int p1)]) rfl (fun X hXG C hex hnm hQ => ?_)
  subst hXG
  unfold f_X8_best at hf
  refine j_aload_n C dX8_best_0 rfl 0 rfl ?_
  refine j_iload_n C dX8_best_1 rfl 1 rfl ?_
  refine j_iconst C (v := 0) dX8_best_2 (by decide) ?_
  refine j_iconst C (v := 2) dX8_best_3 (by decide) ?_
  refine j_cS C (c_X8_in X.1 hl p1 0 2) k_X8_in gX8_best_X8_in (As := [.int p1, .int 0, .int 2]) (rest := [.ref h8]) (st' := [.int (f_X8_in p1 0 2), .ref h8]) (ws' := [(h8, .inr (8, [.int mT, .ref qz, .ref qv, .int mV, .ref qp, .ref qf, .int mY, .ref qo, .int mO, .int mS, .int mW, .long mH])), (qz, .inl (gI X.1, 1027, .inl mZ)), (qv, .inl (gI X.1, 6162, .inl mU)), (qp, .inl (gI X.1, 512, .inl mP)), (qf, .inl (gI X.1, 60, .inl mB)), (qo, .inl (gI X.1, 60, .inl mR))]) rfl rfl dX8_best_4 [] [0, 1, 2, 3, 4, 5] [0, 1, 2, 3, 4, 5] rfl rfl rfl rfl rfl rfl ?_
  have k15 : ∀ (s15_0 : Int32), f_X8_best_J15 p1 mZ s15_0 = some y → Jt X [(h8, .inr (8, [.int mT, .ref qz, .ref qv, .int mV, .ref qp, .ref qf, .int mY, .ref qo, .int mO, .int mS, .int mW, .long mH])), (qz, .inl (gI X.1, 1027, .inl mZ)), (qv, .inl (gI X.1, 6162, .inl mU)), (qp, .inl (gI X.1, 512, .inl mP)), (qf, .inl (gI X.1, 60, .inl mB)), (qo, .inl (gI X.1, 60, .inl mR))] 0 0 15 [(0, .ref h8), (1, .int p1)] [.int s15_0, .ref h8] := by
    intro s15_0 hf
    unfold f_X8_best_J15 at hf
    refine j_put8 (ty := .int) (ws' := [(h8, .inr (8, [.int s15_0, .ref qz, .ref qv, .int mV, .ref qp, .ref qf, .int mY, .ref qo, .int mO, .int mS, .int mW, .long mH])), (qz, .inl (gI X.1, 1027, .inl mZ)), (qv, .inl (gI X.1, 6162, .inl mU)), (qp, .inl (gI X.1, 512, .inl mP)), (qf, .inl (gI X.1, 60, .inl mB)), (qo, .inl (gI X.1, 60, .inl mR))]) C 0 rfl 0 (by decide) in_X8_best_8 lk_X8_best_25 rfl (by decide +kernel) rfl rfl (Nat.le_of_ble_eq_true rfl) rfl dX8_best_15 ?_
    refine j_aload_n C dX8_best_18 rfl 0 rfl ?_
    refine j_get8 C 0 rfl 0 (by decide) in_X8_best_8 lk_X8_best_25 rfl dX8_best_19 ?_
    refine j_if_le C (tgt := 29) dX8_best_22 (by decide) (fun e22 => ?_) (fun e22 => ?_)
    · have hf := (if_pos e22).symm.trans hf
      refine j_aload_n C dX8_best_29 rfl 0 rfl ?_
      refine j_iload_n C dX8_best_30 rfl 1 rfl ?_
      obtain ⟨r31, hc31, hf⟩ := Option.bind_eq_some_iff.mp hf
      refine j_cV C (b_X8_bestOf X.1 hl h8 qz qv qp qf qo s15_0 mZ mU mV mP mB mY mR mO mS mW mH p1 r31 hc31) k_X8_bestOf gX8_best_X8_bestOf rfl (ci := 8) (q0 := 0) rfl rfl (As := [.int p1]) (rest := []) (st' := [.int r31.1]) (ws' := [(h8, .inr (8, [.int s15_0, .ref qz, .ref qv, .int mV, .ref qp, .ref qf, .int mY, .ref qo, .int mO, .int mS, .int mW, .long mH])), (qz, .inl (gI X.1, 1027, .inl r31.2)), (qv, .inl (gI X.1, 6162, .inl mU)), (qp, .inl (gI X.1, 512, .inl mP)), (qf, .inl (gI X.1, 60, .inl mB)), (qo, .inl (gI X.1, 60, .inl mR))]) rfl rfl dX8_best_31 [0, 1, 2, 3, 4, 5] [] [0, 1, 2, 3, 4, 5] rfl rfl rfl rfl rfl rfl ?_
      obtain rfl := Option.some.inj hf
      exact j_iret C hQ rfl dX8_best_34 (Nat.zero_le _) (Nat.zero_le _) ⟨rfl, rfl⟩
    · have hf := (if_neg e22).symm.trans hf
      refine j_iconst C (v := 0) dX8_best_25 (by decide) ?_
      refine j_goto C (tgt := 34) dX8_best_26 (by decide) ?_
      obtain rfl := Option.some.inj hf
      exact j_iret C hQ rfl dX8_best_34 (Nat.zero_le _) (Nat.zero_le _) ⟨rfl, rfl⟩
  refine j_if_eq C (tgt := 14) dX8_best_7 (by decide) (fun e7 => ?_) (fun e7 => ?_)
  · have hf := (if_pos e7).symm.trans hf
    refine j_iconst C (v := 1) dX8_best_14 (by decide) ?_
    refine j_loc [0, 1] rfl ?_
    exact k15 1 hf
  · have hf := (if_neg e7).symm.trans hf
    refine j_iconst C (v := 0) dX8_best_10 (by decide) ?_
    refine j_goto C (tgt := 15) dX8_best_11 (by decide) ?_
    refine j_loc [0, 1] rfl ?_
    exact k15 0 hf

theorem lk_X8_heaviestOf_7 : Cond.fieldLink RX8 7 (TX8 1).1 (TX8 1).2.1 (TX8 1).2.2.1 ∈ wsX8_heaviestOf := by decide +kernel
theorem in_X8_heaviestOf_8 : ∀ w ∈ wsX80, w ∈ wsX8_heaviestOf := by decide +kernel
def f_X8_heaviestOf_J95 (s83_0 : Int32) (s95_0 : Int32) (x7_4 : Int32) : Option ((Int32 × Int32 × Int32) ⊕ (Int32)) :=
  some (.inl (s83_0, s95_0, (x7_4 + 1)))
def f_X8_heaviestOf_J83 (r49 : Int32) (s70_0 : Int32) (s83_0 : Int32) (x7_3 : Int32) (x7_4 : Int32) : Option ((Int32 × Int32 × Int32) ⊕ (Int32)) :=
  if s70_0 = 0 then (f_X8_heaviestOf_J95 s83_0 x7_3 x7_4) else (f_X8_heaviestOf_J95 s83_0 r49 x7_4)
def f_X8_heaviestOf_J70 (r49 : Int32) (s70_0 : Int32) (x7_2 : Int32) (x7_3 : Int32) (x7_4 : Int32) : Option ((Int32 × Int32 × Int32) ⊕ (Int32)) :=
  if s70_0 = 0 then (f_X8_heaviestOf_J83 r49 s70_0 x7_2 x7_3 x7_4) else (f_X8_heaviestOf_J83 r49 s70_0 x7_4 x7_3 x7_4)
def f_X8_heaviestOf_J65 (r49 : Int32) (x7_2 : Int32) (x7_3 : Int32) (x7_4 : Int32) : Option ((Int32 × Int32 × Int32) ⊕ (Int32)) :=
  (f_X8_heaviestOf_J70 r49 1 x7_2 x7_3 x7_4)
def f_X8_heaviestOf_L7 (p1 : Int32) (mZ : (Nat → Int32)) (x7_2 : Int32) (x7_3 : Int32) (x7_4 : Int32) : Option ((Int32 × Int32 × Int32) ⊕ (Int32)) :=
  if (3 * (f_X8_offsets mZ)) ≤ x7_4 then if p1 = 0 then dz_nz (f_X8_offsets mZ) (some (.inr ((x7_2 / (f_X8_offsets mZ))))) else if p1 = 1 then dz_nz (f_X8_offsets mZ) (dz_nz (mZ 0) (some (.inr (((x7_2 - x7_2 / (f_X8_offsets mZ) * (f_X8_offsets mZ)) / (mZ 0)))))) else if p1 = 2 then dz_nz (mZ 0) (some (.inr ((x7_2 - x7_2 / (mZ 0) * (mZ 0))))) else some (.inr ((x7_3 + 10000))) else dz_nz (f_X8_offsets mZ) (dz_nz (f_X8_offsets mZ) (dz_nz (mZ 0) (dz_nz (mZ 0) (Option.bind (f_X8_lineSum (x7_4 / (f_X8_offsets mZ)) ((x7_4 - x7_4 / (f_X8_offsets mZ) * (f_X8_offsets mZ)) / (mZ 0)) (x7_4 - x7_4 / (mZ 0) * (mZ 0)) mZ) (fun r49 => if x7_4 = 0 then (f_X8_heaviestOf_J65 r49 x7_2 x7_3 x7_4) else if r49 ≤ x7_3 then (f_X8_heaviestOf_J70 r49 0 x7_2 x7_3 x7_4) else (f_X8_heaviestOf_J65 r49 x7_2 x7_3 x7_4))))))
def f_X8_heaviestOf (p1 : Int32) (mZ : (Nat → Int32)) : Option (Int32) :=
  dz_it (fun s : Int32 × Int32 × Int32 => f_X8_heaviestOf_L7 p1 mZ s.1 s.2.1 s.2.2) (0, 0, 0)
abbrev rm_X8_heaviestOf : Room := { frames := 5, cells := 0, slots := 0, locals := 110 }
theorem k_X8_heaviestOf : Cf yX8_heaviestOf wsX8_heaviestOf rm_X8_heaviestOf cX8_heaviestOf 7 (some .int) 1 := ⟨⟨_, rfl⟩, by decide +kernel, by decide +kernel, by decide +kernel⟩
set_option maxRecDepth 100000 in
set_option maxHeartbeats 4000000 in
theorem b_X8_heaviestOf (G : CG) (hl : (gL G).stackTraces = false) (h8 : Nat) (qz : Nat) (qv : Nat) (qp : Nat) (qf : Nat) (qo : Nat) (mT : Int32) (mZ : (Nat → Int32)) (mU : (Nat → Int32)) (mV : Int32) (mP : (Nat → Int32)) (mB : (Nat → Int32)) (mY : Int32) (mR : (Nat → Int32)) (mO : Int32) (mS : Int32) (mW : Int32) (mH : Int64) (p1 : Int32) (y : Int32) (hf : f_X8_heaviestOf p1 mZ = some y) : Ct G yX8_heaviestOf wsX8_heaviestOf rm_X8_heaviestOf [.ref h8, .int p1] [(h8, .inr (8, [.int mT, .ref qz, .ref qv, .int mV, .ref qp, .ref qf, .int mY, .ref qo, .int mO, .int mS, .int mW, .long mH])), (qz, .inl (gI G, 1027, .inl mZ)), (qv, .inl (gI G, 6162, .inl mU)), (qp, .inl (gI G, 512, .inl mP)), (qf, .inl (gI G, 60, .inl mB)), (qo, .inl (gI G, 60, .inl mR))] (fin1 (some (.int y)) [(h8, .inr (8, [.int mT, .ref qz, .ref qv, .int mV, .ref qp, .ref qf, .int mY, .ref qo, .int mO, .int mS, .int mW, .long mH])), (qz, .inl (gI G, 1027, .inl mZ)), (qv, .inl (gI G, 6162, .inl mU)), (qp, .inl (gI G, 512, .inl mP)), (qf, .inl (gI G, 60, .inl mB)), (qo, .inl (gI G, 60, .inl mR))]) 0 0 := by
  refine Ct.of (cc := cX8_heaviestOf) (N := 7) (ret := (some .int)) RX8 (by decide) rfl rfl hl (Nat.le_of_ble_eq_true rfl) (lv := [(0, .ref h8), (1, .int p1)]) rfl (fun X hXG C hex hnm hQ => ?_)
  subst hXG
  unfold f_X8_heaviestOf at hf
  refine j_iconst C (v := 0) dX8_heaviestOf_0 (by decide) ?_
  refine j_istore_n (lv' := [(2, .int 0), (0, .ref h8), (1, .int p1)]) C dX8_heaviestOf_1 rfl (by decide) rfl ?_
  refine j_iconst C (v := 0) dX8_heaviestOf_2 (by decide) ?_
  refine j_istore_n (lv' := [(3, .int 0), (2, .int 0), (0, .ref h8), (1, .int p1)]) C dX8_heaviestOf_3 rfl (by decide) rfl ?_
  refine j_iconst C (v := 0) dX8_heaviestOf_4 (by decide) ?_
  refine j_istore (lv' := [(4, .int 0), (3, .int 0), (2, .int 0), (0, .ref h8), (1, .int p1)]) C dX8_heaviestOf_5 (by decide) rfl ?_
  have kk7 : ∀ (n : Nat) (x7_2 : Int32) (x7_3 : Int32) (x7_4 : Int32), dz_iter n (fun s : Int32 × Int32 × Int32 => f_X8_heaviestOf_L7 p1 mZ s.1 s.2.1 s.2.2) (x7_2, x7_3, x7_4) = some y → Jt X [(h8, .inr (8, [.int mT, .ref qz, .ref qv, .int mV, .ref qp, .ref qf, .int mY, .ref qo, .int mO, .int mS, .int mW, .long mH])), (qz, .inl (gI X.1, 1027, .inl mZ)), (qv, .inl (gI X.1, 6162, .inl mU)), (qp, .inl (gI X.1, 512, .inl mP)), (qf, .inl (gI X.1, 60, .inl mB)), (qo, .inl (gI X.1, 60, .inl mR))] 0 0 7 [(0, .ref h8), (1, .int p1), (2, .int x7_2), (3, .int x7_3), (4, .int x7_4)] [] := by
    intro n
    induction n with
    | zero => intro x7_2 x7_3 x7_4 hit; exact absurd hit (by simp [dz_iter])
    | succ n ih7 =>
      intro x7_2 x7_3 x7_4 hit
      obtain ⟨y7, hf, hg7⟩ := dz_iter_succ hit
      replace hf : f_X8_heaviestOf_L7 p1 mZ x7_2 x7_3 x7_4 = some y7 := hf
      unfold f_X8_heaviestOf_L7 at hf
      refine j_iload C dX8_heaviestOf_7 4 rfl ?_
      refine j_iconst C (v := 3) dX8_heaviestOf_9 (by decide) ?_
      refine j_aload_n C dX8_heaviestOf_10 rfl 0 rfl ?_
      refine j_cV C (c_X8_offsets X.1 hl h8 qz qv qp qf qo mT mZ mU mV mP mB mY mR mO mS mW mH) k_X8_offsets gX8_heaviestOf_X8_offsets rfl (ci := 8) (q0 := 0) rfl rfl (As := []) (rest := [.int 3, .int x7_4]) (st' := [.int (f_X8_offsets mZ), .int 3, .int x7_4]) (ws' := [(h8, .inr (8, [.int mT, .ref qz, .ref qv, .int mV, .ref qp, .ref qf, .int mY, .ref qo, .int mO, .int mS, .int mW, .long mH])), (qz, .inl (gI X.1, 1027, .inl mZ)), (qv, .inl (gI X.1, 6162, .inl mU)), (qp, .inl (gI X.1, 512, .inl mP)), (qf, .inl (gI X.1, 60, .inl mB)), (qo, .inl (gI X.1, 60, .inl mR))]) rfl rfl dX8_heaviestOf_11 [0, 1, 2, 3, 4, 5] [] [0, 1, 2, 3, 4, 5] rfl rfl rfl rfl rfl rfl ?_
      refine j_imul C dX8_heaviestOf_14 ?_
      refine j_icmp_ge C (tgt := 102) dX8_heaviestOf_15 (by decide) (fun e15 => ?_) (fun e15 => ?_)
      · have hf := (if_pos e15).symm.trans hf
        refine j_iload_n C dX8_heaviestOf_102 rfl 1 rfl ?_
        refine j_if_ne C (tgt := 115) dX8_heaviestOf_103 (by decide) (fun e103 => ?_) (fun e103 => ?_)
        · have hf := (if_neg e103).symm.trans hf
          refine j_iload_n C dX8_heaviestOf_115 rfl 1 rfl ?_
          refine j_iconst C (v := 1) dX8_heaviestOf_116 (by decide) ?_
          refine j_icmp_ne C (tgt := 136) dX8_heaviestOf_117 (by decide) (fun e117 => ?_) (fun e117 => ?_)
          · have hf := (if_neg e117).symm.trans hf
            refine j_iload_n C dX8_heaviestOf_136 rfl 1 rfl ?_
            refine j_iconst C (v := 2) dX8_heaviestOf_137 (by decide) ?_
            refine j_icmp_ne C (tgt := 152) dX8_heaviestOf_138 (by decide) (fun e138 => ?_) (fun e138 => ?_)
            · have hf := (if_neg e138).symm.trans hf
              refine j_iload_n C dX8_heaviestOf_152 rfl 3 rfl ?_
              refine j_sipush C (v := 10000) dX8_heaviestOf_153 (by decide) ?_
              refine j_iadd C dX8_heaviestOf_156 ?_
              obtain rfl := Option.some.inj hf
              obtain rfl := dz_go_inr hg7
              exact j_iret C hQ rfl dX8_heaviestOf_157 (Nat.zero_le _) (Nat.zero_le _) ⟨rfl, rfl⟩
            · have hf := (if_pos e138).symm.trans hf
              refine j_iload_n C dX8_heaviestOf_141 rfl 2 rfl ?_
              refine j_aload_n C dX8_heaviestOf_142 rfl 0 rfl ?_
              refine j_get8 C 0 rfl 1 (by decide) in_X8_heaviestOf_8 lk_X8_heaviestOf_7 rfl dX8_heaviestOf_143 ?_
              refine j_iconst C (v := 0) dX8_heaviestOf_146 (by decide) ?_
              refine j_iald C 1 rfl (by unfold vp_in; decide) dX8_heaviestOf_147 ?_
              obtain ⟨z148, hf⟩ := dz_nz_some hf
              refine j_irem C dX8_heaviestOf_148 z148 ?_
              refine j_goto C (tgt := 157) dX8_heaviestOf_149 (by decide) ?_
              obtain rfl := Option.some.inj hf
              obtain rfl := dz_go_inr hg7
              exact j_iret C hQ rfl dX8_heaviestOf_157 (Nat.zero_le _) (Nat.zero_le _) ⟨rfl, rfl⟩
          · have hf := (if_pos e117).symm.trans hf
            refine j_iload_n C dX8_heaviestOf_120 rfl 2 rfl ?_
            refine j_aload_n C dX8_heaviestOf_121 rfl 0 rfl ?_
            refine j_cV C (c_X8_offsets X.1 hl h8 qz qv qp qf qo mT mZ mU mV mP mB mY mR mO mS mW mH) k_X8_offsets gX8_heaviestOf_X8_offsets rfl (ci := 8) (q0 := 0) rfl rfl (As := []) (rest := [.int x7_2]) (st' := [.int (f_X8_offsets mZ), .int x7_2]) (ws' := [(h8, .inr (8, [.int mT, .ref qz, .ref qv, .int mV, .ref qp, .ref qf, .int mY, .ref qo, .int mO, .int mS, .int mW, .long mH])), (qz, .inl (gI X.1, 1027, .inl mZ)), (qv, .inl (gI X.1, 6162, .inl mU)), (qp, .inl (gI X.1, 512, .inl mP)), (qf, .inl (gI X.1, 60, .inl mB)), (qo, .inl (gI X.1, 60, .inl mR))]) rfl rfl dX8_heaviestOf_122 [0, 1, 2, 3, 4, 5] [] [0, 1, 2, 3, 4, 5] rfl rfl rfl rfl rfl rfl ?_
            obtain ⟨z125, hf⟩ := dz_nz_some hf
            refine j_irem C dX8_heaviestOf_125 z125 ?_
            refine j_aload_n C dX8_heaviestOf_126 rfl 0 rfl ?_
            refine j_get8 C 0 rfl 1 (by decide) in_X8_heaviestOf_8 lk_X8_heaviestOf_7 rfl dX8_heaviestOf_127 ?_
            refine j_iconst C (v := 0) dX8_heaviestOf_130 (by decide) ?_
            refine j_iald C 1 rfl (by unfold vp_in; decide) dX8_heaviestOf_131 ?_
            obtain ⟨z132, hf⟩ := dz_nz_some hf
            refine j_idiv C dX8_heaviestOf_132 z132 ?_
            refine j_goto C (tgt := 157) dX8_heaviestOf_133 (by decide) ?_
            obtain rfl := Option.some.inj hf
            obtain rfl := dz_go_inr hg7
            exact j_iret C hQ rfl dX8_heaviestOf_157 (Nat.zero_le _) (Nat.zero_le _) ⟨rfl, rfl⟩
        · have hf := (if_pos e103).symm.trans hf
          refine j_iload_n C dX8_heaviestOf_106 rfl 2 rfl ?_
          refine j_aload_n C dX8_heaviestOf_107 rfl 0 rfl ?_
          refine j_cV C (c_X8_offsets X.1 hl h8 qz qv qp qf qo mT mZ mU mV mP mB mY mR mO mS mW mH) k_X8_offsets gX8_heaviestOf_X8_offsets rfl (ci := 8) (q0 := 0) rfl rfl (As := []) (rest := [.int x7_2]) (st' := [.int (f_X8_offsets mZ), .int x7_2]) (ws' := [(h8, .inr (8, [.int mT, .ref qz, .ref qv, .int mV, .ref qp, .ref qf, .int mY, .ref qo, .int mO, .int mS, .int mW, .long mH])), (qz, .inl (gI X.1, 1027, .inl mZ)), (qv, .inl (gI X.1, 6162, .inl mU)), (qp, .inl (gI X.1, 512, .inl mP)), (qf, .inl (gI X.1, 60, .inl mB)), (qo, .inl (gI X.1, 60, .inl mR))]) rfl rfl dX8_heaviestOf_108 [0, 1, 2, 3, 4, 5] [] [0, 1, 2, 3, 4, 5] rfl rfl rfl rfl rfl rfl ?_
          obtain ⟨z111, hf⟩ := dz_nz_some hf
          refine j_idiv C dX8_heaviestOf_111 z111 ?_
          refine j_goto C (tgt := 157) dX8_heaviestOf_112 (by decide) ?_
          obtain rfl := Option.some.inj hf
          obtain rfl := dz_go_inr hg7
          exact j_iret C hQ rfl dX8_heaviestOf_157 (Nat.zero_le _) (Nat.zero_le _) ⟨rfl, rfl⟩
      · have hf := (if_neg e15).symm.trans hf
        refine j_aload_n C dX8_heaviestOf_18 rfl 0 rfl ?_
        refine j_iload C dX8_heaviestOf_19 4 rfl ?_
        refine j_aload_n C dX8_heaviestOf_21 rfl 0 rfl ?_
        refine j_cV C (c_X8_offsets X.1 hl h8 qz qv qp qf qo mT mZ mU mV mP mB mY mR mO mS mW mH) k_X8_offsets gX8_heaviestOf_X8_offsets rfl (ci := 8) (q0 := 0) rfl rfl (As := []) (rest := [.int x7_4, .ref h8]) (st' := [.int (f_X8_offsets mZ), .int x7_4, .ref h8]) (ws' := [(h8, .inr (8, [.int mT, .ref qz, .ref qv, .int mV, .ref qp, .ref qf, .int mY, .ref qo, .int mO, .int mS, .int mW, .long mH])), (qz, .inl (gI X.1, 1027, .inl mZ)), (qv, .inl (gI X.1, 6162, .inl mU)), (qp, .inl (gI X.1, 512, .inl mP)), (qf, .inl (gI X.1, 60, .inl mB)), (qo, .inl (gI X.1, 60, .inl mR))]) rfl rfl dX8_heaviestOf_22 [0, 1, 2, 3, 4, 5] [] [0, 1, 2, 3, 4, 5] rfl rfl rfl rfl rfl rfl ?_
        obtain ⟨z25, hf⟩ := dz_nz_some hf
        refine j_idiv C dX8_heaviestOf_25 z25 ?_
        refine j_iload C dX8_heaviestOf_26 4 rfl ?_
        refine j_aload_n C dX8_heaviestOf_28 rfl 0 rfl ?_
        refine j_cV C (c_X8_offsets X.1 hl h8 qz qv qp qf qo mT mZ mU mV mP mB mY mR mO mS mW mH) k_X8_offsets gX8_heaviestOf_X8_offsets rfl (ci := 8) (q0 := 0) rfl rfl (As := []) (rest := [.int x7_4, .int (x7_4 / (f_X8_offsets mZ)), .ref h8]) (st' := [.int (f_X8_offsets mZ), .int x7_4, .int (x7_4 / (f_X8_offsets mZ)), .ref h8]) (ws' := [(h8, .inr (8, [.int mT, .ref qz, .ref qv, .int mV, .ref qp, .ref qf, .int mY, .ref qo, .int mO, .int mS, .int mW, .long mH])), (qz, .inl (gI X.1, 1027, .inl mZ)), (qv, .inl (gI X.1, 6162, .inl mU)), (qp, .inl (gI X.1, 512, .inl mP)), (qf, .inl (gI X.1, 60, .inl mB)), (qo, .inl (gI X.1, 60, .inl mR))]) rfl rfl dX8_heaviestOf_29 [0, 1, 2, 3, 4, 5] [] [0, 1, 2, 3, 4, 5] rfl rfl rfl rfl rfl rfl ?_
        obtain ⟨z32, hf⟩ := dz_nz_some hf
        refine j_irem C dX8_heaviestOf_32 z32 ?_
        refine j_aload_n C dX8_heaviestOf_33 rfl 0 rfl ?_
        refine j_get8 C 0 rfl 1 (by decide) in_X8_heaviestOf_8 lk_X8_heaviestOf_7 rfl dX8_heaviestOf_34 ?_
        refine j_iconst C (v := 0) dX8_heaviestOf_37 (by decide) ?_
        refine j_iald C 1 rfl (by unfold vp_in; decide) dX8_heaviestOf_38 ?_
        obtain ⟨z39, hf⟩ := dz_nz_some hf
        refine j_idiv C dX8_heaviestOf_39 z39 ?_
        refine j_iload C dX8_heaviestOf_40 4 rfl ?_
        refine j_aload_n C dX8_heaviestOf_42 rfl 0 rfl ?_
        refine j_get8 C 0 rfl 1 (by decide) in_X8_heaviestOf_8 lk_X8_heaviestOf_7 rfl dX8_heaviestOf_43 ?_
        refine j_iconst C (v := 0) dX8_heaviestOf_46 (by decide) ?_
        refine j_iald C 1 rfl (by unfold vp_in; decide) dX8_heaviestOf_47 ?_
        obtain ⟨z48, hf⟩ := dz_nz_some hf
        refine j_irem C dX8_heaviestOf_48 z48 ?_
        obtain ⟨r49, hc49, hf⟩ := Option.bind_eq_some_iff.mp hf
        refine j_cV C (b_X8_lineSum X.1 hl h8 qz qv qp qf qo mT mZ mU mV mP mB mY mR mO mS mW mH (x7_4 / (f_X8_offsets mZ)) ((x7_4 - x7_4 / (f_X8_offsets mZ) * (f_X8_offsets mZ)) / (mZ 0)) (x7_4 - x7_4 / (mZ 0) * (mZ 0)) r49 hc49) k_X8_lineSum gX8_heaviestOf_X8_lineSum rfl (ci := 8) (q0 := 0) rfl rfl (As := [.int (x7_4 / (f_X8_offsets mZ)), .int ((x7_4 - x7_4 / (f_X8_offsets mZ) * (f_X8_offsets mZ)) / (mZ 0)), .int (x7_4 - x7_4 / (mZ 0) * (mZ 0))]) (rest := []) (st' := [.int r49]) (ws' := [(h8, .inr (8, [.int mT, .ref qz, .ref qv, .int mV, .ref qp, .ref qf, .int mY, .ref qo, .int mO, .int mS, .int mW, .long mH])), (qz, .inl (gI X.1, 1027, .inl mZ)), (qv, .inl (gI X.1, 6162, .inl mU)), (qp, .inl (gI X.1, 512, .inl mP)), (qf, .inl (gI X.1, 60, .inl mB)), (qo, .inl (gI X.1, 60, .inl mR))]) rfl rfl dX8_heaviestOf_49 [0, 1, 2, 3, 4, 5] [] [0, 1, 2, 3, 4, 5] rfl rfl rfl rfl rfl rfl ?_
        refine j_istore (lv' := [(5, .int r49), (0, .ref h8), (1, .int p1), (2, .int x7_2), (3, .int x7_3), (4, .int x7_4)]) C dX8_heaviestOf_52 (by decide) rfl ?_
        refine j_iload C dX8_heaviestOf_54 5 rfl ?_
        have k70 : ∀ (s70_0 : Int32), f_X8_heaviestOf_J70 r49 s70_0 x7_2 x7_3 x7_4 = some y7 → Jt X [(h8, .inr (8, [.int mT, .ref qz, .ref qv, .int mV, .ref qp, .ref qf, .int mY, .ref qo, .int mO, .int mS, .int mW, .long mH])), (qz, .inl (gI X.1, 1027, .inl mZ)), (qv, .inl (gI X.1, 6162, .inl mU)), (qp, .inl (gI X.1, 512, .inl mP)), (qf, .inl (gI X.1, 60, .inl mB)), (qo, .inl (gI X.1, 60, .inl mR))] 0 0 70 [(0, .ref h8), (1, .int p1), (2, .int x7_2), (3, .int x7_3), (4, .int x7_4), (5, .int r49)] [.int s70_0] := by
          intro s70_0 hf
          unfold f_X8_heaviestOf_J70 at hf
          refine j_istore (lv' := [(6, .int s70_0), (0, .ref h8), (1, .int p1), (2, .int x7_2), (3, .int x7_3), (4, .int x7_4), (5, .int r49)]) C dX8_heaviestOf_70 (by decide) rfl ?_
          refine j_iload C dX8_heaviestOf_72 0 rfl ?_
          have k83 : ∀ (s83_0 : Int32), f_X8_heaviestOf_J83 r49 s70_0 s83_0 x7_3 x7_4 = some y7 → Jt X [(h8, .inr (8, [.int mT, .ref qz, .ref qv, .int mV, .ref qp, .ref qf, .int mY, .ref qo, .int mO, .int mS, .int mW, .long mH])), (qz, .inl (gI X.1, 1027, .inl mZ)), (qv, .inl (gI X.1, 6162, .inl mU)), (qp, .inl (gI X.1, 512, .inl mP)), (qf, .inl (gI X.1, 60, .inl mB)), (qo, .inl (gI X.1, 60, .inl mR))] 0 0 83 [(0, .ref h8), (1, .int p1), (2, .int x7_2), (3, .int x7_3), (4, .int x7_4), (5, .int r49), (6, .int s70_0)] [.int s83_0] := by
            intro s83_0 hf
            unfold f_X8_heaviestOf_J83 at hf
            refine j_istore_n (lv' := [(2, .int s83_0), (0, .ref h8), (1, .int p1), (3, .int x7_3), (4, .int x7_4), (5, .int r49), (6, .int s70_0)]) C dX8_heaviestOf_83 rfl (by decide) rfl ?_
            refine j_iload C dX8_heaviestOf_84 6 rfl ?_
            have k95 : ∀ (s95_0 : Int32), f_X8_heaviestOf_J95 s83_0 s95_0 x7_4 = some y7 → Jt X [(h8, .inr (8, [.int mT, .ref qz, .ref qv, .int mV, .ref qp, .ref qf, .int mY, .ref qo, .int mO, .int mS, .int mW, .long mH])), (qz, .inl (gI X.1, 1027, .inl mZ)), (qv, .inl (gI X.1, 6162, .inl mU)), (qp, .inl (gI X.1, 512, .inl mP)), (qf, .inl (gI X.1, 60, .inl mB)), (qo, .inl (gI X.1, 60, .inl mR))] 0 0 95 [(0, .ref h8), (1, .int p1), (2, .int s83_0), (3, .int x7_3), (4, .int x7_4), (5, .int r49), (6, .int s70_0)] [.int s95_0] := by
              intro s95_0 hf
              unfold f_X8_heaviestOf_J95 at hf
              refine j_istore_n (lv' := [(3, .int s95_0), (0, .ref h8), (1, .int p1), (2, .int s83_0), (4, .int x7_4), (5, .int r49), (6, .int s70_0)]) C dX8_heaviestOf_95 rfl (by decide) rfl ?_
              refine j_iinc (v := (x7_4 + 1)) (lv' := [(4, .int (x7_4 + 1)), (3, .int s95_0), (0, .ref h8), (1, .int p1), (2, .int s83_0), (5, .int r49), (6, .int s70_0)]) C dX8_heaviestOf_96 4 rfl (by first | rfl | decide) (by decide) rfl ?_
              refine j_goto C (tgt := 7) dX8_heaviestOf_99 (by decide) ?_
              obtain rfl := Option.some.inj hf
              have hf := dz_go_inl hg7
              refine j_loc [2, 3, 4, 1, 0] rfl ?_
              exact ih7 s83_0 s95_0 (x7_4 + 1) hf
            refine j_if_eq C (tgt := 94) dX8_heaviestOf_86 (by decide) (fun e86 => ?_) (fun e86 => ?_)
            · have hf := (if_pos e86).symm.trans hf
              refine j_iload_n C dX8_heaviestOf_94 rfl 3 rfl ?_
              refine j_loc [1, 2, 0, 3, 4, 5, 6] rfl ?_
              exact k95 x7_3 hf
            · have hf := (if_neg e86).symm.trans hf
              refine j_iload C dX8_heaviestOf_89 5 rfl ?_
              refine j_goto C (tgt := 95) dX8_heaviestOf_91 (by decide) ?_
              refine j_loc [1, 2, 0, 3, 4, 5, 6] rfl ?_
              exact k95 r49 hf
          refine j_if_eq C (tgt := 82) dX8_heaviestOf_74 (by decide) (fun e74 => ?_) (fun e74 => ?_)
          · have hf := (if_pos e74).symm.trans hf
            refine j_iload_n C dX8_heaviestOf_82 rfl 3 rfl ?_
            refine j_loc [1, 2, 3, 4, 5, 6, 0] rfl ?_
            exact k83 x7_2 hf
          · have hf := (if_neg e74).symm.trans hf
            refine j_iload C dX8_heaviestOf_77 5 rfl ?_
            refine j_goto C (tgt := 83) dX8_heaviestOf_79 (by decide) ?_
            refine j_loc [1, 2, 3, 4, 5, 6, 0] rfl ?_
            exact k83 x7_4 hf
        have k65 : f_X8_heaviestOf_J65 r49 x7_2 x7_3 x7_4 = some y7 → Jt X [(h8, .inr (8, [.int mT, .ref qz, .ref qv, .int mV, .ref qp, .ref qf, .int mY, .ref qo, .int mO, .int mS, .int mW, .long mH])), (qz, .inl (gI X.1, 1027, .inl mZ)), (qv, .inl (gI X.1, 6162, .inl mU)), (qp, .inl (gI X.1, 512, .inl mP)), (qf, .inl (gI X.1, 60, .inl mB)), (qo, .inl (gI X.1, 60, .inl mR))] 0 0 65 [(0, .ref h8), (1, .int p1), (2, .int x7_2), (3, .int x7_3), (4, .int x7_4), (5, .int r49)] [] := by
          intro  hf
          unfold f_X8_heaviestOf_J65 at hf
          refine j_iconst C (v := 1) dX8_heaviestOf_65 (by decide) ?_
          refine j_goto C (tgt := 70) dX8_heaviestOf_66 (by decide) ?_
          refine j_loc [0, 1, 2, 3, 4, 5] rfl ?_
          exact k70 1 hf
        refine j_if_eq C (tgt := 65) dX8_heaviestOf_56 (by decide) (fun e56 => ?_) (fun e56 => ?_)
        · have hf := (if_pos e56).symm.trans hf
          refine j_loc [1, 2, 3, 4, 5, 0] rfl ?_
          exact k65  hf
        · have hf := (if_neg e56).symm.trans hf
          refine j_iload C dX8_heaviestOf_59 0 rfl ?_
          refine j_iload_n C dX8_heaviestOf_61 rfl 4 rfl ?_
          refine j_icmp_le C (tgt := 69) dX8_heaviestOf_62 (by decide) (fun e62 => ?_) (fun e62 => ?_)
          · have hf := (if_pos e62).symm.trans hf
            refine j_iconst C (v := 0) dX8_heaviestOf_69 (by decide) ?_
            refine j_loc [1, 2, 3, 4, 5, 0] rfl ?_
            exact k70 0 hf
          · have hf := (if_neg e62).symm.trans hf
            refine j_loc [1, 2, 3, 4, 5, 0] rfl ?_
            exact k65  hf
  refine j_loc [3, 4, 2, 1, 0] rfl ?_
  exact kk7 _ 0 0 0 hf

theorem lk_X8_heaviest_25 : Cond.fieldLink RX8 25 (TX8 0).1 (TX8 0).2.1 (TX8 0).2.2.1 ∈ wsX8_heaviest := by decide +kernel
theorem in_X8_heaviest_8 : ∀ w ∈ wsX80, w ∈ wsX8_heaviest := by decide +kernel
def f_X8_heaviest_J15 (p1 : Int32) (mZ : (Nat → Int32)) (s15_0 : Int32) : Option (Int32 × Int32) :=
  if s15_0 ≤ 0 then Option.bind (f_X8_heaviestOf p1 mZ) (fun r31 => some ((r31, s15_0))) else some ((0, s15_0))
def f_X8_heaviest (p1 : Int32) (mZ : (Nat → Int32)) : Option (Int32 × Int32) :=
  if (f_X8_in p1 0 3) = 0 then (f_X8_heaviest_J15 p1 mZ 1) else (f_X8_heaviest_J15 p1 mZ 0)
abbrev rm_X8_heaviest : Room := { frames := 6, cells := 0, slots := 0, locals := 136 }
theorem k_X8_heaviest : Cf yX8_heaviest wsX8_heaviest rm_X8_heaviest cX8_heaviest 2 (some .int) 1 := ⟨⟨_, rfl⟩, by decide +kernel, by decide +kernel, by decide +kernel⟩
set_option maxRecDepth 100000 in
set_option maxHeartbeats 4000000 in
theorem b_X8_heaviest (G : CG) (hl : (gL G).stackTraces = false) (h8 : Nat) (qz : Nat) (qv : Nat) (qp : Nat) (qf : Nat) (qo : Nat) (mT : Int32) (mZ : (Nat → Int32)) (mU : (Nat → Int32)) (mV : Int32) (mP : (Nat → Int32)) (mB : (Nat → Int32)) (mY : Int32) (mR : (Nat → Int32)) (mO : Int32) (mS : Int32) (mW : Int32) (mH : Int64) (p1 : Int32) (y : Int32 × Int32) (hf : f_X8_heaviest p1 mZ = some y) : Ct G yX8_heaviest wsX8_heaviest rm_X8_heaviest [.ref h8, .int p1] [(h8, .inr (8, [.int mT, .ref qz, .ref qv, .int mV, .ref qp, .ref qf, .int mY, .ref qo, .int mO, .int mS, .int mW, .long mH])), (qz, .inl (gI G, 1027, .inl mZ)), (qv, .inl (gI G, 6162, .inl mU)), (qp, .inl (gI G, 512, .inl mP)), (qf, .inl (gI G, 60, .inl mB)), (qo, .inl (gI G, 60, .inl mR))] (fin1 (some (.int y.1)) [(h8, .inr (8, [.int y.2, .ref qz, .ref qv, .int mV, .ref qp, .ref qf, .int mY, .ref qo, .int mO, .int mS, .int mW, .long mH])), (qz, .inl (gI G, 1027, .inl mZ)), (qv, .inl (gI G, 6162, .inl mU)), (qp, .inl (gI G, 512, .inl mP)), (qf, .inl (gI G, 60, .inl mB)), (qo, .inl (gI G, 60, .inl mR))]) 0 0 := by
  refine Ct.of (cc := cX8_heaviest) (N := 2) (ret := (some .int)) RX8 (by decide) rfl rfl hl (Nat.le_of_ble_eq_true rfl) (lv := [(0, .ref h8), (1, .int p1)]) rfl (fun X hXG C hex hnm hQ => ?_)
  subst hXG
  unfold f_X8_heaviest at hf
  refine j_aload_n C dX8_heaviest_0 rfl 0 rfl ?_
  refine j_iload_n C dX8_heaviest_1 rfl 1 rfl ?_
  refine j_iconst C (v := 0) dX8_heaviest_2 (by decide) ?_
  refine j_iconst C (v := 3) dX8_heaviest_3 (by decide) ?_
  refine j_cS C (c_X8_in X.1 hl p1 0 3) k_X8_in gX8_heaviest_X8_in (As := [.int p1, .int 0, .int 3]) (rest := [.ref h8]) (st' := [.int (f_X8_in p1 0 3), .ref h8]) (ws' := [(h8, .inr (8, [.int mT, .ref qz, .ref qv, .int mV, .ref qp, .ref qf, .int mY, .ref qo, .int mO, .int mS, .int mW, .long mH])), (qz, .inl (gI X.1, 1027, .inl mZ)), (qv, .inl (gI X.1, 6162, .inl mU)), (qp, .inl (gI X.1, 512, .inl mP)), (qf, .inl (gI X.1, 60, .inl mB)), (qo, .inl (gI X.1, 60, .inl mR))]) rfl rfl dX8_heaviest_4 [] [0, 1, 2, 3, 4, 5] [0, 1, 2, 3, 4, 5] rfl rfl rfl rfl rfl rfl ?_
  have k15 : ∀ (s15_0 : Int32), f_X8_heaviest_J15 p1 mZ s15_0 = some y → Jt X [(h8, .inr (8, [.int mT, .ref qz, .ref qv, .int mV, .ref qp, .ref qf, .int mY, .ref qo, .int mO, .int mS, .int mW, .long mH])), (qz, .inl (gI X.1, 1027, .inl mZ)), (qv, .inl (gI X.1, 6162, .inl mU)), (qp, .inl (gI X.1, 512, .inl mP)), (qf, .inl (gI X.1, 60, .inl mB)), (qo, .inl (gI X.1, 60, .inl mR))] 0 0 15 [(0, .ref h8), (1, .int p1)] [.int s15_0, .ref h8] := by
    intro s15_0 hf
    unfold f_X8_heaviest_J15 at hf
    refine j_put8 (ty := .int) (ws' := [(h8, .inr (8, [.int s15_0, .ref qz, .ref qv, .int mV, .ref qp, .ref qf, .int mY, .ref qo, .int mO, .int mS, .int mW, .long mH])), (qz, .inl (gI X.1, 1027, .inl mZ)), (qv, .inl (gI X.1, 6162, .inl mU)), (qp, .inl (gI X.1, 512, .inl mP)), (qf, .inl (gI X.1, 60, .inl mB)), (qo, .inl (gI X.1, 60, .inl mR))]) C 0 rfl 0 (by decide) in_X8_heaviest_8 lk_X8_heaviest_25 rfl (by decide +kernel) rfl rfl (Nat.le_of_ble_eq_true rfl) rfl dX8_heaviest_15 ?_
    refine j_aload_n C dX8_heaviest_18 rfl 0 rfl ?_
    refine j_get8 C 0 rfl 0 (by decide) in_X8_heaviest_8 lk_X8_heaviest_25 rfl dX8_heaviest_19 ?_
    refine j_if_le C (tgt := 29) dX8_heaviest_22 (by decide) (fun e22 => ?_) (fun e22 => ?_)
    · have hf := (if_pos e22).symm.trans hf
      refine j_aload_n C dX8_heaviest_29 rfl 0 rfl ?_
      refine j_iload_n C dX8_heaviest_30 rfl 1 rfl ?_
      obtain ⟨r31, hc31, hf⟩ := Option.bind_eq_some_iff.mp hf
      refine j_cV C (b_X8_heaviestOf X.1 hl h8 qz qv qp qf qo s15_0 mZ mU mV mP mB mY mR mO mS mW mH p1 r31 hc31) k_X8_heaviestOf gX8_heaviest_X8_heaviestOf rfl (ci := 8) (q0 := 0) rfl rfl (As := [.int p1]) (rest := []) (st' := [.int r31]) (ws' := [(h8, .inr (8, [.int s15_0, .ref qz, .ref qv, .int mV, .ref qp, .ref qf, .int mY, .ref qo, .int mO, .int mS, .int mW, .long mH])), (qz, .inl (gI X.1, 1027, .inl mZ)), (qv, .inl (gI X.1, 6162, .inl mU)), (qp, .inl (gI X.1, 512, .inl mP)), (qf, .inl (gI X.1, 60, .inl mB)), (qo, .inl (gI X.1, 60, .inl mR))]) rfl rfl dX8_heaviest_31 [0, 1, 2, 3, 4, 5] [] [0, 1, 2, 3, 4, 5] rfl rfl rfl rfl rfl rfl ?_
      obtain rfl := Option.some.inj hf
      exact j_iret C hQ rfl dX8_heaviest_34 (Nat.zero_le _) (Nat.zero_le _) ⟨rfl, rfl⟩
    · have hf := (if_neg e22).symm.trans hf
      refine j_iconst C (v := 0) dX8_heaviest_25 (by decide) ?_
      refine j_goto C (tgt := 34) dX8_heaviest_26 (by decide) ?_
      obtain rfl := Option.some.inj hf
      exact j_iret C hQ rfl dX8_heaviest_34 (Nat.zero_le _) (Nat.zero_le _) ⟨rfl, rfl⟩
  refine j_if_eq C (tgt := 14) dX8_heaviest_7 (by decide) (fun e7 => ?_) (fun e7 => ?_)
  · have hf := (if_pos e7).symm.trans hf
    refine j_iconst C (v := 1) dX8_heaviest_14 (by decide) ?_
    refine j_loc [0, 1] rfl ?_
    exact k15 1 hf
  · have hf := (if_neg e7).symm.trans hf
    refine j_iconst C (v := 0) dX8_heaviest_10 (by decide) ?_
    refine j_goto C (tgt := 15) dX8_heaviest_11 (by decide) ?_
    refine j_loc [0, 1] rfl ?_
    exact k15 0 hf

theorem lk_X8_share_7 : Cond.fieldLink RX8 7 (TX8 1).1 (TX8 1).2.1 (TX8 1).2.2.1 ∈ wsX8_share := by decide +kernel
theorem in_X8_share_8 : ∀ w ∈ wsX80, w ∈ wsX8_share := by decide +kernel
def f_X8_share (mZ : (Nat → Int32)) : Option (UInt64) :=
  Option.bind (f_X8_room mZ) (fun r1 => dz_nn (FP.ddiv (FP.i2d r1) (FP.i2d ((mZ 0) * (1 + (f_X8_offsets mZ))))) (some ((FP.ddiv (FP.i2d r1) (FP.i2d ((mZ 0) * (1 + (f_X8_offsets mZ))))))))
abbrev rm_X8_share : Room := { frames := 10, cells := 0, slots := 0, locals := 222 }
theorem k_X8_share : Cf yX8_share wsX8_share rm_X8_share cX8_share 1 (some .double) 0 := ⟨⟨_, rfl⟩, by decide +kernel, by decide +kernel, by decide +kernel⟩
set_option maxRecDepth 100000 in
set_option maxHeartbeats 4000000 in
theorem b_X8_share (G : CG) (hl : (gL G).stackTraces = false) (h8 : Nat) (qz : Nat) (qv : Nat) (qp : Nat) (qf : Nat) (qo : Nat) (mT : Int32) (mZ : (Nat → Int32)) (mU : (Nat → Int32)) (mV : Int32) (mP : (Nat → Int32)) (mB : (Nat → Int32)) (mY : Int32) (mR : (Nat → Int32)) (mO : Int32) (mS : Int32) (mW : Int32) (mH : Int64) (y : UInt64) (hf : f_X8_share mZ = some y) : Ct G yX8_share wsX8_share rm_X8_share [.ref h8] [(h8, .inr (8, [.int mT, .ref qz, .ref qv, .int mV, .ref qp, .ref qf, .int mY, .ref qo, .int mO, .int mS, .int mW, .long mH])), (qz, .inl (gI G, 1027, .inl mZ)), (qv, .inl (gI G, 6162, .inl mU)), (qp, .inl (gI G, 512, .inl mP)), (qf, .inl (gI G, 60, .inl mB)), (qo, .inl (gI G, 60, .inl mR))] (fin1 (some (.double y)) [(h8, .inr (8, [.int mT, .ref qz, .ref qv, .int mV, .ref qp, .ref qf, .int mY, .ref qo, .int mO, .int mS, .int mW, .long mH])), (qz, .inl (gI G, 1027, .inl mZ)), (qv, .inl (gI G, 6162, .inl mU)), (qp, .inl (gI G, 512, .inl mP)), (qf, .inl (gI G, 60, .inl mB)), (qo, .inl (gI G, 60, .inl mR))]) 0 0 := by
  refine Ct.of (cc := cX8_share) (N := 1) (ret := (some .double)) RX8 (by decide) rfl rfl hl (Nat.le_of_ble_eq_true rfl) (lv := [(0, .ref h8)]) rfl (fun X hXG C hex hnm hQ => ?_)
  subst hXG
  unfold f_X8_share at hf
  refine j_aload_n C dX8_share_0 rfl 0 rfl ?_
  obtain ⟨r1, hc1, hf⟩ := Option.bind_eq_some_iff.mp hf
  refine j_cV C (b_X8_room X.1 hl h8 qz qv qp qf qo mT mZ mU mV mP mB mY mR mO mS mW mH r1 hc1) k_X8_room gX8_share_X8_room rfl (ci := 8) (q0 := 0) rfl rfl (As := []) (rest := []) (st' := [.int r1]) (ws' := [(h8, .inr (8, [.int mT, .ref qz, .ref qv, .int mV, .ref qp, .ref qf, .int mY, .ref qo, .int mO, .int mS, .int mW, .long mH])), (qz, .inl (gI X.1, 1027, .inl mZ)), (qv, .inl (gI X.1, 6162, .inl mU)), (qp, .inl (gI X.1, 512, .inl mP)), (qf, .inl (gI X.1, 60, .inl mB)), (qo, .inl (gI X.1, 60, .inl mR))]) rfl rfl dX8_share_1 [0, 1, 2, 3, 4, 5] [] [0, 1, 2, 3, 4, 5] rfl rfl rfl rfl rfl rfl ?_
  refine j_i2d C dX8_share_4 ?_
  refine j_aload_n C dX8_share_5 rfl 0 rfl ?_
  refine j_get8 C 0 rfl 1 (by decide) in_X8_share_8 lk_X8_share_7 rfl dX8_share_6 ?_
  refine j_iconst C (v := 0) dX8_share_9 (by decide) ?_
  refine j_iald C 1 rfl (by unfold vp_in; decide) dX8_share_10 ?_
  refine j_iconst C (v := 1) dX8_share_11 (by decide) ?_
  refine j_aload_n C dX8_share_12 rfl 0 rfl ?_
  refine j_cV C (c_X8_offsets X.1 hl h8 qz qv qp qf qo mT mZ mU mV mP mB mY mR mO mS mW mH) k_X8_offsets gX8_share_X8_offsets rfl (ci := 8) (q0 := 0) rfl rfl (As := []) (rest := [.int 1, .int (mZ 0), .double (FP.i2d r1)]) (st' := [.int (f_X8_offsets mZ), .int 1, .int (mZ 0), .double (FP.i2d r1)]) (ws' := [(h8, .inr (8, [.int mT, .ref qz, .ref qv, .int mV, .ref qp, .ref qf, .int mY, .ref qo, .int mO, .int mS, .int mW, .long mH])), (qz, .inl (gI X.1, 1027, .inl mZ)), (qv, .inl (gI X.1, 6162, .inl mU)), (qp, .inl (gI X.1, 512, .inl mP)), (qf, .inl (gI X.1, 60, .inl mB)), (qo, .inl (gI X.1, 60, .inl mR))]) rfl rfl dX8_share_13 [0, 1, 2, 3, 4, 5] [] [0, 1, 2, 3, 4, 5] rfl rfl rfl rfl rfl rfl ?_
  refine j_iadd C dX8_share_16 ?_
  refine j_imul C dX8_share_17 ?_
  refine j_i2d C dX8_share_18 ?_
  obtain ⟨z19, hf⟩ := dz_nn_some hf
  refine j_ddiv C dX8_share_19 z19 ?_
  obtain rfl := Option.some.inj hf
  exact j_dret C hQ rfl dX8_share_20 (Nat.zero_le _) (Nat.zero_le _) ⟨rfl, rfl⟩

theorem lk_X8_roomShare_25 : Cond.fieldLink RX8 25 (TX8 0).1 (TX8 0).2.1 (TX8 0).2.2.1 ∈ wsX8_roomShare := by decide +kernel
theorem in_X8_roomShare_8 : ∀ w ∈ wsX80, w ∈ wsX8_roomShare := by decide +kernel
def f_X8_roomShare (mZ : (Nat → Int32)) : Option (UInt64 × Int32) :=
  Option.bind (f_X8_share mZ) (fun r6 => some ((r6, 0)))
abbrev rm_X8_roomShare : Room := { frames := 11, cells := 0, slots := 0, locals := 242 }
theorem k_X8_roomShare : Cf yX8_roomShare wsX8_roomShare rm_X8_roomShare cX8_roomShare 1 (some .double) 0 := ⟨⟨_, rfl⟩, by decide +kernel, by decide +kernel, by decide +kernel⟩
set_option maxRecDepth 100000 in
set_option maxHeartbeats 4000000 in
theorem b_X8_roomShare (G : CG) (hl : (gL G).stackTraces = false) (h8 : Nat) (qz : Nat) (qv : Nat) (qp : Nat) (qf : Nat) (qo : Nat) (mT : Int32) (mZ : (Nat → Int32)) (mU : (Nat → Int32)) (mV : Int32) (mP : (Nat → Int32)) (mB : (Nat → Int32)) (mY : Int32) (mR : (Nat → Int32)) (mO : Int32) (mS : Int32) (mW : Int32) (mH : Int64) (y : UInt64 × Int32) (hf : f_X8_roomShare mZ = some y) : Ct G yX8_roomShare wsX8_roomShare rm_X8_roomShare [.ref h8] [(h8, .inr (8, [.int mT, .ref qz, .ref qv, .int mV, .ref qp, .ref qf, .int mY, .ref qo, .int mO, .int mS, .int mW, .long mH])), (qz, .inl (gI G, 1027, .inl mZ)), (qv, .inl (gI G, 6162, .inl mU)), (qp, .inl (gI G, 512, .inl mP)), (qf, .inl (gI G, 60, .inl mB)), (qo, .inl (gI G, 60, .inl mR))] (fin1 (some (.double y.1)) [(h8, .inr (8, [.int y.2, .ref qz, .ref qv, .int mV, .ref qp, .ref qf, .int mY, .ref qo, .int mO, .int mS, .int mW, .long mH])), (qz, .inl (gI G, 1027, .inl mZ)), (qv, .inl (gI G, 6162, .inl mU)), (qp, .inl (gI G, 512, .inl mP)), (qf, .inl (gI G, 60, .inl mB)), (qo, .inl (gI G, 60, .inl mR))]) 0 0 := by
  refine Ct.of (cc := cX8_roomShare) (N := 1) (ret := (some .double)) RX8 (by decide) rfl rfl hl (Nat.le_of_ble_eq_true rfl) (lv := [(0, .ref h8)]) rfl (fun X hXG C hex hnm hQ => ?_)
  subst hXG
  unfold f_X8_roomShare at hf
  refine j_aload_n C dX8_roomShare_0 rfl 0 rfl ?_
  refine j_iconst C (v := 0) dX8_roomShare_1 (by decide) ?_
  refine j_put8 (ty := .int) (ws' := [(h8, .inr (8, [.int 0, .ref qz, .ref qv, .int mV, .ref qp, .ref qf, .int mY, .ref qo, .int mO, .int mS, .int mW, .long mH])), (qz, .inl (gI X.1, 1027, .inl mZ)), (qv, .inl (gI X.1, 6162, .inl mU)), (qp, .inl (gI X.1, 512, .inl mP)), (qf, .inl (gI X.1, 60, .inl mB)), (qo, .inl (gI X.1, 60, .inl mR))]) C 0 rfl 0 (by decide) in_X8_roomShare_8 lk_X8_roomShare_25 rfl (by decide +kernel) rfl rfl (Nat.le_of_ble_eq_true rfl) rfl dX8_roomShare_2 ?_
  refine j_aload_n C dX8_roomShare_5 rfl 0 rfl ?_
  obtain ⟨r6, hc6, hf⟩ := Option.bind_eq_some_iff.mp hf
  refine j_cV C (b_X8_share X.1 hl h8 qz qv qp qf qo 0 mZ mU mV mP mB mY mR mO mS mW mH r6 hc6) k_X8_share gX8_roomShare_X8_share rfl (ci := 8) (q0 := 0) rfl rfl (As := []) (rest := []) (st' := [.double r6]) (ws' := [(h8, .inr (8, [.int 0, .ref qz, .ref qv, .int mV, .ref qp, .ref qf, .int mY, .ref qo, .int mO, .int mS, .int mW, .long mH])), (qz, .inl (gI X.1, 1027, .inl mZ)), (qv, .inl (gI X.1, 6162, .inl mU)), (qp, .inl (gI X.1, 512, .inl mP)), (qf, .inl (gI X.1, 60, .inl mB)), (qo, .inl (gI X.1, 60, .inl mR))]) rfl rfl dX8_roomShare_6 [0, 1, 2, 3, 4, 5] [] [0, 1, 2, 3, 4, 5] rfl rfl rfl rfl rfl rfl ?_
  obtain rfl := Option.some.inj hf
  exact j_dret C hQ rfl dX8_roomShare_9 (Nat.zero_le _) (Nat.zero_le _) ⟨rfl, rfl⟩

theorem wd_X8_bitsOf_k191 : Cond.constantLong RX8 191 1023 ∈ wsX8_bitsOf := by decide +kernel
theorem wd_X8_bitsOf_k193 : Cond.constantDouble RX8 193 4611686018427387904 ∈ wsX8_bitsOf := by decide +kernel
theorem wd_X8_bitsOf_k195 : Cond.constantDouble RX8 195 4841369599423283200 ∈ wsX8_bitsOf := by decide +kernel
theorem wd_X8_bitsOf_k197 : Cond.constantLong RX8 197 4503599627370496 ∈ wsX8_bitsOf := by decide +kernel
def f_X8_bitsOf_L38 (x38_2 : UInt64) (x38_4 : Int64) : Option ((UInt64 × Int64) ⊕ ((UInt64 × Int64) ⊕ (Int64))) :=
  if 0 ≤ (Op.cmpValue (FP.dcmp x38_2 FP.dconst1) .g) then dz_nn (FP.dmul x38_2 4841369599423283200) (some (.inr (.inr ((((x38_4 <<< ((52 : Int32).toInt64 &&& 63)) + (FP.d2l (FP.dmul x38_2 4841369599423283200))) - 4503599627370496))))) else dz_nn (FP.dmul x38_2 4611686018427387904) (some (.inl ((FP.dmul x38_2 4611686018427387904), (x38_4 - 1))))
def f_X8_bitsOf_L15 (x15_2 : UInt64) (x15_4 : Int64) : Option ((UInt64 × Int64) ⊕ (Int64)) :=
  if (Op.cmpValue (FP.dcmp x15_2 4611686018427387904) .l) < 0 then dz_it (fun s : UInt64 × Int64 => f_X8_bitsOf_L38 s.1 s.2) (x15_2, x15_4) else dz_nn (FP.ddiv x15_2 4611686018427387904) (some (.inl ((FP.ddiv x15_2 4611686018427387904), (x15_4 + 1))))
def f_X8_bitsOf (p1 : UInt64) : Option (Int64) :=
  if (Op.cmpValue (FP.dcmp p1 FP.dconst0) .l) = 0 then some (0) else dz_it (fun s : UInt64 × Int64 => f_X8_bitsOf_L15 s.1 s.2) (p1, 1023)
abbrev rm_X8_bitsOf : Room := { frames := 1, cells := 0, slots := 0, locals := 16 }
theorem k_X8_bitsOf : Cf yX8_bitsOf wsX8_bitsOf rm_X8_bitsOf cX8_bitsOf 6 (some .long) 1 := ⟨⟨_, rfl⟩, by decide +kernel, by decide +kernel, by decide +kernel⟩
set_option maxRecDepth 100000 in
set_option maxHeartbeats 4000000 in
theorem b_X8_bitsOf (G : CG) (hl : (gL G).stackTraces = false) (p1 : UInt64) (y : Int64) (hf : f_X8_bitsOf p1 = some y) : Ct G yX8_bitsOf wsX8_bitsOf rm_X8_bitsOf [.double p1] [] (fin1 (some (.long y)) []) 0 0 := by
  refine Ct.of (cc := cX8_bitsOf) (N := 6) (ret := (some .long)) RX8 (by decide) rfl rfl hl (Nat.le_of_ble_eq_true rfl) (lv := [(0, .double p1)]) rfl (fun X hXG C hex hnm hQ => ?_)
  subst hXG
  unfold f_X8_bitsOf at hf
  refine j_dload_n C dX8_bitsOf_0 rfl 0 rfl ?_
  refine j_dconst0 C dX8_bitsOf_1 ?_
  refine j_dcmp C dX8_bitsOf_2 ?_
  refine j_if_ne C (tgt := 8) dX8_bitsOf_3 (by decide) (fun e3 => ?_) (fun e3 => ?_)
  · have hf := (if_neg e3).symm.trans hf
    refine j_dload_n C dX8_bitsOf_8 rfl 0 rfl ?_
    refine j_dstore_n (lv' := [(2, .double p1), (0, .double p1)]) C dX8_bitsOf_9 rfl (by decide) rfl ?_
    refine j_ldc2 C (v := 1023) dX8_bitsOf_10 wd_X8_bitsOf_k191 ?_
    refine j_lstore (lv' := [(4, .long 1023), (2, .double p1), (0, .double p1)]) C dX8_bitsOf_13 (by decide) rfl ?_
    have kk15 : ∀ (n : Nat) (x15_2 : UInt64) (x15_4 : Int64), dz_iter n (fun s : UInt64 × Int64 => f_X8_bitsOf_L15 s.1 s.2) (x15_2, x15_4) = some y → Jt X [] 0 0 15 [(0, .double p1), (2, .double x15_2), (4, .long x15_4)] [] := by
      intro n
      induction n with
      | zero => intro x15_2 x15_4 hit; exact absurd hit (by simp [dz_iter])
      | succ n ih15 =>
        intro x15_2 x15_4 hit
        obtain ⟨y15, hf, hg15⟩ := dz_iter_succ hit
        replace hf : f_X8_bitsOf_L15 x15_2 x15_4 = some y15 := hf
        unfold f_X8_bitsOf_L15 at hf
        refine j_dload_n C dX8_bitsOf_15 rfl 1 rfl ?_
        refine j_ldc2d C (v := 4611686018427387904) dX8_bitsOf_16 wd_X8_bitsOf_k193 ?_
        refine j_dcmp C dX8_bitsOf_19 ?_
        refine j_if_lt C (tgt := 38) dX8_bitsOf_20 (by decide) (fun e20 => ?_) (fun e20 => ?_)
        · have hf := (if_pos e20).symm.trans hf
          have kk38 : ∀ (n : Nat) (x38_2 : UInt64) (x38_4 : Int64), dz_iter n (fun s : UInt64 × Int64 => f_X8_bitsOf_L38 s.1 s.2) (x38_2, x38_4) = some y15 → Jt X [] 0 0 38 [(0, .double p1), (2, .double x38_2), (4, .long x38_4)] [] := by
            intro n
            induction n with
            | zero => intro x38_2 x38_4 hit; exact absurd hit (by simp [dz_iter])
            | succ n ih38 =>
              intro x38_2 x38_4 hit
              obtain ⟨y38, hf, hg38⟩ := dz_iter_succ hit
              replace hf : f_X8_bitsOf_L38 x38_2 x38_4 = some y38 := hf
              unfold f_X8_bitsOf_L38 at hf
              refine j_dload_n C dX8_bitsOf_38 rfl 1 rfl ?_
              refine j_dconst1 C dX8_bitsOf_39 ?_
              refine j_dcmp C dX8_bitsOf_40 ?_
              refine j_if_ge C (tgt := 59) dX8_bitsOf_41 (by decide) (fun e41 => ?_) (fun e41 => ?_)
              · have hf := (if_pos e41).symm.trans hf
                refine j_lload C dX8_bitsOf_59 2 rfl ?_
                refine j_bipush C (v := 52) dX8_bitsOf_61 (by decide) ?_
                refine j_lshl C dX8_bitsOf_63 ?_
                refine j_dload_n C dX8_bitsOf_64 rfl 1 rfl ?_
                refine j_ldc2d C (v := 4841369599423283200) dX8_bitsOf_65 wd_X8_bitsOf_k195 ?_
                obtain ⟨z68, hf⟩ := dz_nn_some hf
                refine j_dmul C dX8_bitsOf_68 z68 ?_
                refine j_d2l C dX8_bitsOf_69 ?_
                refine j_ladd C dX8_bitsOf_70 ?_
                refine j_ldc2 C (v := 4503599627370496) dX8_bitsOf_71 wd_X8_bitsOf_k197 ?_
                refine j_lsub C dX8_bitsOf_74 ?_
                obtain rfl := Option.some.inj hf
                obtain rfl := dz_go_inr hg38
                obtain rfl := dz_go_inr hg15
                exact j_lret C hQ rfl dX8_bitsOf_75 (Nat.zero_le _) (Nat.zero_le _) ⟨rfl, rfl⟩
              · have hf := (if_neg e41).symm.trans hf
                refine j_dload_n C dX8_bitsOf_44 rfl 1 rfl ?_
                refine j_ldc2d C (v := 4611686018427387904) dX8_bitsOf_45 wd_X8_bitsOf_k193 ?_
                obtain ⟨z48, hf⟩ := dz_nn_some hf
                refine j_dmul C dX8_bitsOf_48 z48 ?_
                refine j_dstore_n (lv' := [(2, .double (FP.dmul x38_2 4611686018427387904)), (0, .double p1), (4, .long x38_4)]) C dX8_bitsOf_49 rfl (by decide) rfl ?_
                refine j_lload C dX8_bitsOf_50 2 rfl ?_
                refine j_lconst C (v := 1) dX8_bitsOf_52 (by decide) ?_
                refine j_lsub C dX8_bitsOf_53 ?_
                refine j_lstore (lv' := [(4, .long (x38_4 - 1)), (2, .double (FP.dmul x38_2 4611686018427387904)), (0, .double p1)]) C dX8_bitsOf_54 (by decide) rfl ?_
                refine j_goto C (tgt := 38) dX8_bitsOf_56 (by decide) ?_
                obtain rfl := Option.some.inj hf
                have hf := dz_go_inl hg38
                refine j_loc [2, 1, 0] rfl ?_
                exact ih38 (FP.dmul x38_2 4611686018427387904) (x38_4 - 1) hf
          refine j_loc [0, 1, 2] rfl ?_
          exact kk38 _ x15_2 x15_4 hf
        · have hf := (if_neg e20).symm.trans hf
          refine j_dload_n C dX8_bitsOf_23 rfl 1 rfl ?_
          refine j_ldc2d C (v := 4611686018427387904) dX8_bitsOf_24 wd_X8_bitsOf_k193 ?_
          obtain ⟨z27, hf⟩ := dz_nn_some hf
          refine j_ddiv C dX8_bitsOf_27 z27 ?_
          refine j_dstore_n (lv' := [(2, .double (FP.ddiv x15_2 4611686018427387904)), (0, .double p1), (4, .long x15_4)]) C dX8_bitsOf_28 rfl (by decide) rfl ?_
          refine j_lload C dX8_bitsOf_29 2 rfl ?_
          refine j_lconst C (v := 1) dX8_bitsOf_31 (by decide) ?_
          refine j_ladd C dX8_bitsOf_32 ?_
          refine j_lstore (lv' := [(4, .long (x15_4 + 1)), (2, .double (FP.ddiv x15_2 4611686018427387904)), (0, .double p1)]) C dX8_bitsOf_33 (by decide) rfl ?_
          refine j_goto C (tgt := 15) dX8_bitsOf_35 (by decide) ?_
          obtain rfl := Option.some.inj hf
          have hf := dz_go_inl hg15
          refine j_loc [2, 1, 0] rfl ?_
          exact ih15 (FP.ddiv x15_2 4611686018427387904) (x15_4 + 1) hf
    refine j_loc [2, 1, 0] rfl ?_
    exact kk15 _ p1 1023 hf
  · have hf := (if_pos e3).symm.trans hf
    refine j_lconst C (v := 0) dX8_bitsOf_6 (by decide) ?_
    obtain rfl := Option.some.inj hf
    exact j_lret C hQ rfl dX8_bitsOf_7 (Nat.zero_le _) (Nat.zero_le _) ⟨rfl, rfl⟩

theorem wd_X8_mix_k199 : Cond.constantLong RX8 199 31 ∈ wsX8_mix := by decide +kernel
theorem lk_X8_mix_201 : Cond.fieldLink RX8 201 (TX8 11).1 (TX8 11).2.1 (TX8 11).2.2.1 ∈ wsX8_mix := by decide +kernel
theorem in_X8_mix_8 : ∀ w ∈ wsX80, w ∈ wsX8_mix := by decide +kernel
def f_X8_mix (p1 : Int64) (mH : Int64) : Int64 :=
  ((31 * mH) + p1)
abbrev rm_X8_mix : Room := { frames := 1, cells := 0, slots := 0, locals := 16 }
theorem k_X8_mix : Cf yX8_mix wsX8_mix rm_X8_mix cX8_mix 3 none 1 := ⟨⟨_, rfl⟩, by decide +kernel, by decide +kernel, by decide +kernel⟩
set_option maxRecDepth 100000 in
set_option maxHeartbeats 4000000 in
theorem b_X8_mix (G : CG) (hl : (gL G).stackTraces = false) (h8 : Nat) (qz : Nat) (qv : Nat) (qp : Nat) (qf : Nat) (qo : Nat) (mT : Int32) (mZ : (Nat → Int32)) (mU : (Nat → Int32)) (mV : Int32) (mP : (Nat → Int32)) (mB : (Nat → Int32)) (mY : Int32) (mR : (Nat → Int32)) (mO : Int32) (mS : Int32) (mW : Int32) (mH : Int64) (p1 : Int64) (y : Int64) (hf : f_X8_mix p1 mH = y) : Ct G yX8_mix wsX8_mix rm_X8_mix [.ref h8, .long p1] [(h8, .inr (8, [.int mT, .ref qz, .ref qv, .int mV, .ref qp, .ref qf, .int mY, .ref qo, .int mO, .int mS, .int mW, .long mH])), (qz, .inl (gI G, 1027, .inl mZ)), (qv, .inl (gI G, 6162, .inl mU)), (qp, .inl (gI G, 512, .inl mP)), (qf, .inl (gI G, 60, .inl mB)), (qo, .inl (gI G, 60, .inl mR))] (fin1 none [(h8, .inr (8, [.int mT, .ref qz, .ref qv, .int mV, .ref qp, .ref qf, .int mY, .ref qo, .int mO, .int mS, .int mW, .long y])), (qz, .inl (gI G, 1027, .inl mZ)), (qv, .inl (gI G, 6162, .inl mU)), (qp, .inl (gI G, 512, .inl mP)), (qf, .inl (gI G, 60, .inl mB)), (qo, .inl (gI G, 60, .inl mR))]) 0 0 := by
  refine Ct.of (cc := cX8_mix) (N := 3) (ret := none) RX8 (by decide) rfl rfl hl (Nat.le_of_ble_eq_true rfl) (lv := [(0, .ref h8), (1, .long p1)]) rfl (fun X hXG C hex hnm hQ => ?_)
  subst hXG
  unfold f_X8_mix at hf
  refine j_aload_n C dX8_mix_0 rfl 0 rfl ?_
  refine j_ldc2 C (v := 31) dX8_mix_1 wd_X8_mix_k199 ?_
  refine j_aload_n C dX8_mix_4 rfl 0 rfl ?_
  refine j_get8 C 0 rfl 11 (by decide) in_X8_mix_8 lk_X8_mix_201 rfl dX8_mix_5 ?_
  refine j_lmul C dX8_mix_8 ?_
  refine j_lload_n C dX8_mix_9 rfl 1 rfl ?_
  refine j_ladd C dX8_mix_10 ?_
  refine j_put8 (ty := .long) (ws' := [(h8, .inr (8, [.int mT, .ref qz, .ref qv, .int mV, .ref qp, .ref qf, .int mY, .ref qo, .int mO, .int mS, .int mW, .long ((31 * mH) + p1)])), (qz, .inl (gI X.1, 1027, .inl mZ)), (qv, .inl (gI X.1, 6162, .inl mU)), (qp, .inl (gI X.1, 512, .inl mP)), (qf, .inl (gI X.1, 60, .inl mB)), (qo, .inl (gI X.1, 60, .inl mR))]) C 0 rfl 11 (by decide) in_X8_mix_8 lk_X8_mix_201 rfl (by decide +kernel) rfl rfl (Nat.le_of_ble_eq_true rfl) rfl dX8_mix_11 ?_
  subst hf
  exact j_vret C hQ rfl dX8_mix_14 (Nat.zero_le _) (Nat.zero_le _) ⟨rfl, rfl⟩
theorem c_X8_mix (G : CG) (hl : (gL G).stackTraces = false) (h8 : Nat) (qz : Nat) (qv : Nat) (qp : Nat) (qf : Nat) (qo : Nat) (mT : Int32) (mZ : (Nat → Int32)) (mU : (Nat → Int32)) (mV : Int32) (mP : (Nat → Int32)) (mB : (Nat → Int32)) (mY : Int32) (mR : (Nat → Int32)) (mO : Int32) (mS : Int32) (mW : Int32) (mH : Int64) (p1 : Int64) : Ct G yX8_mix wsX8_mix rm_X8_mix [.ref h8, .long p1] [(h8, .inr (8, [.int mT, .ref qz, .ref qv, .int mV, .ref qp, .ref qf, .int mY, .ref qo, .int mO, .int mS, .int mW, .long mH])), (qz, .inl (gI G, 1027, .inl mZ)), (qv, .inl (gI G, 6162, .inl mU)), (qp, .inl (gI G, 512, .inl mP)), (qf, .inl (gI G, 60, .inl mB)), (qo, .inl (gI G, 60, .inl mR))] (fin1 none [(h8, .inr (8, [.int mT, .ref qz, .ref qv, .int mV, .ref qp, .ref qf, .int mY, .ref qo, .int mO, .int mS, .int mW, .long (f_X8_mix p1 mH)])), (qz, .inl (gI G, 1027, .inl mZ)), (qv, .inl (gI G, 6162, .inl mU)), (qp, .inl (gI G, 512, .inl mP)), (qf, .inl (gI G, 60, .inl mB)), (qo, .inl (gI G, 60, .inl mR))]) 0 0 := b_X8_mix G hl h8 qz qv qp qf qo mT mZ mU mV mP mB mY mR mO mS mW mH p1 _ rfl

theorem lk_X8_mixCube_7 : Cond.fieldLink RX8 7 (TX8 1).1 (TX8 1).2.1 (TX8 1).2.2.1 ∈ wsX8_mixCube := by decide +kernel
theorem in_X8_mixCube_8 : ∀ w ∈ wsX80, w ∈ wsX8_mixCube := by decide +kernel
def f_X8_mixCube_L108 (mZ : (Nat → Int32)) (x108_2 : Int32) (mH_108 : Int64) : Option ((Int32 × Int64) ⊕ ((Int32 × Int64) ⊕ ((Int32 × Int64) ⊕ (Int64)))) :=
  if (3 * (f_X8_offsets mZ)) ≤ x108_2 then some (.inr (.inr (.inr (mH_108)))) else dz_nz (f_X8_offsets mZ) (dz_nz (f_X8_offsets mZ) (dz_nz (mZ 0) (dz_nz (mZ 0) (Option.bind (f_X8_lineSum (x108_2 / (f_X8_offsets mZ)) ((x108_2 - x108_2 / (f_X8_offsets mZ) * (f_X8_offsets mZ)) / (mZ 0)) (x108_2 - x108_2 / (mZ 0) * (mZ 0)) mZ) (fun r137 => some (.inl ((x108_2 + 1), (f_X8_mix (Int32.toInt64 r137) mH_108))))))))
def f_X8_mixCube_L69 (mZ : (Nat → Int32)) (x54_2 : Int32) (x61_3 : Int32) (x69_4 : Int32) (mH_69 : Int64) : Option ((Int32 × Int64) ⊕ ((Int32 × Int64) ⊕ ((Int32 × Int64) ⊕ ((Int32 × Int64) ⊕ (Int64))))) :=
  if 4 < x69_4 then some (.inr (.inl ((x61_3 + 1), mH_69))) else Option.bind (f_X8_toldSlice x54_2 x61_3 x69_4 mZ) (fun r81 => some (.inl ((x69_4 + 1), (f_X8_mix (Int32.toInt64 r81) mH_69))))
def f_X8_mixCube_L61 (mZ : (Nat → Int32)) (x54_2 : Int32) (x61_3 : Int32) (mH_61 : Int64) : Option ((Int32 × Int64) ⊕ ((Int32 × Int64) ⊕ ((Int32 × Int64) ⊕ (Int64)))) :=
  if (mZ 0) ≤ x61_3 then some (.inr (.inl ((x54_2 + 1), mH_61))) else dz_it (fun s : Int32 × Int64 => f_X8_mixCube_L69 mZ x54_2 x61_3 s.1 s.2) (0, mH_61)
def f_X8_mixCube_L54 (mZ : (Nat → Int32)) (x54_2 : Int32) (mH_54 : Int64) : Option ((Int32 × Int64) ⊕ ((Int32 × Int64) ⊕ (Int64))) :=
  if 3 ≤ x54_2 then dz_it (fun s : Int32 × Int64 => f_X8_mixCube_L108 mZ s.1 s.2) (0, mH_54) else dz_it (fun s : Int32 × Int64 => f_X8_mixCube_L61 mZ x54_2 s.1 s.2) (0, mH_54)
def f_X8_mixCube_L9 (mZ : (Nat → Int32)) (x9_2 : Int32) (mH_9 : Int64) : Option ((Int32 × Int64) ⊕ (Int64)) :=
  if (((mZ 0) * (mZ 0)) * (mZ 0)) ≤ x9_2 then dz_it (fun s : Int32 × Int64 => f_X8_mixCube_L54 mZ s.1 s.2) (0, mH_9) else dz_nz (mZ 0) (dz_nz (mZ 0) (dz_nz (mZ 0) (dz_nz ((mZ 0) * (mZ 0)) (dz_in (3 + (f_X8_place (x9_2 - x9_2 / (mZ 0) * (mZ 0)) ((x9_2 / (mZ 0)) - (x9_2 / (mZ 0)) / (mZ 0) * (mZ 0)) (x9_2 / ((mZ 0) * (mZ 0))))) 1027 (some (.inl ((x9_2 + 1), (f_X8_mix (Int32.toInt64 (mZ (Int32.toNatClampNeg (3 + (f_X8_place (x9_2 - x9_2 / (mZ 0) * (mZ 0)) ((x9_2 / (mZ 0)) - (x9_2 / (mZ 0)) / (mZ 0) * (mZ 0)) (x9_2 / ((mZ 0) * (mZ 0)))))))) mH_9))))))))
def f_X8_mixCube (mZ : (Nat → Int32)) (mH : Int64) : Option (Int64) :=
  dz_it (fun s : Int32 × Int64 => f_X8_mixCube_L9 mZ s.1 s.2) (0, mH)
abbrev rm_X8_mixCube : Room := { frames := 9, cells := 0, slots := 0, locals := 201 }
theorem k_X8_mixCube : Cf yX8_mixCube wsX8_mixCube rm_X8_mixCube cX8_mixCube 5 none 0 := ⟨⟨_, rfl⟩, by decide +kernel, by decide +kernel, by decide +kernel⟩
set_option maxRecDepth 100000 in
set_option maxHeartbeats 4000000 in
theorem b_X8_mixCube (G : CG) (hl : (gL G).stackTraces = false) (h8 : Nat) (qz : Nat) (qv : Nat) (qp : Nat) (qf : Nat) (qo : Nat) (mT : Int32) (mZ : (Nat → Int32)) (mU : (Nat → Int32)) (mV : Int32) (mP : (Nat → Int32)) (mB : (Nat → Int32)) (mY : Int32) (mR : (Nat → Int32)) (mO : Int32) (mS : Int32) (mW : Int32) (mH : Int64) (y : Int64) (hf : f_X8_mixCube mZ mH = some y) : Ct G yX8_mixCube wsX8_mixCube rm_X8_mixCube [.ref h8] [(h8, .inr (8, [.int mT, .ref qz, .ref qv, .int mV, .ref qp, .ref qf, .int mY, .ref qo, .int mO, .int mS, .int mW, .long mH])), (qz, .inl (gI G, 1027, .inl mZ)), (qv, .inl (gI G, 6162, .inl mU)), (qp, .inl (gI G, 512, .inl mP)), (qf, .inl (gI G, 60, .inl mB)), (qo, .inl (gI G, 60, .inl mR))] (fin1 none [(h8, .inr (8, [.int mT, .ref qz, .ref qv, .int mV, .ref qp, .ref qf, .int mY, .ref qo, .int mO, .int mS, .int mW, .long y])), (qz, .inl (gI G, 1027, .inl mZ)), (qv, .inl (gI G, 6162, .inl mU)), (qp, .inl (gI G, 512, .inl mP)), (qf, .inl (gI G, 60, .inl mB)), (qo, .inl (gI G, 60, .inl mR))]) 0 0 := by
  refine Ct.of (cc := cX8_mixCube) (N := 5) (ret := none) RX8 (by decide) rfl rfl hl (Nat.le_of_ble_eq_true rfl) (lv := [(0, .ref h8)]) rfl (fun X hXG C hex hnm hQ => ?_)
  subst hXG
  unfold f_X8_mixCube at hf
  refine j_aload_n C dX8_mixCube_0 rfl 0 rfl ?_
  refine j_get8 C 0 rfl 1 (by decide) in_X8_mixCube_8 lk_X8_mixCube_7 rfl dX8_mixCube_1 ?_
  refine j_iconst C (v := 0) dX8_mixCube_4 (by decide) ?_
  refine j_iald C 1 rfl (by unfold vp_in; decide) dX8_mixCube_5 ?_
  refine j_istore_n (lv' := [(1, .int (mZ 0)), (0, .ref h8)]) C dX8_mixCube_6 rfl (by decide) rfl ?_
  refine j_iconst C (v := 0) dX8_mixCube_7 (by decide) ?_
  refine j_istore_n (lv' := [(2, .int 0), (1, .int (mZ 0)), (0, .ref h8)]) C dX8_mixCube_8 rfl (by decide) rfl ?_
  have kk9 : ∀ (n : Nat) (x9_2 : Int32) (mH_9 : Int64), dz_iter n (fun s : Int32 × Int64 => f_X8_mixCube_L9 mZ s.1 s.2) (x9_2, mH_9) = some y → Jt X [(h8, .inr (8, [.int mT, .ref qz, .ref qv, .int mV, .ref qp, .ref qf, .int mY, .ref qo, .int mO, .int mS, .int mW, .long mH_9])), (qz, .inl (gI X.1, 1027, .inl mZ)), (qv, .inl (gI X.1, 6162, .inl mU)), (qp, .inl (gI X.1, 512, .inl mP)), (qf, .inl (gI X.1, 60, .inl mB)), (qo, .inl (gI X.1, 60, .inl mR))] 0 0 9 [(0, .ref h8), (1, .int (mZ 0)), (2, .int x9_2)] [] := by
    intro n
    induction n with
    | zero => intro x9_2 mH_9 hit; exact absurd hit (by simp [dz_iter])
    | succ n ih9 =>
      intro x9_2 mH_9 hit
      obtain ⟨y9, hf, hg9⟩ := dz_iter_succ hit
      replace hf : f_X8_mixCube_L9 mZ x9_2 mH_9 = some y9 := hf
      unfold f_X8_mixCube_L9 at hf
      refine j_iload_n C dX8_mixCube_9 rfl 2 rfl ?_
      refine j_iload_n C dX8_mixCube_10 rfl 1 rfl ?_
      refine j_iload_n C dX8_mixCube_11 rfl 1 rfl ?_
      refine j_imul C dX8_mixCube_12 ?_
      refine j_iload_n C dX8_mixCube_13 rfl 1 rfl ?_
      refine j_imul C dX8_mixCube_14 ?_
      refine j_icmp_ge C (tgt := 52) dX8_mixCube_15 (by decide) (fun e15 => ?_) (fun e15 => ?_)
      · have hf := (if_pos e15).symm.trans hf
        refine j_iconst C (v := 0) dX8_mixCube_52 (by decide) ?_
        refine j_istore_n (lv' := [(2, .int 0), (0, .ref h8), (1, .int (mZ 0))]) C dX8_mixCube_53 rfl (by decide) rfl ?_
        have kk54 : ∀ (n : Nat) (x54_2 : Int32) (mH_54 : Int64), dz_iter n (fun s : Int32 × Int64 => f_X8_mixCube_L54 mZ s.1 s.2) (x54_2, mH_54) = some y9 → Jt X [(h8, .inr (8, [.int mT, .ref qz, .ref qv, .int mV, .ref qp, .ref qf, .int mY, .ref qo, .int mO, .int mS, .int mW, .long mH_54])), (qz, .inl (gI X.1, 1027, .inl mZ)), (qv, .inl (gI X.1, 6162, .inl mU)), (qp, .inl (gI X.1, 512, .inl mP)), (qf, .inl (gI X.1, 60, .inl mB)), (qo, .inl (gI X.1, 60, .inl mR))] 0 0 54 [(0, .ref h8), (1, .int (mZ 0)), (2, .int x54_2)] [] := by
          intro n
          induction n with
          | zero => intro x54_2 mH_54 hit; exact absurd hit (by simp [dz_iter])
          | succ n ih54 =>
            intro x54_2 mH_54 hit
            obtain ⟨y54, hf, hg54⟩ := dz_iter_succ hit
            replace hf : f_X8_mixCube_L54 mZ x54_2 mH_54 = some y54 := hf
            unfold f_X8_mixCube_L54 at hf
            refine j_iload_n C dX8_mixCube_54 rfl 2 rfl ?_
            refine j_iconst C (v := 3) dX8_mixCube_55 (by decide) ?_
            refine j_icmp_ge C (tgt := 106) dX8_mixCube_56 (by decide) (fun e56 => ?_) (fun e56 => ?_)
            · have hf := (if_pos e56).symm.trans hf
              refine j_iconst C (v := 0) dX8_mixCube_106 (by decide) ?_
              refine j_istore_n (lv' := [(2, .int 0), (0, .ref h8), (1, .int (mZ 0))]) C dX8_mixCube_107 rfl (by decide) rfl ?_
              have kk108 : ∀ (n : Nat) (x108_2 : Int32) (mH_108 : Int64), dz_iter n (fun s : Int32 × Int64 => f_X8_mixCube_L108 mZ s.1 s.2) (x108_2, mH_108) = some y54 → Jt X [(h8, .inr (8, [.int mT, .ref qz, .ref qv, .int mV, .ref qp, .ref qf, .int mY, .ref qo, .int mO, .int mS, .int mW, .long mH_108])), (qz, .inl (gI X.1, 1027, .inl mZ)), (qv, .inl (gI X.1, 6162, .inl mU)), (qp, .inl (gI X.1, 512, .inl mP)), (qf, .inl (gI X.1, 60, .inl mB)), (qo, .inl (gI X.1, 60, .inl mR))] 0 0 108 [(0, .ref h8), (1, .int (mZ 0)), (2, .int x108_2)] [] := by
                intro n
                induction n with
                | zero => intro x108_2 mH_108 hit; exact absurd hit (by simp [dz_iter])
                | succ n ih108 =>
                  intro x108_2 mH_108 hit
                  obtain ⟨y108, hf, hg108⟩ := dz_iter_succ hit
                  replace hf : f_X8_mixCube_L108 mZ x108_2 mH_108 = some y108 := hf
                  unfold f_X8_mixCube_L108 at hf
                  refine j_iload_n C dX8_mixCube_108 rfl 2 rfl ?_
                  refine j_iconst C (v := 3) dX8_mixCube_109 (by decide) ?_
                  refine j_aload_n C dX8_mixCube_110 rfl 0 rfl ?_
                  refine j_cV C (c_X8_offsets X.1 hl h8 qz qv qp qf qo mT mZ mU mV mP mB mY mR mO mS mW mH_108) k_X8_offsets gX8_mixCube_X8_offsets rfl (ci := 8) (q0 := 0) rfl rfl (As := []) (rest := [.int 3, .int x108_2]) (st' := [.int (f_X8_offsets mZ), .int 3, .int x108_2]) (ws' := [(h8, .inr (8, [.int mT, .ref qz, .ref qv, .int mV, .ref qp, .ref qf, .int mY, .ref qo, .int mO, .int mS, .int mW, .long mH_108])), (qz, .inl (gI X.1, 1027, .inl mZ)), (qv, .inl (gI X.1, 6162, .inl mU)), (qp, .inl (gI X.1, 512, .inl mP)), (qf, .inl (gI X.1, 60, .inl mB)), (qo, .inl (gI X.1, 60, .inl mR))]) rfl rfl dX8_mixCube_111 [0, 1, 2, 3, 4, 5] [] [0, 1, 2, 3, 4, 5] rfl rfl rfl rfl rfl rfl ?_
                  refine j_imul C dX8_mixCube_114 ?_
                  refine j_icmp_ge C (tgt := 150) dX8_mixCube_115 (by decide) (fun e115 => ?_) (fun e115 => ?_)
                  · have hf := (if_pos e115).symm.trans hf
                    obtain rfl := Option.some.inj hf
                    obtain rfl := dz_go_inr hg108
                    obtain rfl := dz_go_inr hg54
                    obtain rfl := dz_go_inr hg9
                    exact j_vret C hQ rfl dX8_mixCube_150 (Nat.zero_le _) (Nat.zero_le _) ⟨rfl, rfl⟩
                  · have hf := (if_neg e115).symm.trans hf
                    refine j_aload_n C dX8_mixCube_118 rfl 0 rfl ?_
                    refine j_aload_n C dX8_mixCube_119 rfl 0 rfl ?_
                    refine j_iload_n C dX8_mixCube_120 rfl 2 rfl ?_
                    refine j_aload_n C dX8_mixCube_121 rfl 0 rfl ?_
                    refine j_cV C (c_X8_offsets X.1 hl h8 qz qv qp qf qo mT mZ mU mV mP mB mY mR mO mS mW mH_108) k_X8_offsets gX8_mixCube_X8_offsets rfl (ci := 8) (q0 := 0) rfl rfl (As := []) (rest := [.int x108_2, .ref h8, .ref h8]) (st' := [.int (f_X8_offsets mZ), .int x108_2, .ref h8, .ref h8]) (ws' := [(h8, .inr (8, [.int mT, .ref qz, .ref qv, .int mV, .ref qp, .ref qf, .int mY, .ref qo, .int mO, .int mS, .int mW, .long mH_108])), (qz, .inl (gI X.1, 1027, .inl mZ)), (qv, .inl (gI X.1, 6162, .inl mU)), (qp, .inl (gI X.1, 512, .inl mP)), (qf, .inl (gI X.1, 60, .inl mB)), (qo, .inl (gI X.1, 60, .inl mR))]) rfl rfl dX8_mixCube_122 [0, 1, 2, 3, 4, 5] [] [0, 1, 2, 3, 4, 5] rfl rfl rfl rfl rfl rfl ?_
                    obtain ⟨z125, hf⟩ := dz_nz_some hf
                    refine j_idiv C dX8_mixCube_125 z125 ?_
                    refine j_iload_n C dX8_mixCube_126 rfl 2 rfl ?_
                    refine j_aload_n C dX8_mixCube_127 rfl 0 rfl ?_
                    refine j_cV C (c_X8_offsets X.1 hl h8 qz qv qp qf qo mT mZ mU mV mP mB mY mR mO mS mW mH_108) k_X8_offsets gX8_mixCube_X8_offsets rfl (ci := 8) (q0 := 0) rfl rfl (As := []) (rest := [.int x108_2, .int (x108_2 / (f_X8_offsets mZ)), .ref h8, .ref h8]) (st' := [.int (f_X8_offsets mZ), .int x108_2, .int (x108_2 / (f_X8_offsets mZ)), .ref h8, .ref h8]) (ws' := [(h8, .inr (8, [.int mT, .ref qz, .ref qv, .int mV, .ref qp, .ref qf, .int mY, .ref qo, .int mO, .int mS, .int mW, .long mH_108])), (qz, .inl (gI X.1, 1027, .inl mZ)), (qv, .inl (gI X.1, 6162, .inl mU)), (qp, .inl (gI X.1, 512, .inl mP)), (qf, .inl (gI X.1, 60, .inl mB)), (qo, .inl (gI X.1, 60, .inl mR))]) rfl rfl dX8_mixCube_128 [0, 1, 2, 3, 4, 5] [] [0, 1, 2, 3, 4, 5] rfl rfl rfl rfl rfl rfl ?_
                    obtain ⟨z131, hf⟩ := dz_nz_some hf
                    refine j_irem C dX8_mixCube_131 z131 ?_
                    refine j_iload_n C dX8_mixCube_132 rfl 1 rfl ?_
                    obtain ⟨z133, hf⟩ := dz_nz_some hf
                    refine j_idiv C dX8_mixCube_133 z133 ?_
                    refine j_iload_n C dX8_mixCube_134 rfl 2 rfl ?_
                    refine j_iload_n C dX8_mixCube_135 rfl 1 rfl ?_
                    obtain ⟨z136, hf⟩ := dz_nz_some hf
                    refine j_irem C dX8_mixCube_136 z136 ?_
                    obtain ⟨r137, hc137, hf⟩ := Option.bind_eq_some_iff.mp hf
                    refine j_cV C (b_X8_lineSum X.1 hl h8 qz qv qp qf qo mT mZ mU mV mP mB mY mR mO mS mW mH_108 (x108_2 / (f_X8_offsets mZ)) ((x108_2 - x108_2 / (f_X8_offsets mZ) * (f_X8_offsets mZ)) / (mZ 0)) (x108_2 - x108_2 / (mZ 0) * (mZ 0)) r137 hc137) k_X8_lineSum gX8_mixCube_X8_lineSum rfl (ci := 8) (q0 := 0) rfl rfl (As := [.int (x108_2 / (f_X8_offsets mZ)), .int ((x108_2 - x108_2 / (f_X8_offsets mZ) * (f_X8_offsets mZ)) / (mZ 0)), .int (x108_2 - x108_2 / (mZ 0) * (mZ 0))]) (rest := [.ref h8]) (st' := [.int r137, .ref h8]) (ws' := [(h8, .inr (8, [.int mT, .ref qz, .ref qv, .int mV, .ref qp, .ref qf, .int mY, .ref qo, .int mO, .int mS, .int mW, .long mH_108])), (qz, .inl (gI X.1, 1027, .inl mZ)), (qv, .inl (gI X.1, 6162, .inl mU)), (qp, .inl (gI X.1, 512, .inl mP)), (qf, .inl (gI X.1, 60, .inl mB)), (qo, .inl (gI X.1, 60, .inl mR))]) rfl rfl dX8_mixCube_137 [0, 1, 2, 3, 4, 5] [] [0, 1, 2, 3, 4, 5] rfl rfl rfl rfl rfl rfl ?_
                    refine j_i2l C dX8_mixCube_140 ?_
                    refine j_cV C (c_X8_mix X.1 hl h8 qz qv qp qf qo mT mZ mU mV mP mB mY mR mO mS mW mH_108 (Int32.toInt64 r137)) k_X8_mix gX8_mixCube_X8_mix rfl (ci := 8) (q0 := 0) rfl rfl (As := [.long (Int32.toInt64 r137)]) (rest := []) (st' := []) (ws' := [(h8, .inr (8, [.int mT, .ref qz, .ref qv, .int mV, .ref qp, .ref qf, .int mY, .ref qo, .int mO, .int mS, .int mW, .long (f_X8_mix (Int32.toInt64 r137) mH_108)])), (qz, .inl (gI X.1, 1027, .inl mZ)), (qv, .inl (gI X.1, 6162, .inl mU)), (qp, .inl (gI X.1, 512, .inl mP)), (qf, .inl (gI X.1, 60, .inl mB)), (qo, .inl (gI X.1, 60, .inl mR))]) rfl rfl dX8_mixCube_141 [0, 1, 2, 3, 4, 5] [] [0, 1, 2, 3, 4, 5] rfl rfl rfl rfl rfl rfl ?_
                    refine j_iinc (v := (x108_2 + 1)) (lv' := [(2, .int (x108_2 + 1)), (0, .ref h8), (1, .int (mZ 0))]) C dX8_mixCube_144 2 rfl (by first | rfl | decide) (by decide) rfl ?_
                    refine j_goto C (tgt := 108) dX8_mixCube_147 (by decide) ?_
                    obtain rfl := Option.some.inj hf
                    have hf := dz_go_inl hg108
                    refine j_loc [1, 2, 0] rfl ?_
                    exact ih108 (x108_2 + 1) (f_X8_mix (Int32.toInt64 r137) mH_108) hf
              refine j_loc [1, 2, 0] rfl ?_
              exact kk108 _ 0 mH_54 hf
            · have hf := (if_neg e56).symm.trans hf
              refine j_iconst C (v := 0) dX8_mixCube_59 (by decide) ?_
              refine j_istore_n (lv' := [(3, .int 0), (0, .ref h8), (1, .int (mZ 0)), (2, .int x54_2)]) C dX8_mixCube_60 rfl (by decide) rfl ?_
              have kk61 : ∀ (n : Nat) (x61_3 : Int32) (mH_61 : Int64), dz_iter n (fun s : Int32 × Int64 => f_X8_mixCube_L61 mZ x54_2 s.1 s.2) (x61_3, mH_61) = some y54 → Jt X [(h8, .inr (8, [.int mT, .ref qz, .ref qv, .int mV, .ref qp, .ref qf, .int mY, .ref qo, .int mO, .int mS, .int mW, .long mH_61])), (qz, .inl (gI X.1, 1027, .inl mZ)), (qv, .inl (gI X.1, 6162, .inl mU)), (qp, .inl (gI X.1, 512, .inl mP)), (qf, .inl (gI X.1, 60, .inl mB)), (qo, .inl (gI X.1, 60, .inl mR))] 0 0 61 [(0, .ref h8), (1, .int (mZ 0)), (2, .int x54_2), (3, .int x61_3)] [] := by
                intro n
                induction n with
                | zero => intro x61_3 mH_61 hit; exact absurd hit (by simp [dz_iter])
                | succ n ih61 =>
                  intro x61_3 mH_61 hit
                  obtain ⟨y61, hf, hg61⟩ := dz_iter_succ hit
                  replace hf : f_X8_mixCube_L61 mZ x54_2 x61_3 mH_61 = some y61 := hf
                  unfold f_X8_mixCube_L61 at hf
                  refine j_iload_n C dX8_mixCube_61 rfl 3 rfl ?_
                  refine j_iload_n C dX8_mixCube_62 rfl 1 rfl ?_
                  refine j_icmp_ge C (tgt := 100) dX8_mixCube_63 (by decide) (fun e63 => ?_) (fun e63 => ?_)
                  · have hf := (if_pos e63).symm.trans hf
                    refine j_iinc (v := (x54_2 + 1)) (lv' := [(2, .int (x54_2 + 1)), (0, .ref h8), (1, .int (mZ 0)), (3, .int x61_3)]) C dX8_mixCube_100 2 rfl (by first | rfl | decide) (by decide) rfl ?_
                    refine j_goto C (tgt := 54) dX8_mixCube_103 (by decide) ?_
                    obtain rfl := Option.some.inj hf
                    obtain rfl := dz_go_inr hg61
                    have hf := dz_go_inl hg54
                    refine j_loc [1, 2, 0] rfl ?_
                    exact ih54 (x54_2 + 1) mH_61 hf
                  · have hf := (if_neg e63).symm.trans hf
                    refine j_iconst C (v := 0) dX8_mixCube_66 (by decide) ?_
                    refine j_istore (lv' := [(4, .int 0), (0, .ref h8), (1, .int (mZ 0)), (2, .int x54_2), (3, .int x61_3)]) C dX8_mixCube_67 (by decide) rfl ?_
                    have kk69 : ∀ (n : Nat) (x69_4 : Int32) (mH_69 : Int64), dz_iter n (fun s : Int32 × Int64 => f_X8_mixCube_L69 mZ x54_2 x61_3 s.1 s.2) (x69_4, mH_69) = some y61 → Jt X [(h8, .inr (8, [.int mT, .ref qz, .ref qv, .int mV, .ref qp, .ref qf, .int mY, .ref qo, .int mO, .int mS, .int mW, .long mH_69])), (qz, .inl (gI X.1, 1027, .inl mZ)), (qv, .inl (gI X.1, 6162, .inl mU)), (qp, .inl (gI X.1, 512, .inl mP)), (qf, .inl (gI X.1, 60, .inl mB)), (qo, .inl (gI X.1, 60, .inl mR))] 0 0 69 [(0, .ref h8), (1, .int (mZ 0)), (2, .int x54_2), (3, .int x61_3), (4, .int x69_4)] [] := by
                      intro n
                      induction n with
                      | zero => intro x69_4 mH_69 hit; exact absurd hit (by simp [dz_iter])
                      | succ n ih69 =>
                        intro x69_4 mH_69 hit
                        obtain ⟨y69, hf, hg69⟩ := dz_iter_succ hit
                        replace hf : f_X8_mixCube_L69 mZ x54_2 x61_3 x69_4 mH_69 = some y69 := hf
                        unfold f_X8_mixCube_L69 at hf
                        refine j_iload C dX8_mixCube_69 4 rfl ?_
                        refine j_iconst C (v := 4) dX8_mixCube_71 (by decide) ?_
                        refine j_icmp_gt C (tgt := 94) dX8_mixCube_72 (by decide) (fun e72 => ?_) (fun e72 => ?_)
                        · have hf := (if_pos e72).symm.trans hf
                          refine j_iinc (v := (x61_3 + 1)) (lv' := [(3, .int (x61_3 + 1)), (0, .ref h8), (1, .int (mZ 0)), (2, .int x54_2), (4, .int x69_4)]) C dX8_mixCube_94 3 rfl (by first | rfl | decide) (by decide) rfl ?_
                          refine j_goto C (tgt := 61) dX8_mixCube_97 (by decide) ?_
                          obtain rfl := Option.some.inj hf
                          obtain rfl := dz_go_inr hg69
                          have hf := dz_go_inl hg61
                          refine j_loc [1, 2, 3, 0] rfl ?_
                          exact ih61 (x61_3 + 1) mH_69 hf
                        · have hf := (if_neg e72).symm.trans hf
                          refine j_aload_n C dX8_mixCube_75 rfl 0 rfl ?_
                          refine j_aload_n C dX8_mixCube_76 rfl 0 rfl ?_
                          refine j_iload_n C dX8_mixCube_77 rfl 2 rfl ?_
                          refine j_iload_n C dX8_mixCube_78 rfl 3 rfl ?_
                          refine j_iload C dX8_mixCube_79 4 rfl ?_
                          obtain ⟨r81, hc81, hf⟩ := Option.bind_eq_some_iff.mp hf
                          refine j_cV C (b_X8_toldSlice X.1 hl h8 qz qv qp qf qo mT mZ mU mV mP mB mY mR mO mS mW mH_69 x54_2 x61_3 x69_4 r81 hc81) k_X8_toldSlice gX8_mixCube_X8_toldSlice rfl (ci := 8) (q0 := 0) rfl rfl (As := [.int x54_2, .int x61_3, .int x69_4]) (rest := [.ref h8]) (st' := [.int r81, .ref h8]) (ws' := [(h8, .inr (8, [.int mT, .ref qz, .ref qv, .int mV, .ref qp, .ref qf, .int mY, .ref qo, .int mO, .int mS, .int mW, .long mH_69])), (qz, .inl (gI X.1, 1027, .inl mZ)), (qv, .inl (gI X.1, 6162, .inl mU)), (qp, .inl (gI X.1, 512, .inl mP)), (qf, .inl (gI X.1, 60, .inl mB)), (qo, .inl (gI X.1, 60, .inl mR))]) rfl rfl dX8_mixCube_81 [0, 1, 2, 3, 4, 5] [] [0, 1, 2, 3, 4, 5] rfl rfl rfl rfl rfl rfl ?_
                          refine j_i2l C dX8_mixCube_84 ?_
                          refine j_cV C (c_X8_mix X.1 hl h8 qz qv qp qf qo mT mZ mU mV mP mB mY mR mO mS mW mH_69 (Int32.toInt64 r81)) k_X8_mix gX8_mixCube_X8_mix rfl (ci := 8) (q0 := 0) rfl rfl (As := [.long (Int32.toInt64 r81)]) (rest := []) (st' := []) (ws' := [(h8, .inr (8, [.int mT, .ref qz, .ref qv, .int mV, .ref qp, .ref qf, .int mY, .ref qo, .int mO, .int mS, .int mW, .long (f_X8_mix (Int32.toInt64 r81) mH_69)])), (qz, .inl (gI X.1, 1027, .inl mZ)), (qv, .inl (gI X.1, 6162, .inl mU)), (qp, .inl (gI X.1, 512, .inl mP)), (qf, .inl (gI X.1, 60, .inl mB)), (qo, .inl (gI X.1, 60, .inl mR))]) rfl rfl dX8_mixCube_85 [0, 1, 2, 3, 4, 5] [] [0, 1, 2, 3, 4, 5] rfl rfl rfl rfl rfl rfl ?_
                          refine j_iinc (v := (x69_4 + 1)) (lv' := [(4, .int (x69_4 + 1)), (0, .ref h8), (1, .int (mZ 0)), (2, .int x54_2), (3, .int x61_3)]) C dX8_mixCube_88 4 rfl (by first | rfl | decide) (by decide) rfl ?_
                          refine j_goto C (tgt := 69) dX8_mixCube_91 (by decide) ?_
                          obtain rfl := Option.some.inj hf
                          have hf := dz_go_inl hg69
                          refine j_loc [1, 2, 3, 4, 0] rfl ?_
                          exact ih69 (x69_4 + 1) (f_X8_mix (Int32.toInt64 r81) mH_69) hf
                    refine j_loc [1, 2, 3, 4, 0] rfl ?_
                    exact kk69 _ 0 mH_61 hf
              refine j_loc [1, 2, 3, 0] rfl ?_
              exact kk61 _ 0 mH_54 hf
        refine j_loc [1, 2, 0] rfl ?_
        exact kk54 _ 0 mH_9 hf
      · have hf := (if_neg e15).symm.trans hf
        refine j_aload_n C dX8_mixCube_18 rfl 0 rfl ?_
        refine j_aload_n C dX8_mixCube_19 rfl 0 rfl ?_
        refine j_get8 C 0 rfl 1 (by decide) in_X8_mixCube_8 lk_X8_mixCube_7 rfl dX8_mixCube_20 ?_
        refine j_iconst C (v := 3) dX8_mixCube_23 (by decide) ?_
        refine j_iload_n C dX8_mixCube_24 rfl 2 rfl ?_
        refine j_iload_n C dX8_mixCube_25 rfl 1 rfl ?_
        obtain ⟨z26, hf⟩ := dz_nz_some hf
        refine j_irem C dX8_mixCube_26 z26 ?_
        refine j_iload_n C dX8_mixCube_27 rfl 2 rfl ?_
        refine j_iload_n C dX8_mixCube_28 rfl 1 rfl ?_
        obtain ⟨z29, hf⟩ := dz_nz_some hf
        refine j_idiv C dX8_mixCube_29 z29 ?_
        refine j_iload_n C dX8_mixCube_30 rfl 1 rfl ?_
        obtain ⟨z31, hf⟩ := dz_nz_some hf
        refine j_irem C dX8_mixCube_31 z31 ?_
        refine j_iload_n C dX8_mixCube_32 rfl 2 rfl ?_
        refine j_iload_n C dX8_mixCube_33 rfl 1 rfl ?_
        refine j_iload_n C dX8_mixCube_34 rfl 1 rfl ?_
        refine j_imul C dX8_mixCube_35 ?_
        obtain ⟨z36, hf⟩ := dz_nz_some hf
        refine j_idiv C dX8_mixCube_36 z36 ?_
        refine j_cS C (c_X8_place X.1 hl (x9_2 - x9_2 / (mZ 0) * (mZ 0)) ((x9_2 / (mZ 0)) - (x9_2 / (mZ 0)) / (mZ 0) * (mZ 0)) (x9_2 / ((mZ 0) * (mZ 0)))) k_X8_place gX8_mixCube_X8_place (As := [.int (x9_2 - x9_2 / (mZ 0) * (mZ 0)), .int ((x9_2 / (mZ 0)) - (x9_2 / (mZ 0)) / (mZ 0) * (mZ 0)), .int (x9_2 / ((mZ 0) * (mZ 0)))]) (rest := [.int 3, .ref qz, .ref h8]) (st' := [.int (f_X8_place (x9_2 - x9_2 / (mZ 0) * (mZ 0)) ((x9_2 / (mZ 0)) - (x9_2 / (mZ 0)) / (mZ 0) * (mZ 0)) (x9_2 / ((mZ 0) * (mZ 0)))), .int 3, .ref qz, .ref h8]) (ws' := [(h8, .inr (8, [.int mT, .ref qz, .ref qv, .int mV, .ref qp, .ref qf, .int mY, .ref qo, .int mO, .int mS, .int mW, .long mH_9])), (qz, .inl (gI X.1, 1027, .inl mZ)), (qv, .inl (gI X.1, 6162, .inl mU)), (qp, .inl (gI X.1, 512, .inl mP)), (qf, .inl (gI X.1, 60, .inl mB)), (qo, .inl (gI X.1, 60, .inl mR))]) rfl rfl dX8_mixCube_37 [] [0, 1, 2, 3, 4, 5] [0, 1, 2, 3, 4, 5] rfl rfl rfl rfl rfl rfl ?_
        refine j_iadd C dX8_mixCube_40 ?_
        obtain ⟨z41, hf⟩ := dz_in_some hf
        refine j_iald C 1 rfl z41 dX8_mixCube_41 ?_
        refine j_i2l C dX8_mixCube_42 ?_
        refine j_cV C (c_X8_mix X.1 hl h8 qz qv qp qf qo mT mZ mU mV mP mB mY mR mO mS mW mH_9 (Int32.toInt64 (mZ (Int32.toNatClampNeg (3 + (f_X8_place (x9_2 - x9_2 / (mZ 0) * (mZ 0)) ((x9_2 / (mZ 0)) - (x9_2 / (mZ 0)) / (mZ 0) * (mZ 0)) (x9_2 / ((mZ 0) * (mZ 0))))))))) k_X8_mix gX8_mixCube_X8_mix rfl (ci := 8) (q0 := 0) rfl rfl (As := [.long (Int32.toInt64 (mZ (Int32.toNatClampNeg (3 + (f_X8_place (x9_2 - x9_2 / (mZ 0) * (mZ 0)) ((x9_2 / (mZ 0)) - (x9_2 / (mZ 0)) / (mZ 0) * (mZ 0)) (x9_2 / ((mZ 0) * (mZ 0))))))))]) (rest := []) (st' := []) (ws' := [(h8, .inr (8, [.int mT, .ref qz, .ref qv, .int mV, .ref qp, .ref qf, .int mY, .ref qo, .int mO, .int mS, .int mW, .long (f_X8_mix (Int32.toInt64 (mZ (Int32.toNatClampNeg (3 + (f_X8_place (x9_2 - x9_2 / (mZ 0) * (mZ 0)) ((x9_2 / (mZ 0)) - (x9_2 / (mZ 0)) / (mZ 0) * (mZ 0)) (x9_2 / ((mZ 0) * (mZ 0)))))))) mH_9)])), (qz, .inl (gI X.1, 1027, .inl mZ)), (qv, .inl (gI X.1, 6162, .inl mU)), (qp, .inl (gI X.1, 512, .inl mP)), (qf, .inl (gI X.1, 60, .inl mB)), (qo, .inl (gI X.1, 60, .inl mR))]) rfl rfl dX8_mixCube_43 [0, 1, 2, 3, 4, 5] [] [0, 1, 2, 3, 4, 5] rfl rfl rfl rfl rfl rfl ?_
        refine j_iinc (v := (x9_2 + 1)) (lv' := [(2, .int (x9_2 + 1)), (0, .ref h8), (1, .int (mZ 0))]) C dX8_mixCube_46 2 rfl (by first | rfl | decide) (by decide) rfl ?_
        refine j_goto C (tgt := 9) dX8_mixCube_49 (by decide) ?_
        obtain rfl := Option.some.inj hf
        have hf := dz_go_inl hg9
        refine j_loc [1, 2, 0] rfl ?_
        exact ih9 (x9_2 + 1) (f_X8_mix (Int32.toInt64 (mZ (Int32.toNatClampNeg (3 + (f_X8_place (x9_2 - x9_2 / (mZ 0) * (mZ 0)) ((x9_2 / (mZ 0)) - (x9_2 / (mZ 0)) / (mZ 0) * (mZ 0)) (x9_2 / ((mZ 0) * (mZ 0)))))))) mH_9) hf
  refine j_loc [2, 1, 0] rfl ?_
  exact kk9 _ 0 mH hf

def f_X8_mixRank_L2 (p1 : Int32) (mZ : (Nat → Int32)) (x2_2 : Int32) (mH_2 : Int64) : Option ((Int32 × Int64) ⊕ (Int64)) :=
  if 3 < x2_2 then some (.inr (mH_2)) else Option.bind (f_X8_toldRank p1 x2_2 mZ) (fun r11 => some (.inl ((x2_2 + 1), (f_X8_mix (Int32.toInt64 r11) mH_2))))
def f_X8_mixRank (p1 : Int32) (mZ : (Nat → Int32)) (mH : Int64) : Option (Int64) :=
  dz_it (fun s : Int32 × Int64 => f_X8_mixRank_L2 p1 mZ s.1 s.2) (0, mH)
abbrev rm_X8_mixRank : Room := { frames := 7, cells := 0, slots := 0, locals := 156 }
theorem k_X8_mixRank : Cf yX8_mixRank wsX8_mixRank rm_X8_mixRank cX8_mixRank 3 none 1 := ⟨⟨_, rfl⟩, by decide +kernel, by decide +kernel, by decide +kernel⟩
set_option maxRecDepth 100000 in
set_option maxHeartbeats 4000000 in
theorem b_X8_mixRank (G : CG) (hl : (gL G).stackTraces = false) (h8 : Nat) (qz : Nat) (qv : Nat) (qp : Nat) (qf : Nat) (qo : Nat) (mT : Int32) (mZ : (Nat → Int32)) (mU : (Nat → Int32)) (mV : Int32) (mP : (Nat → Int32)) (mB : (Nat → Int32)) (mY : Int32) (mR : (Nat → Int32)) (mO : Int32) (mS : Int32) (mW : Int32) (mH : Int64) (p1 : Int32) (y : Int64) (hf : f_X8_mixRank p1 mZ mH = some y) : Ct G yX8_mixRank wsX8_mixRank rm_X8_mixRank [.ref h8, .int p1] [(h8, .inr (8, [.int mT, .ref qz, .ref qv, .int mV, .ref qp, .ref qf, .int mY, .ref qo, .int mO, .int mS, .int mW, .long mH])), (qz, .inl (gI G, 1027, .inl mZ)), (qv, .inl (gI G, 6162, .inl mU)), (qp, .inl (gI G, 512, .inl mP)), (qf, .inl (gI G, 60, .inl mB)), (qo, .inl (gI G, 60, .inl mR))] (fin1 none [(h8, .inr (8, [.int mT, .ref qz, .ref qv, .int mV, .ref qp, .ref qf, .int mY, .ref qo, .int mO, .int mS, .int mW, .long y])), (qz, .inl (gI G, 1027, .inl mZ)), (qv, .inl (gI G, 6162, .inl mU)), (qp, .inl (gI G, 512, .inl mP)), (qf, .inl (gI G, 60, .inl mB)), (qo, .inl (gI G, 60, .inl mR))]) 0 0 := by
  refine Ct.of (cc := cX8_mixRank) (N := 3) (ret := none) RX8 (by decide) rfl rfl hl (Nat.le_of_ble_eq_true rfl) (lv := [(0, .ref h8), (1, .int p1)]) rfl (fun X hXG C hex hnm hQ => ?_)
  subst hXG
  unfold f_X8_mixRank at hf
  refine j_iconst C (v := 0) dX8_mixRank_0 (by decide) ?_
  refine j_istore_n (lv' := [(2, .int 0), (0, .ref h8), (1, .int p1)]) C dX8_mixRank_1 rfl (by decide) rfl ?_
  have kk2 : ∀ (n : Nat) (x2_2 : Int32) (mH_2 : Int64), dz_iter n (fun s : Int32 × Int64 => f_X8_mixRank_L2 p1 mZ s.1 s.2) (x2_2, mH_2) = some y → Jt X [(h8, .inr (8, [.int mT, .ref qz, .ref qv, .int mV, .ref qp, .ref qf, .int mY, .ref qo, .int mO, .int mS, .int mW, .long mH_2])), (qz, .inl (gI X.1, 1027, .inl mZ)), (qv, .inl (gI X.1, 6162, .inl mU)), (qp, .inl (gI X.1, 512, .inl mP)), (qf, .inl (gI X.1, 60, .inl mB)), (qo, .inl (gI X.1, 60, .inl mR))] 0 0 2 [(0, .ref h8), (1, .int p1), (2, .int x2_2)] [] := by
    intro n
    induction n with
    | zero => intro x2_2 mH_2 hit; exact absurd hit (by simp [dz_iter])
    | succ n ih2 =>
      intro x2_2 mH_2 hit
      obtain ⟨y2, hf, hg2⟩ := dz_iter_succ hit
      replace hf : f_X8_mixRank_L2 p1 mZ x2_2 mH_2 = some y2 := hf
      unfold f_X8_mixRank_L2 at hf
      refine j_iload_n C dX8_mixRank_2 rfl 2 rfl ?_
      refine j_iconst C (v := 3) dX8_mixRank_3 (by decide) ?_
      refine j_icmp_gt C (tgt := 24) dX8_mixRank_4 (by decide) (fun e4 => ?_) (fun e4 => ?_)
      · have hf := (if_pos e4).symm.trans hf
        obtain rfl := Option.some.inj hf
        obtain rfl := dz_go_inr hg2
        exact j_vret C hQ rfl dX8_mixRank_24 (Nat.zero_le _) (Nat.zero_le _) ⟨rfl, rfl⟩
      · have hf := (if_neg e4).symm.trans hf
        refine j_aload_n C dX8_mixRank_7 rfl 0 rfl ?_
        refine j_aload_n C dX8_mixRank_8 rfl 0 rfl ?_
        refine j_iload_n C dX8_mixRank_9 rfl 1 rfl ?_
        refine j_iload_n C dX8_mixRank_10 rfl 2 rfl ?_
        obtain ⟨r11, hc11, hf⟩ := Option.bind_eq_some_iff.mp hf
        refine j_cV C (b_X8_toldRank X.1 hl h8 qz qv qp qf qo mT mZ mU mV mP mB mY mR mO mS mW mH_2 p1 x2_2 r11 hc11) k_X8_toldRank gX8_mixRank_X8_toldRank rfl (ci := 8) (q0 := 0) rfl rfl (As := [.int p1, .int x2_2]) (rest := [.ref h8]) (st' := [.int r11, .ref h8]) (ws' := [(h8, .inr (8, [.int mT, .ref qz, .ref qv, .int mV, .ref qp, .ref qf, .int mY, .ref qo, .int mO, .int mS, .int mW, .long mH_2])), (qz, .inl (gI X.1, 1027, .inl mZ)), (qv, .inl (gI X.1, 6162, .inl mU)), (qp, .inl (gI X.1, 512, .inl mP)), (qf, .inl (gI X.1, 60, .inl mB)), (qo, .inl (gI X.1, 60, .inl mR))]) rfl rfl dX8_mixRank_11 [0, 1, 2, 3, 4, 5] [] [0, 1, 2, 3, 4, 5] rfl rfl rfl rfl rfl rfl ?_
        refine j_i2l C dX8_mixRank_14 ?_
        refine j_cV C (c_X8_mix X.1 hl h8 qz qv qp qf qo mT mZ mU mV mP mB mY mR mO mS mW mH_2 (Int32.toInt64 r11)) k_X8_mix gX8_mixRank_X8_mix rfl (ci := 8) (q0 := 0) rfl rfl (As := [.long (Int32.toInt64 r11)]) (rest := []) (st' := []) (ws' := [(h8, .inr (8, [.int mT, .ref qz, .ref qv, .int mV, .ref qp, .ref qf, .int mY, .ref qo, .int mO, .int mS, .int mW, .long (f_X8_mix (Int32.toInt64 r11) mH_2)])), (qz, .inl (gI X.1, 1027, .inl mZ)), (qv, .inl (gI X.1, 6162, .inl mU)), (qp, .inl (gI X.1, 512, .inl mP)), (qf, .inl (gI X.1, 60, .inl mB)), (qo, .inl (gI X.1, 60, .inl mR))]) rfl rfl dX8_mixRank_15 [0, 1, 2, 3, 4, 5] [] [0, 1, 2, 3, 4, 5] rfl rfl rfl rfl rfl rfl ?_
        refine j_iinc (v := (x2_2 + 1)) (lv' := [(2, .int (x2_2 + 1)), (0, .ref h8), (1, .int p1)]) C dX8_mixRank_18 2 rfl (by first | rfl | decide) (by decide) rfl ?_
        refine j_goto C (tgt := 2) dX8_mixRank_21 (by decide) ?_
        obtain rfl := Option.some.inj hf
        have hf := dz_go_inl hg2
        refine j_loc [1, 2, 0] rfl ?_
        exact ih2 (x2_2 + 1) (f_X8_mix (Int32.toInt64 r11) mH_2) hf
  refine j_loc [1, 2, 0] rfl ?_
  exact kk2 _ 0 mH hf

theorem lk_X8_digest_25 : Cond.fieldLink RX8 25 (TX8 0).1 (TX8 0).2.1 (TX8 0).2.2.1 ∈ wsX8_digest := by decide +kernel
theorem in_X8_digest_8 : ∀ w ∈ wsX80, w ∈ wsX8_digest := by decide +kernel
theorem wd_X8_digest_k209 : Cond.constantLong RX8 209 2861 ∈ wsX8_digest := by decide +kernel
theorem lk_X8_digest_201 : Cond.fieldLink RX8 201 (TX8 11).1 (TX8 11).2.1 (TX8 11).2.2.1 ∈ wsX8_digest := by decide +kernel
theorem lk_X8_digest_7 : Cond.fieldLink RX8 7 (TX8 1).1 (TX8 1).2.1 (TX8 1).2.2.1 ∈ wsX8_digest := by decide +kernel
theorem lk_X8_digest_103 : Cond.fieldLink RX8 103 (TX8 6).1 (TX8 6).2.1 (TX8 6).2.2.1 ∈ wsX8_digest := by decide +kernel
theorem lk_X8_digest_19 : Cond.fieldLink RX8 19 (TX8 5).1 (TX8 5).2.1 (TX8 5).2.2.1 ∈ wsX8_digest := by decide +kernel
def f_X8_digest_L219 (mB : (Nat → Int32)) (mY : Int32) (mZ_153 : (Nat → Int32)) (x219_1 : Int32) (mH_219 : Int64) : Option ((Int32 × Int64) ⊕ ((Int32 × Int64) ⊕ ((Int32 × (Nat → Int32) × Int64) ⊕ ((Int32 × (Nat → Int32) × Int64) ⊕ ((Int32 × Int64) ⊕ ((Int32 × Int64) ⊕ ((Int32 × Int64) ⊕ (Int64 × Int32 × (Nat → Int32) × Int64)))))))) :=
  if mY ≤ x219_1 then some (.inr (.inr (.inr (.inr (.inr (.inr (.inr ((mH_219, 0, mZ_153, mH_219))))))))) else dz_in x219_1 60 (some (.inl ((x219_1 + 1), (f_X8_mix (Int32.toInt64 (mB (Int32.toNatClampNeg x219_1))) mH_219))))
def f_X8_digest_L176 (mB : (Nat → Int32)) (mY : Int32) (mZ_153 : (Nat → Int32)) (x176_1 : Int32) (mH_176 : Int64) : Option ((Int32 × Int64) ⊕ ((Int32 × (Nat → Int32) × Int64) ⊕ ((Int32 × (Nat → Int32) × Int64) ⊕ ((Int32 × Int64) ⊕ ((Int32 × Int64) ⊕ ((Int32 × Int64) ⊕ (Int64 × Int32 × (Nat → Int32) × Int64))))))) :=
  if 3 < x176_1 then Option.bind (f_X8_share mZ_153) (fun r199 => Option.bind (f_X8_bitsOf r199) (fun r202 => dz_it (fun s : Int32 × Int64 => f_X8_digest_L219 mB mY mZ_153 s.1 s.2) (0, (f_X8_mix (Int32.toInt64 mY) (f_X8_mix r202 mH_176))))) else Option.bind (f_X8_heaviestOf x176_1 mZ_153) (fun r184 => some (.inl ((x176_1 + 1), (f_X8_mix (Int32.toInt64 r184) mH_176))))
def f_X8_digest_L153 (mB : (Nat → Int32)) (mY : Int32) (x153_1 : Int32) (mZ_153 : (Nat → Int32)) (mH_153 : Int64) : Option ((Int32 × (Nat → Int32) × Int64) ⊕ ((Int32 × (Nat → Int32) × Int64) ⊕ ((Int32 × Int64) ⊕ ((Int32 × Int64) ⊕ ((Int32 × Int64) ⊕ (Int64 × Int32 × (Nat → Int32) × Int64)))))) :=
  if 2 < x153_1 then dz_it (fun s : Int32 × Int64 => f_X8_digest_L176 mB mY mZ_153 s.1 s.2) (0, mH_153) else Option.bind (f_X8_bestOf x153_1 mZ_153) (fun r161 => some (.inl ((x153_1 + 1), r161.2, (f_X8_mix (Int32.toInt64 r161.1) mH_153))))
def f_X8_digest_J135 (mH_114 : Int64) (mZ_114 : (Nat → Int32)) (s135_0 : Int32) (x114_1 : Int32) : Option ((Int32 × (Nat → Int32) × Int64) ⊕ ((Int32 × Int64) ⊕ ((Int32 × Int64) ⊕ ((Int32 × Int64) ⊕ (Int64 × Int32 × (Nat → Int32) × Int64))))) :=
  Option.bind (f_X8_wouldPut 0 1 0 s135_0 (x114_1 - x114_1 / 2 * 2) mZ_114) (fun r138 => some (.inl ((x114_1 + 1), r138.2, (f_X8_mix (Int32.toInt64 r138.1) mH_114))))
def f_X8_digest_L114 (mB : (Nat → Int32)) (mY : Int32) (x114_1 : Int32) (mZ_114 : (Nat → Int32)) (mH_114 : Int64) : Option ((Int32 × (Nat → Int32) × Int64) ⊕ ((Int32 × Int64) ⊕ ((Int32 × Int64) ⊕ ((Int32 × Int64) ⊕ (Int64 × Int32 × (Nat → Int32) × Int64))))) :=
  if 4 ≤ x114_1 then dz_it (fun s : Int32 × (Nat → Int32) × Int64 => f_X8_digest_L153 mB mY s.1 s.2.1 s.2.2) (0, mZ_114, mH_114) else if 2 ≤ x114_1 then (f_X8_digest_J135 mH_114 mZ_114 0 x114_1) else (f_X8_digest_J135 mH_114 mZ_114 7 x114_1)
def f_X8_digest_L91 (mZ : (Nat → Int32)) (mB : (Nat → Int32)) (mY : Int32) (x91_1 : Int32) (mH_91 : Int64) : Option ((Int32 × Int64) ⊕ ((Int32 × Int64) ⊕ ((Int32 × Int64) ⊕ (Int64 × Int32 × (Nat → Int32) × Int64)))) :=
  if 3 ≤ x91_1 then dz_it (fun s : Int32 × (Nat → Int32) × Int64 => f_X8_digest_L114 mB mY s.1 s.2.1 s.2.2) (0, mZ, mH_91) else Option.bind (f_X8_roomBy x91_1 mZ) (fun r99 => some (.inl ((x91_1 + 1), (f_X8_mix (Int32.toInt64 r99) mH_91))))
def f_X8_digest_L68 (mZ : (Nat → Int32)) (mB : (Nat → Int32)) (mY : Int32) (x68_1 : Int32) (mH_68 : Int64) : Option ((Int32 × Int64) ⊕ ((Int32 × Int64) ⊕ (Int64 × Int32 × (Nat → Int32) × Int64))) :=
  if 3 < x68_1 then dz_it (fun s : Int32 × Int64 => f_X8_digest_L91 mZ mB mY s.1 s.2) (0, mH_68) else Option.bind (f_X8_toldDifference x68_1 mZ) (fun r76 => some (.inl ((x68_1 + 1), (f_X8_mix (Int32.toInt64 r76) mH_68))))
def f_X8_digest_L14 (mZ : (Nat → Int32)) (mV : Int32) (mB : (Nat → Int32)) (mY : Int32) (x14_1 : Int32) (mH_14 : Int64) : Option ((Int32 × Int64) ⊕ (Int64 × Int32 × (Nat → Int32) × Int64)) :=
  if 8 < x14_1 then Option.bind (f_X8_mixCube mZ (f_X8_mix (Int32.toInt64 (mZ 2)) mH_14)) (fun r48 => Option.bind (f_X8_mixRank 0 mZ r48) (fun r53 => Option.bind (f_X8_mixRank 1 mZ r53) (fun r58 => Option.bind (f_X8_mixRank 5 mZ r58) (fun r63 => dz_it (fun s : Int32 × Int64 => f_X8_digest_L68 mZ mB mY s.1 s.2) (0, r63))))) else Option.bind (f_X8_counted x14_1 mZ mV) (fun r23 => some (.inl ((x14_1 + 1), (f_X8_mix (Int32.toInt64 r23) mH_14))))
def f_X8_digest (mZ : (Nat → Int32)) (mV : Int32) (mB : (Nat → Int32)) (mY : Int32) : Option (Int64 × Int32 × (Nat → Int32) × Int64) :=
  dz_it (fun s : Int32 × Int64 => f_X8_digest_L14 mZ mV mB mY s.1 s.2) (0, 2861)
abbrev rm_X8_digest : Room := { frames := 11, cells := 0, slots := 0, locals := 251 }
theorem k_X8_digest : Cf yX8_digest wsX8_digest rm_X8_digest cX8_digest 2 (some .long) 0 := ⟨⟨_, rfl⟩, by decide +kernel, by decide +kernel, by decide +kernel⟩
set_option maxRecDepth 100000 in
set_option maxHeartbeats 4000000 in
theorem b_X8_digest (G : CG) (hl : (gL G).stackTraces = false) (h8 : Nat) (qz : Nat) (qv : Nat) (qp : Nat) (qf : Nat) (qo : Nat) (mT : Int32) (mZ : (Nat → Int32)) (mU : (Nat → Int32)) (mV : Int32) (mP : (Nat → Int32)) (mB : (Nat → Int32)) (mY : Int32) (mR : (Nat → Int32)) (mO : Int32) (mS : Int32) (mW : Int32) (mH : Int64) (y : Int64 × Int32 × (Nat → Int32) × Int64) (hf : f_X8_digest mZ mV mB mY = some y) : Ct G yX8_digest wsX8_digest rm_X8_digest [.ref h8] [(h8, .inr (8, [.int mT, .ref qz, .ref qv, .int mV, .ref qp, .ref qf, .int mY, .ref qo, .int mO, .int mS, .int mW, .long mH])), (qz, .inl (gI G, 1027, .inl mZ)), (qv, .inl (gI G, 6162, .inl mU)), (qp, .inl (gI G, 512, .inl mP)), (qf, .inl (gI G, 60, .inl mB)), (qo, .inl (gI G, 60, .inl mR))] (fin1 (some (.long y.1)) [(h8, .inr (8, [.int y.2.1, .ref qz, .ref qv, .int mV, .ref qp, .ref qf, .int mY, .ref qo, .int mO, .int mS, .int mW, .long y.2.2.2])), (qz, .inl (gI G, 1027, .inl y.2.2.1)), (qv, .inl (gI G, 6162, .inl mU)), (qp, .inl (gI G, 512, .inl mP)), (qf, .inl (gI G, 60, .inl mB)), (qo, .inl (gI G, 60, .inl mR))]) 0 0 := by
  refine Ct.of (cc := cX8_digest) (N := 2) (ret := (some .long)) RX8 (by decide) rfl rfl hl (Nat.le_of_ble_eq_true rfl) (lv := [(0, .ref h8)]) rfl (fun X hXG C hex hnm hQ => ?_)
  subst hXG
  unfold f_X8_digest at hf
  refine j_aload_n C dX8_digest_0 rfl 0 rfl ?_
  refine j_iconst C (v := 0) dX8_digest_1 (by decide) ?_
  refine j_put8 (ty := .int) (ws' := [(h8, .inr (8, [.int 0, .ref qz, .ref qv, .int mV, .ref qp, .ref qf, .int mY, .ref qo, .int mO, .int mS, .int mW, .long mH])), (qz, .inl (gI X.1, 1027, .inl mZ)), (qv, .inl (gI X.1, 6162, .inl mU)), (qp, .inl (gI X.1, 512, .inl mP)), (qf, .inl (gI X.1, 60, .inl mB)), (qo, .inl (gI X.1, 60, .inl mR))]) C 0 rfl 0 (by decide) in_X8_digest_8 lk_X8_digest_25 rfl (by decide +kernel) rfl rfl (Nat.le_of_ble_eq_true rfl) rfl dX8_digest_2 ?_
  refine j_aload_n C dX8_digest_5 rfl 0 rfl ?_
  refine j_ldc2 C (v := 2861) dX8_digest_6 wd_X8_digest_k209 ?_
  refine j_put8 (ty := .long) (ws' := [(h8, .inr (8, [.int 0, .ref qz, .ref qv, .int mV, .ref qp, .ref qf, .int mY, .ref qo, .int mO, .int mS, .int mW, .long 2861])), (qz, .inl (gI X.1, 1027, .inl mZ)), (qv, .inl (gI X.1, 6162, .inl mU)), (qp, .inl (gI X.1, 512, .inl mP)), (qf, .inl (gI X.1, 60, .inl mB)), (qo, .inl (gI X.1, 60, .inl mR))]) C 0 rfl 11 (by decide) in_X8_digest_8 lk_X8_digest_201 rfl (by decide +kernel) rfl rfl (Nat.le_of_ble_eq_true rfl) rfl dX8_digest_9 ?_
  refine j_iconst C (v := 0) dX8_digest_12 (by decide) ?_
  refine j_istore_n (lv' := [(1, .int 0), (0, .ref h8)]) C dX8_digest_13 rfl (by decide) rfl ?_
  have kk14 : ∀ (n : Nat) (x14_1 : Int32) (mH_14 : Int64), dz_iter n (fun s : Int32 × Int64 => f_X8_digest_L14 mZ mV mB mY s.1 s.2) (x14_1, mH_14) = some y → Jt X [(h8, .inr (8, [.int 0, .ref qz, .ref qv, .int mV, .ref qp, .ref qf, .int mY, .ref qo, .int mO, .int mS, .int mW, .long mH_14])), (qz, .inl (gI X.1, 1027, .inl mZ)), (qv, .inl (gI X.1, 6162, .inl mU)), (qp, .inl (gI X.1, 512, .inl mP)), (qf, .inl (gI X.1, 60, .inl mB)), (qo, .inl (gI X.1, 60, .inl mR))] 0 0 14 [(0, .ref h8), (1, .int x14_1)] [] := by
    intro n
    induction n with
    | zero => intro x14_1 mH_14 hit; exact absurd hit (by simp [dz_iter])
    | succ n ih14 =>
      intro x14_1 mH_14 hit
      obtain ⟨y14, hf, hg14⟩ := dz_iter_succ hit
      replace hf : f_X8_digest_L14 mZ mV mB mY x14_1 mH_14 = some y14 := hf
      unfold f_X8_digest_L14 at hf
      refine j_iload_n C dX8_digest_14 rfl 1 rfl ?_
      refine j_bipush C (v := 8) dX8_digest_15 (by decide) ?_
      refine j_icmp_gt C (tgt := 36) dX8_digest_17 (by decide) (fun e17 => ?_) (fun e17 => ?_)
      · have hf := (if_pos e17).symm.trans hf
        refine j_aload_n C dX8_digest_36 rfl 0 rfl ?_
        refine j_aload_n C dX8_digest_37 rfl 0 rfl ?_
        refine j_get8 C 0 rfl 1 (by decide) in_X8_digest_8 lk_X8_digest_7 rfl dX8_digest_38 ?_
        refine j_iconst C (v := 2) dX8_digest_41 (by decide) ?_
        refine j_iald C 1 rfl (by unfold vp_in; decide) dX8_digest_42 ?_
        refine j_i2l C dX8_digest_43 ?_
        refine j_cV C (c_X8_mix X.1 hl h8 qz qv qp qf qo 0 mZ mU mV mP mB mY mR mO mS mW mH_14 (Int32.toInt64 (mZ 2))) k_X8_mix gX8_digest_X8_mix rfl (ci := 8) (q0 := 0) rfl rfl (As := [.long (Int32.toInt64 (mZ 2))]) (rest := []) (st' := []) (ws' := [(h8, .inr (8, [.int 0, .ref qz, .ref qv, .int mV, .ref qp, .ref qf, .int mY, .ref qo, .int mO, .int mS, .int mW, .long (f_X8_mix (Int32.toInt64 (mZ 2)) mH_14)])), (qz, .inl (gI X.1, 1027, .inl mZ)), (qv, .inl (gI X.1, 6162, .inl mU)), (qp, .inl (gI X.1, 512, .inl mP)), (qf, .inl (gI X.1, 60, .inl mB)), (qo, .inl (gI X.1, 60, .inl mR))]) rfl rfl dX8_digest_44 [0, 1, 2, 3, 4, 5] [] [0, 1, 2, 3, 4, 5] rfl rfl rfl rfl rfl rfl ?_
        refine j_aload_n C dX8_digest_47 rfl 0 rfl ?_
        obtain ⟨r48, hc48, hf⟩ := Option.bind_eq_some_iff.mp hf
        refine j_cV C (b_X8_mixCube X.1 hl h8 qz qv qp qf qo 0 mZ mU mV mP mB mY mR mO mS mW (f_X8_mix (Int32.toInt64 (mZ 2)) mH_14) r48 hc48) k_X8_mixCube gX8_digest_X8_mixCube rfl (ci := 8) (q0 := 0) rfl rfl (As := []) (rest := []) (st' := []) (ws' := [(h8, .inr (8, [.int 0, .ref qz, .ref qv, .int mV, .ref qp, .ref qf, .int mY, .ref qo, .int mO, .int mS, .int mW, .long r48])), (qz, .inl (gI X.1, 1027, .inl mZ)), (qv, .inl (gI X.1, 6162, .inl mU)), (qp, .inl (gI X.1, 512, .inl mP)), (qf, .inl (gI X.1, 60, .inl mB)), (qo, .inl (gI X.1, 60, .inl mR))]) rfl rfl dX8_digest_48 [0, 1, 2, 3, 4, 5] [] [0, 1, 2, 3, 4, 5] rfl rfl rfl rfl rfl rfl ?_
        refine j_aload_n C dX8_digest_51 rfl 0 rfl ?_
        refine j_iconst C (v := 0) dX8_digest_52 (by decide) ?_
        obtain ⟨r53, hc53, hf⟩ := Option.bind_eq_some_iff.mp hf
        refine j_cV C (b_X8_mixRank X.1 hl h8 qz qv qp qf qo 0 mZ mU mV mP mB mY mR mO mS mW r48 0 r53 hc53) k_X8_mixRank gX8_digest_X8_mixRank rfl (ci := 8) (q0 := 0) rfl rfl (As := [.int 0]) (rest := []) (st' := []) (ws' := [(h8, .inr (8, [.int 0, .ref qz, .ref qv, .int mV, .ref qp, .ref qf, .int mY, .ref qo, .int mO, .int mS, .int mW, .long r53])), (qz, .inl (gI X.1, 1027, .inl mZ)), (qv, .inl (gI X.1, 6162, .inl mU)), (qp, .inl (gI X.1, 512, .inl mP)), (qf, .inl (gI X.1, 60, .inl mB)), (qo, .inl (gI X.1, 60, .inl mR))]) rfl rfl dX8_digest_53 [0, 1, 2, 3, 4, 5] [] [0, 1, 2, 3, 4, 5] rfl rfl rfl rfl rfl rfl ?_
        refine j_aload_n C dX8_digest_56 rfl 0 rfl ?_
        refine j_iconst C (v := 1) dX8_digest_57 (by decide) ?_
        obtain ⟨r58, hc58, hf⟩ := Option.bind_eq_some_iff.mp hf
        refine j_cV C (b_X8_mixRank X.1 hl h8 qz qv qp qf qo 0 mZ mU mV mP mB mY mR mO mS mW r53 1 r58 hc58) k_X8_mixRank gX8_digest_X8_mixRank rfl (ci := 8) (q0 := 0) rfl rfl (As := [.int 1]) (rest := []) (st' := []) (ws' := [(h8, .inr (8, [.int 0, .ref qz, .ref qv, .int mV, .ref qp, .ref qf, .int mY, .ref qo, .int mO, .int mS, .int mW, .long r58])), (qz, .inl (gI X.1, 1027, .inl mZ)), (qv, .inl (gI X.1, 6162, .inl mU)), (qp, .inl (gI X.1, 512, .inl mP)), (qf, .inl (gI X.1, 60, .inl mB)), (qo, .inl (gI X.1, 60, .inl mR))]) rfl rfl dX8_digest_58 [0, 1, 2, 3, 4, 5] [] [0, 1, 2, 3, 4, 5] rfl rfl rfl rfl rfl rfl ?_
        refine j_aload_n C dX8_digest_61 rfl 0 rfl ?_
        refine j_iconst C (v := 5) dX8_digest_62 (by decide) ?_
        obtain ⟨r63, hc63, hf⟩ := Option.bind_eq_some_iff.mp hf
        refine j_cV C (b_X8_mixRank X.1 hl h8 qz qv qp qf qo 0 mZ mU mV mP mB mY mR mO mS mW r58 5 r63 hc63) k_X8_mixRank gX8_digest_X8_mixRank rfl (ci := 8) (q0 := 0) rfl rfl (As := [.int 5]) (rest := []) (st' := []) (ws' := [(h8, .inr (8, [.int 0, .ref qz, .ref qv, .int mV, .ref qp, .ref qf, .int mY, .ref qo, .int mO, .int mS, .int mW, .long r63])), (qz, .inl (gI X.1, 1027, .inl mZ)), (qv, .inl (gI X.1, 6162, .inl mU)), (qp, .inl (gI X.1, 512, .inl mP)), (qf, .inl (gI X.1, 60, .inl mB)), (qo, .inl (gI X.1, 60, .inl mR))]) rfl rfl dX8_digest_63 [0, 1, 2, 3, 4, 5] [] [0, 1, 2, 3, 4, 5] rfl rfl rfl rfl rfl rfl ?_
        refine j_iconst C (v := 0) dX8_digest_66 (by decide) ?_
        refine j_istore_n (lv' := [(1, .int 0), (0, .ref h8)]) C dX8_digest_67 rfl (by decide) rfl ?_
        have kk68 : ∀ (n : Nat) (x68_1 : Int32) (mH_68 : Int64), dz_iter n (fun s : Int32 × Int64 => f_X8_digest_L68 mZ mB mY s.1 s.2) (x68_1, mH_68) = some y14 → Jt X [(h8, .inr (8, [.int 0, .ref qz, .ref qv, .int mV, .ref qp, .ref qf, .int mY, .ref qo, .int mO, .int mS, .int mW, .long mH_68])), (qz, .inl (gI X.1, 1027, .inl mZ)), (qv, .inl (gI X.1, 6162, .inl mU)), (qp, .inl (gI X.1, 512, .inl mP)), (qf, .inl (gI X.1, 60, .inl mB)), (qo, .inl (gI X.1, 60, .inl mR))] 0 0 68 [(0, .ref h8), (1, .int x68_1)] [] := by
          intro n
          induction n with
          | zero => intro x68_1 mH_68 hit; exact absurd hit (by simp [dz_iter])
          | succ n ih68 =>
            intro x68_1 mH_68 hit
            obtain ⟨y68, hf, hg68⟩ := dz_iter_succ hit
            replace hf : f_X8_digest_L68 mZ mB mY x68_1 mH_68 = some y68 := hf
            unfold f_X8_digest_L68 at hf
            refine j_iload_n C dX8_digest_68 rfl 1 rfl ?_
            refine j_iconst C (v := 3) dX8_digest_69 (by decide) ?_
            refine j_icmp_gt C (tgt := 89) dX8_digest_70 (by decide) (fun e70 => ?_) (fun e70 => ?_)
            · have hf := (if_pos e70).symm.trans hf
              refine j_iconst C (v := 0) dX8_digest_89 (by decide) ?_
              refine j_istore_n (lv' := [(1, .int 0), (0, .ref h8)]) C dX8_digest_90 rfl (by decide) rfl ?_
              have kk91 : ∀ (n : Nat) (x91_1 : Int32) (mH_91 : Int64), dz_iter n (fun s : Int32 × Int64 => f_X8_digest_L91 mZ mB mY s.1 s.2) (x91_1, mH_91) = some y68 → Jt X [(h8, .inr (8, [.int 0, .ref qz, .ref qv, .int mV, .ref qp, .ref qf, .int mY, .ref qo, .int mO, .int mS, .int mW, .long mH_91])), (qz, .inl (gI X.1, 1027, .inl mZ)), (qv, .inl (gI X.1, 6162, .inl mU)), (qp, .inl (gI X.1, 512, .inl mP)), (qf, .inl (gI X.1, 60, .inl mB)), (qo, .inl (gI X.1, 60, .inl mR))] 0 0 91 [(0, .ref h8), (1, .int x91_1)] [] := by
                intro n
                induction n with
                | zero => intro x91_1 mH_91 hit; exact absurd hit (by simp [dz_iter])
                | succ n ih91 =>
                  intro x91_1 mH_91 hit
                  obtain ⟨y91, hf, hg91⟩ := dz_iter_succ hit
                  replace hf : f_X8_digest_L91 mZ mB mY x91_1 mH_91 = some y91 := hf
                  unfold f_X8_digest_L91 at hf
                  refine j_iload_n C dX8_digest_91 rfl 1 rfl ?_
                  refine j_iconst C (v := 3) dX8_digest_92 (by decide) ?_
                  refine j_icmp_ge C (tgt := 112) dX8_digest_93 (by decide) (fun e93 => ?_) (fun e93 => ?_)
                  · have hf := (if_pos e93).symm.trans hf
                    refine j_iconst C (v := 0) dX8_digest_112 (by decide) ?_
                    refine j_istore_n (lv' := [(1, .int 0), (0, .ref h8)]) C dX8_digest_113 rfl (by decide) rfl ?_
                    have kk114 : ∀ (n : Nat) (x114_1 : Int32) (mZ_114 : (Nat → Int32)) (mH_114 : Int64), dz_iter n (fun s : Int32 × (Nat → Int32) × Int64 => f_X8_digest_L114 mB mY s.1 s.2.1 s.2.2) (x114_1, mZ_114, mH_114) = some y91 → Jt X [(h8, .inr (8, [.int 0, .ref qz, .ref qv, .int mV, .ref qp, .ref qf, .int mY, .ref qo, .int mO, .int mS, .int mW, .long mH_114])), (qz, .inl (gI X.1, 1027, .inl mZ_114)), (qv, .inl (gI X.1, 6162, .inl mU)), (qp, .inl (gI X.1, 512, .inl mP)), (qf, .inl (gI X.1, 60, .inl mB)), (qo, .inl (gI X.1, 60, .inl mR))] 0 0 114 [(0, .ref h8), (1, .int x114_1)] [] := by
                      intro n
                      induction n with
                      | zero => intro x114_1 mZ_114 mH_114 hit; exact absurd hit (by simp [dz_iter])
                      | succ n ih114 =>
                        intro x114_1 mZ_114 mH_114 hit
                        obtain ⟨y114, hf, hg114⟩ := dz_iter_succ hit
                        replace hf : f_X8_digest_L114 mB mY x114_1 mZ_114 mH_114 = some y114 := hf
                        unfold f_X8_digest_L114 at hf
                        refine j_iload_n C dX8_digest_114 rfl 1 rfl ?_
                        refine j_iconst C (v := 4) dX8_digest_115 (by decide) ?_
                        refine j_icmp_ge C (tgt := 151) dX8_digest_116 (by decide) (fun e116 => ?_) (fun e116 => ?_)
                        · have hf := (if_pos e116).symm.trans hf
                          refine j_iconst C (v := 0) dX8_digest_151 (by decide) ?_
                          refine j_istore_n (lv' := [(1, .int 0), (0, .ref h8)]) C dX8_digest_152 rfl (by decide) rfl ?_
                          have kk153 : ∀ (n : Nat) (x153_1 : Int32) (mZ_153 : (Nat → Int32)) (mH_153 : Int64), dz_iter n (fun s : Int32 × (Nat → Int32) × Int64 => f_X8_digest_L153 mB mY s.1 s.2.1 s.2.2) (x153_1, mZ_153, mH_153) = some y114 → Jt X [(h8, .inr (8, [.int 0, .ref qz, .ref qv, .int mV, .ref qp, .ref qf, .int mY, .ref qo, .int mO, .int mS, .int mW, .long mH_153])), (qz, .inl (gI X.1, 1027, .inl mZ_153)), (qv, .inl (gI X.1, 6162, .inl mU)), (qp, .inl (gI X.1, 512, .inl mP)), (qf, .inl (gI X.1, 60, .inl mB)), (qo, .inl (gI X.1, 60, .inl mR))] 0 0 153 [(0, .ref h8), (1, .int x153_1)] [] := by
                            intro n
                            induction n with
                            | zero => intro x153_1 mZ_153 mH_153 hit; exact absurd hit (by simp [dz_iter])
                            | succ n ih153 =>
                              intro x153_1 mZ_153 mH_153 hit
                              obtain ⟨y153, hf, hg153⟩ := dz_iter_succ hit
                              replace hf : f_X8_digest_L153 mB mY x153_1 mZ_153 mH_153 = some y153 := hf
                              unfold f_X8_digest_L153 at hf
                              refine j_iload_n C dX8_digest_153 rfl 1 rfl ?_
                              refine j_iconst C (v := 2) dX8_digest_154 (by decide) ?_
                              refine j_icmp_gt C (tgt := 174) dX8_digest_155 (by decide) (fun e155 => ?_) (fun e155 => ?_)
                              · have hf := (if_pos e155).symm.trans hf
                                refine j_iconst C (v := 0) dX8_digest_174 (by decide) ?_
                                refine j_istore_n (lv' := [(1, .int 0), (0, .ref h8)]) C dX8_digest_175 rfl (by decide) rfl ?_
                                have kk176 : ∀ (n : Nat) (x176_1 : Int32) (mH_176 : Int64), dz_iter n (fun s : Int32 × Int64 => f_X8_digest_L176 mB mY mZ_153 s.1 s.2) (x176_1, mH_176) = some y153 → Jt X [(h8, .inr (8, [.int 0, .ref qz, .ref qv, .int mV, .ref qp, .ref qf, .int mY, .ref qo, .int mO, .int mS, .int mW, .long mH_176])), (qz, .inl (gI X.1, 1027, .inl mZ_153)), (qv, .inl (gI X.1, 6162, .inl mU)), (qp, .inl (gI X.1, 512, .inl mP)), (qf, .inl (gI X.1, 60, .inl mB)), (qo, .inl (gI X.1, 60, .inl mR))] 0 0 176 [(0, .ref h8), (1, .int x176_1)] [] := by
                                  intro n
                                  induction n with
                                  | zero => intro x176_1 mH_176 hit; exact absurd hit (by simp [dz_iter])
                                  | succ n ih176 =>
                                    intro x176_1 mH_176 hit
                                    obtain ⟨y176, hf, hg176⟩ := dz_iter_succ hit
                                    replace hf : f_X8_digest_L176 mB mY mZ_153 x176_1 mH_176 = some y176 := hf
                                    unfold f_X8_digest_L176 at hf
                                    refine j_iload_n C dX8_digest_176 rfl 1 rfl ?_
                                    refine j_iconst C (v := 3) dX8_digest_177 (by decide) ?_
                                    refine j_icmp_gt C (tgt := 197) dX8_digest_178 (by decide) (fun e178 => ?_) (fun e178 => ?_)
                                    · have hf := (if_pos e178).symm.trans hf
                                      refine j_aload_n C dX8_digest_197 rfl 0 rfl ?_
                                      refine j_aload_n C dX8_digest_198 rfl 0 rfl ?_
                                      obtain ⟨r199, hc199, hf⟩ := Option.bind_eq_some_iff.mp hf
                                      refine j_cV C (b_X8_share X.1 hl h8 qz qv qp qf qo 0 mZ_153 mU mV mP mB mY mR mO mS mW mH_176 r199 hc199) k_X8_share gX8_digest_X8_share rfl (ci := 8) (q0 := 0) rfl rfl (As := []) (rest := [.ref h8]) (st' := [.double r199, .ref h8]) (ws' := [(h8, .inr (8, [.int 0, .ref qz, .ref qv, .int mV, .ref qp, .ref qf, .int mY, .ref qo, .int mO, .int mS, .int mW, .long mH_176])), (qz, .inl (gI X.1, 1027, .inl mZ_153)), (qv, .inl (gI X.1, 6162, .inl mU)), (qp, .inl (gI X.1, 512, .inl mP)), (qf, .inl (gI X.1, 60, .inl mB)), (qo, .inl (gI X.1, 60, .inl mR))]) rfl rfl dX8_digest_199 [0, 1, 2, 3, 4, 5] [] [0, 1, 2, 3, 4, 5] rfl rfl rfl rfl rfl rfl ?_
                                      obtain ⟨r202, hc202, hf⟩ := Option.bind_eq_some_iff.mp hf
                                      refine j_cS C (b_X8_bitsOf X.1 hl r199 r202 hc202) k_X8_bitsOf gX8_digest_X8_bitsOf (As := [.double r199]) (rest := [.ref h8]) (st' := [.long r202, .ref h8]) (ws' := [(h8, .inr (8, [.int 0, .ref qz, .ref qv, .int mV, .ref qp, .ref qf, .int mY, .ref qo, .int mO, .int mS, .int mW, .long mH_176])), (qz, .inl (gI X.1, 1027, .inl mZ_153)), (qv, .inl (gI X.1, 6162, .inl mU)), (qp, .inl (gI X.1, 512, .inl mP)), (qf, .inl (gI X.1, 60, .inl mB)), (qo, .inl (gI X.1, 60, .inl mR))]) rfl rfl dX8_digest_202 [] [0, 1, 2, 3, 4, 5] [0, 1, 2, 3, 4, 5] rfl rfl rfl rfl rfl rfl ?_
                                      refine j_cV C (c_X8_mix X.1 hl h8 qz qv qp qf qo 0 mZ_153 mU mV mP mB mY mR mO mS mW mH_176 r202) k_X8_mix gX8_digest_X8_mix rfl (ci := 8) (q0 := 0) rfl rfl (As := [.long r202]) (rest := []) (st' := []) (ws' := [(h8, .inr (8, [.int 0, .ref qz, .ref qv, .int mV, .ref qp, .ref qf, .int mY, .ref qo, .int mO, .int mS, .int mW, .long (f_X8_mix r202 mH_176)])), (qz, .inl (gI X.1, 1027, .inl mZ_153)), (qv, .inl (gI X.1, 6162, .inl mU)), (qp, .inl (gI X.1, 512, .inl mP)), (qf, .inl (gI X.1, 60, .inl mB)), (qo, .inl (gI X.1, 60, .inl mR))]) rfl rfl dX8_digest_205 [0, 1, 2, 3, 4, 5] [] [0, 1, 2, 3, 4, 5] rfl rfl rfl rfl rfl rfl ?_
                                      refine j_aload_n C dX8_digest_208 rfl 0 rfl ?_
                                      refine j_aload_n C dX8_digest_209 rfl 0 rfl ?_
                                      refine j_get8 C 0 rfl 6 (by decide) in_X8_digest_8 lk_X8_digest_103 rfl dX8_digest_210 ?_
                                      refine j_i2l C dX8_digest_213 ?_
                                      refine j_cV C (c_X8_mix X.1 hl h8 qz qv qp qf qo 0 mZ_153 mU mV mP mB mY mR mO mS mW (f_X8_mix r202 mH_176) (Int32.toInt64 mY)) k_X8_mix gX8_digest_X8_mix rfl (ci := 8) (q0 := 0) rfl rfl (As := [.long (Int32.toInt64 mY)]) (rest := []) (st' := []) (ws' := [(h8, .inr (8, [.int 0, .ref qz, .ref qv, .int mV, .ref qp, .ref qf, .int mY, .ref qo, .int mO, .int mS, .int mW, .long (f_X8_mix (Int32.toInt64 mY) (f_X8_mix r202 mH_176))])), (qz, .inl (gI X.1, 1027, .inl mZ_153)), (qv, .inl (gI X.1, 6162, .inl mU)), (qp, .inl (gI X.1, 512, .inl mP)), (qf, .inl (gI X.1, 60, .inl mB)), (qo, .inl (gI X.1, 60, .inl mR))]) rfl rfl dX8_digest_214 [0, 1, 2, 3, 4, 5] [] [0, 1, 2, 3, 4, 5] rfl rfl rfl rfl rfl rfl ?_
                                      refine j_iconst C (v := 0) dX8_digest_217 (by decide) ?_
                                      refine j_istore_n (lv' := [(1, .int 0), (0, .ref h8)]) C dX8_digest_218 rfl (by decide) rfl ?_
                                      have kk219 : ∀ (n : Nat) (x219_1 : Int32) (mH_219 : Int64), dz_iter n (fun s : Int32 × Int64 => f_X8_digest_L219 mB mY mZ_153 s.1 s.2) (x219_1, mH_219) = some y176 → Jt X [(h8, .inr (8, [.int 0, .ref qz, .ref qv, .int mV, .ref qp, .ref qf, .int mY, .ref qo, .int mO, .int mS, .int mW, .long mH_219])), (qz, .inl (gI X.1, 1027, .inl mZ_153)), (qv, .inl (gI X.1, 6162, .inl mU)), (qp, .inl (gI X.1, 512, .inl mP)), (qf, .inl (gI X.1, 60, .inl mB)), (qo, .inl (gI X.1, 60, .inl mR))] 0 0 219 [(0, .ref h8), (1, .int x219_1)] [] := by
                                        intro n
                                        induction n with
                                        | zero => intro x219_1 mH_219 hit; exact absurd hit (by simp [dz_iter])
                                        | succ n ih219 =>
                                          intro x219_1 mH_219 hit
                                          obtain ⟨y219, hf, hg219⟩ := dz_iter_succ hit
                                          replace hf : f_X8_digest_L219 mB mY mZ_153 x219_1 mH_219 = some y219 := hf
                                          unfold f_X8_digest_L219 at hf
                                          refine j_iload_n C dX8_digest_219 rfl 1 rfl ?_
                                          refine j_aload_n C dX8_digest_220 rfl 0 rfl ?_
                                          refine j_get8 C 0 rfl 6 (by decide) in_X8_digest_8 lk_X8_digest_103 rfl dX8_digest_221 ?_
                                          refine j_icmp_ge C (tgt := 244) dX8_digest_224 (by decide) (fun e224 => ?_) (fun e224 => ?_)
                                          · have hf := (if_pos e224).symm.trans hf
                                            refine j_aload_n C dX8_digest_244 rfl 0 rfl ?_
                                            refine j_get8 C 0 rfl 11 (by decide) in_X8_digest_8 lk_X8_digest_201 rfl dX8_digest_245 ?_
                                            obtain rfl := Option.some.inj hf
                                            obtain rfl := dz_go_inr hg219
                                            obtain rfl := dz_go_inr hg176
                                            obtain rfl := dz_go_inr hg153
                                            obtain rfl := dz_go_inr hg114
                                            obtain rfl := dz_go_inr hg91
                                            obtain rfl := dz_go_inr hg68
                                            obtain rfl := dz_go_inr hg14
                                            exact j_lret C hQ rfl dX8_digest_248 (Nat.zero_le _) (Nat.zero_le _) ⟨rfl, rfl⟩
                                          · have hf := (if_neg e224).symm.trans hf
                                            refine j_aload_n C dX8_digest_227 rfl 0 rfl ?_
                                            refine j_aload_n C dX8_digest_228 rfl 0 rfl ?_
                                            refine j_get8 C 0 rfl 5 (by decide) in_X8_digest_8 lk_X8_digest_19 rfl dX8_digest_229 ?_
                                            refine j_iload_n C dX8_digest_232 rfl 1 rfl ?_
                                            obtain ⟨z233, hf⟩ := dz_in_some hf
                                            refine j_iald C 4 rfl z233 dX8_digest_233 ?_
                                            refine j_i2l C dX8_digest_234 ?_
                                            refine j_cV C (c_X8_mix X.1 hl h8 qz qv qp qf qo 0 mZ_153 mU mV mP mB mY mR mO mS mW mH_219 (Int32.toInt64 (mB (Int32.toNatClampNeg x219_1)))) k_X8_mix gX8_digest_X8_mix rfl (ci := 8) (q0 := 0) rfl rfl (As := [.long (Int32.toInt64 (mB (Int32.toNatClampNeg x219_1)))]) (rest := []) (st' := []) (ws' := [(h8, .inr (8, [.int 0, .ref qz, .ref qv, .int mV, .ref qp, .ref qf, .int mY, .ref qo, .int mO, .int mS, .int mW, .long (f_X8_mix (Int32.toInt64 (mB (Int32.toNatClampNeg x219_1))) mH_219)])), (qz, .inl (gI X.1, 1027, .inl mZ_153)), (qv, .inl (gI X.1, 6162, .inl mU)), (qp, .inl (gI X.1, 512, .inl mP)), (qf, .inl (gI X.1, 60, .inl mB)), (qo, .inl (gI X.1, 60, .inl mR))]) rfl rfl dX8_digest_235 [0, 1, 2, 3, 4, 5] [] [0, 1, 2, 3, 4, 5] rfl rfl rfl rfl rfl rfl ?_
                                            refine j_iinc (v := (x219_1 + 1)) (lv' := [(1, .int (x219_1 + 1)), (0, .ref h8)]) C dX8_digest_238 1 rfl (by first | rfl | decide) (by decide) rfl ?_
                                            refine j_goto C (tgt := 219) dX8_digest_241 (by decide) ?_
                                            obtain rfl := Option.some.inj hf
                                            have hf := dz_go_inl hg219
                                            refine j_loc [1, 0] rfl ?_
                                            exact ih219 (x219_1 + 1) (f_X8_mix (Int32.toInt64 (mB (Int32.toNatClampNeg x219_1))) mH_219) hf
                                      refine j_loc [1, 0] rfl ?_
                                      exact kk219 _ 0 (f_X8_mix (Int32.toInt64 mY) (f_X8_mix r202 mH_176)) hf
                                    · have hf := (if_neg e178).symm.trans hf
                                      refine j_aload_n C dX8_digest_181 rfl 0 rfl ?_
                                      refine j_aload_n C dX8_digest_182 rfl 0 rfl ?_
                                      refine j_iload_n C dX8_digest_183 rfl 1 rfl ?_
                                      obtain ⟨r184, hc184, hf⟩ := Option.bind_eq_some_iff.mp hf
                                      refine j_cV C (b_X8_heaviestOf X.1 hl h8 qz qv qp qf qo 0 mZ_153 mU mV mP mB mY mR mO mS mW mH_176 x176_1 r184 hc184) k_X8_heaviestOf gX8_digest_X8_heaviestOf rfl (ci := 8) (q0 := 0) rfl rfl (As := [.int x176_1]) (rest := [.ref h8]) (st' := [.int r184, .ref h8]) (ws' := [(h8, .inr (8, [.int 0, .ref qz, .ref qv, .int mV, .ref qp, .ref qf, .int mY, .ref qo, .int mO, .int mS, .int mW, .long mH_176])), (qz, .inl (gI X.1, 1027, .inl mZ_153)), (qv, .inl (gI X.1, 6162, .inl mU)), (qp, .inl (gI X.1, 512, .inl mP)), (qf, .inl (gI X.1, 60, .inl mB)), (qo, .inl (gI X.1, 60, .inl mR))]) rfl rfl dX8_digest_184 [0, 1, 2, 3, 4, 5] [] [0, 1, 2, 3, 4, 5] rfl rfl rfl rfl rfl rfl ?_
                                      refine j_i2l C dX8_digest_187 ?_
                                      refine j_cV C (c_X8_mix X.1 hl h8 qz qv qp qf qo 0 mZ_153 mU mV mP mB mY mR mO mS mW mH_176 (Int32.toInt64 r184)) k_X8_mix gX8_digest_X8_mix rfl (ci := 8) (q0 := 0) rfl rfl (As := [.long (Int32.toInt64 r184)]) (rest := []) (st' := []) (ws' := [(h8, .inr (8, [.int 0, .ref qz, .ref qv, .int mV, .ref qp, .ref qf, .int mY, .ref qo, .int mO, .int mS, .int mW, .long (f_X8_mix (Int32.toInt64 r184) mH_176)])), (qz, .inl (gI X.1, 1027, .inl mZ_153)), (qv, .inl (gI X.1, 6162, .inl mU)), (qp, .inl (gI X.1, 512, .inl mP)), (qf, .inl (gI X.1, 60, .inl mB)), (qo, .inl (gI X.1, 60, .inl mR))]) rfl rfl dX8_digest_188 [0, 1, 2, 3, 4, 5] [] [0, 1, 2, 3, 4, 5] rfl rfl rfl rfl rfl rfl ?_
                                      refine j_iinc (v := (x176_1 + 1)) (lv' := [(1, .int (x176_1 + 1)), (0, .ref h8)]) C dX8_digest_191 1 rfl (by first | rfl | decide) (by decide) rfl ?_
                                      refine j_goto C (tgt := 176) dX8_digest_194 (by decide) ?_
                                      obtain rfl := Option.some.inj hf
                                      have hf := dz_go_inl hg176
                                      refine j_loc [1, 0] rfl ?_
                                      exact ih176 (x176_1 + 1) (f_X8_mix (Int32.toInt64 r184) mH_176) hf
                                refine j_loc [1, 0] rfl ?_
                                exact kk176 _ 0 mH_153 hf
                              · have hf := (if_neg e155).symm.trans hf
                                refine j_aload_n C dX8_digest_158 rfl 0 rfl ?_
                                refine j_aload_n C dX8_digest_159 rfl 0 rfl ?_
                                refine j_iload_n C dX8_digest_160 rfl 1 rfl ?_
                                obtain ⟨r161, hc161, hf⟩ := Option.bind_eq_some_iff.mp hf
                                refine j_cV C (b_X8_bestOf X.1 hl h8 qz qv qp qf qo 0 mZ_153 mU mV mP mB mY mR mO mS mW mH_153 x153_1 r161 hc161) k_X8_bestOf gX8_digest_X8_bestOf rfl (ci := 8) (q0 := 0) rfl rfl (As := [.int x153_1]) (rest := [.ref h8]) (st' := [.int r161.1, .ref h8]) (ws' := [(h8, .inr (8, [.int 0, .ref qz, .ref qv, .int mV, .ref qp, .ref qf, .int mY, .ref qo, .int mO, .int mS, .int mW, .long mH_153])), (qz, .inl (gI X.1, 1027, .inl r161.2)), (qv, .inl (gI X.1, 6162, .inl mU)), (qp, .inl (gI X.1, 512, .inl mP)), (qf, .inl (gI X.1, 60, .inl mB)), (qo, .inl (gI X.1, 60, .inl mR))]) rfl rfl dX8_digest_161 [0, 1, 2, 3, 4, 5] [] [0, 1, 2, 3, 4, 5] rfl rfl rfl rfl rfl rfl ?_
                                refine j_i2l C dX8_digest_164 ?_
                                refine j_cV C (c_X8_mix X.1 hl h8 qz qv qp qf qo 0 r161.2 mU mV mP mB mY mR mO mS mW mH_153 (Int32.toInt64 r161.1)) k_X8_mix gX8_digest_X8_mix rfl (ci := 8) (q0 := 0) rfl rfl (As := [.long (Int32.toInt64 r161.1)]) (rest := []) (st' := []) (ws' := [(h8, .inr (8, [.int 0, .ref qz, .ref qv, .int mV, .ref qp, .ref qf, .int mY, .ref qo, .int mO, .int mS, .int mW, .long (f_X8_mix (Int32.toInt64 r161.1) mH_153)])), (qz, .inl (gI X.1, 1027, .inl r161.2)), (qv, .inl (gI X.1, 6162, .inl mU)), (qp, .inl (gI X.1, 512, .inl mP)), (qf, .inl (gI X.1, 60, .inl mB)), (qo, .inl (gI X.1, 60, .inl mR))]) rfl rfl dX8_digest_165 [0, 1, 2, 3, 4, 5] [] [0, 1, 2, 3, 4, 5] rfl rfl rfl rfl rfl rfl ?_
                                refine j_iinc (v := (x153_1 + 1)) (lv' := [(1, .int (x153_1 + 1)), (0, .ref h8)]) C dX8_digest_168 1 rfl (by first | rfl | decide) (by decide) rfl ?_
                                refine j_goto C (tgt := 153) dX8_digest_171 (by decide) ?_
                                obtain rfl := Option.some.inj hf
                                have hf := dz_go_inl hg153
                                refine j_loc [1, 0] rfl ?_
                                exact ih153 (x153_1 + 1) r161.2 (f_X8_mix (Int32.toInt64 r161.1) mH_153) hf
                          refine j_loc [1, 0] rfl ?_
                          exact kk153 _ 0 mZ_114 mH_114 hf
                        · have hf := (if_neg e116).symm.trans hf
                          refine j_aload_n C dX8_digest_119 rfl 0 rfl ?_
                          refine j_aload_n C dX8_digest_120 rfl 0 rfl ?_
                          refine j_iconst C (v := 0) dX8_digest_121 (by decide) ?_
                          refine j_iconst C (v := 1) dX8_digest_122 (by decide) ?_
                          refine j_iconst C (v := 0) dX8_digest_123 (by decide) ?_
                          refine j_iload_n C dX8_digest_124 rfl 1 rfl ?_
                          refine j_iconst C (v := 2) dX8_digest_125 (by decide) ?_
                          have k135 : ∀ (s135_0 : Int32), f_X8_digest_J135 mH_114 mZ_114 s135_0 x114_1 = some y114 → Jt X [(h8, .inr (8, [.int 0, .ref qz, .ref qv, .int mV, .ref qp, .ref qf, .int mY, .ref qo, .int mO, .int mS, .int mW, .long mH_114])), (qz, .inl (gI X.1, 1027, .inl mZ_114)), (qv, .inl (gI X.1, 6162, .inl mU)), (qp, .inl (gI X.1, 512, .inl mP)), (qf, .inl (gI X.1, 60, .inl mB)), (qo, .inl (gI X.1, 60, .inl mR))] 0 0 135 [(0, .ref h8), (1, .int x114_1)] [.int s135_0, .int 0, .int 1, .int 0, .ref h8, .ref h8] := by
                            intro s135_0 hf
                            unfold f_X8_digest_J135 at hf
                            refine j_iload_n C dX8_digest_135 rfl 1 rfl ?_
                            refine j_iconst C (v := 2) dX8_digest_136 (by decide) ?_
                            refine j_irem C dX8_digest_137 (by decide) ?_
                            obtain ⟨r138, hc138, hf⟩ := Option.bind_eq_some_iff.mp hf
                            refine j_cV C (b_X8_wouldPut X.1 hl h8 qz qv qp qf qo 0 mZ_114 mU mV mP mB mY mR mO mS mW mH_114 0 1 0 s135_0 (x114_1 - x114_1 / 2 * 2) r138 hc138) k_X8_wouldPut gX8_digest_X8_wouldPut rfl (ci := 8) (q0 := 0) rfl rfl (As := [.int 0, .int 1, .int 0, .int s135_0, .int (x114_1 - x114_1 / 2 * 2)]) (rest := [.ref h8]) (st' := [.int r138.1, .ref h8]) (ws' := [(h8, .inr (8, [.int 0, .ref qz, .ref qv, .int mV, .ref qp, .ref qf, .int mY, .ref qo, .int mO, .int mS, .int mW, .long mH_114])), (qz, .inl (gI X.1, 1027, .inl r138.2)), (qv, .inl (gI X.1, 6162, .inl mU)), (qp, .inl (gI X.1, 512, .inl mP)), (qf, .inl (gI X.1, 60, .inl mB)), (qo, .inl (gI X.1, 60, .inl mR))]) rfl rfl dX8_digest_138 [0, 1, 2, 3, 4, 5] [] [0, 1, 2, 3, 4, 5] rfl rfl rfl rfl rfl rfl ?_
                            refine j_i2l C dX8_digest_141 ?_
                            refine j_cV C (c_X8_mix X.1 hl h8 qz qv qp qf qo 0 r138.2 mU mV mP mB mY mR mO mS mW mH_114 (Int32.toInt64 r138.1)) k_X8_mix gX8_digest_X8_mix rfl (ci := 8) (q0 := 0) rfl rfl (As := [.long (Int32.toInt64 r138.1)]) (rest := []) (st' := []) (ws' := [(h8, .inr (8, [.int 0, .ref qz, .ref qv, .int mV, .ref qp, .ref qf, .int mY, .ref qo, .int mO, .int mS, .int mW, .long (f_X8_mix (Int32.toInt64 r138.1) mH_114)])), (qz, .inl (gI X.1, 1027, .inl r138.2)), (qv, .inl (gI X.1, 6162, .inl mU)), (qp, .inl (gI X.1, 512, .inl mP)), (qf, .inl (gI X.1, 60, .inl mB)), (qo, .inl (gI X.1, 60, .inl mR))]) rfl rfl dX8_digest_142 [0, 1, 2, 3, 4, 5] [] [0, 1, 2, 3, 4, 5] rfl rfl rfl rfl rfl rfl ?_
                            refine j_iinc (v := (x114_1 + 1)) (lv' := [(1, .int (x114_1 + 1)), (0, .ref h8)]) C dX8_digest_145 1 rfl (by first | rfl | decide) (by decide) rfl ?_
                            refine j_goto C (tgt := 114) dX8_digest_148 (by decide) ?_
                            obtain rfl := Option.some.inj hf
                            have hf := dz_go_inl hg114
                            refine j_loc [1, 0] rfl ?_
                            exact ih114 (x114_1 + 1) r138.2 (f_X8_mix (Int32.toInt64 r138.1) mH_114) hf
                          refine j_icmp_ge C (tgt := 134) dX8_digest_126 (by decide) (fun e126 => ?_) (fun e126 => ?_)
                          · have hf := (if_pos e126).symm.trans hf
                            refine j_iconst C (v := 0) dX8_digest_134 (by decide) ?_
                            refine j_loc [0, 1] rfl ?_
                            exact k135 0 hf
                          · have hf := (if_neg e126).symm.trans hf
                            refine j_bipush C (v := 7) dX8_digest_129 (by decide) ?_
                            refine j_goto C (tgt := 135) dX8_digest_131 (by decide) ?_
                            refine j_loc [0, 1] rfl ?_
                            exact k135 7 hf
                    refine j_loc [1, 0] rfl ?_
                    exact kk114 _ 0 mZ mH_91 hf
                  · have hf := (if_neg e93).symm.trans hf
                    refine j_aload_n C dX8_digest_96 rfl 0 rfl ?_
                    refine j_aload_n C dX8_digest_97 rfl 0 rfl ?_
                    refine j_iload_n C dX8_digest_98 rfl 1 rfl ?_
                    obtain ⟨r99, hc99, hf⟩ := Option.bind_eq_some_iff.mp hf
                    refine j_cV C (b_X8_roomBy X.1 hl h8 qz qv qp qf qo 0 mZ mU mV mP mB mY mR mO mS mW mH_91 x91_1 r99 hc99) k_X8_roomBy gX8_digest_X8_roomBy rfl (ci := 8) (q0 := 0) rfl rfl (As := [.int x91_1]) (rest := [.ref h8]) (st' := [.int r99, .ref h8]) (ws' := [(h8, .inr (8, [.int 0, .ref qz, .ref qv, .int mV, .ref qp, .ref qf, .int mY, .ref qo, .int mO, .int mS, .int mW, .long mH_91])), (qz, .inl (gI X.1, 1027, .inl mZ)), (qv, .inl (gI X.1, 6162, .inl mU)), (qp, .inl (gI X.1, 512, .inl mP)), (qf, .inl (gI X.1, 60, .inl mB)), (qo, .inl (gI X.1, 60, .inl mR))]) rfl rfl dX8_digest_99 [0, 1, 2, 3, 4, 5] [] [0, 1, 2, 3, 4, 5] rfl rfl rfl rfl rfl rfl ?_
                    refine j_i2l C dX8_digest_102 ?_
                    refine j_cV C (c_X8_mix X.1 hl h8 qz qv qp qf qo 0 mZ mU mV mP mB mY mR mO mS mW mH_91 (Int32.toInt64 r99)) k_X8_mix gX8_digest_X8_mix rfl (ci := 8) (q0 := 0) rfl rfl (As := [.long (Int32.toInt64 r99)]) (rest := []) (st' := []) (ws' := [(h8, .inr (8, [.int 0, .ref qz, .ref qv, .int mV, .ref qp, .ref qf, .int mY, .ref qo, .int mO, .int mS, .int mW, .long (f_X8_mix (Int32.toInt64 r99) mH_91)])), (qz, .inl (gI X.1, 1027, .inl mZ)), (qv, .inl (gI X.1, 6162, .inl mU)), (qp, .inl (gI X.1, 512, .inl mP)), (qf, .inl (gI X.1, 60, .inl mB)), (qo, .inl (gI X.1, 60, .inl mR))]) rfl rfl dX8_digest_103 [0, 1, 2, 3, 4, 5] [] [0, 1, 2, 3, 4, 5] rfl rfl rfl rfl rfl rfl ?_
                    refine j_iinc (v := (x91_1 + 1)) (lv' := [(1, .int (x91_1 + 1)), (0, .ref h8)]) C dX8_digest_106 1 rfl (by first | rfl | decide) (by decide) rfl ?_
                    refine j_goto C (tgt := 91) dX8_digest_109 (by decide) ?_
                    obtain rfl := Option.some.inj hf
                    have hf := dz_go_inl hg91
                    refine j_loc [1, 0] rfl ?_
                    exact ih91 (x91_1 + 1) (f_X8_mix (Int32.toInt64 r99) mH_91) hf
              refine j_loc [1, 0] rfl ?_
              exact kk91 _ 0 mH_68 hf
            · have hf := (if_neg e70).symm.trans hf
              refine j_aload_n C dX8_digest_73 rfl 0 rfl ?_
              refine j_aload_n C dX8_digest_74 rfl 0 rfl ?_
              refine j_iload_n C dX8_digest_75 rfl 1 rfl ?_
              obtain ⟨r76, hc76, hf⟩ := Option.bind_eq_some_iff.mp hf
              refine j_cV C (b_X8_toldDifference X.1 hl h8 qz qv qp qf qo 0 mZ mU mV mP mB mY mR mO mS mW mH_68 x68_1 r76 hc76) k_X8_toldDifference gX8_digest_X8_toldDifference rfl (ci := 8) (q0 := 0) rfl rfl (As := [.int x68_1]) (rest := [.ref h8]) (st' := [.int r76, .ref h8]) (ws' := [(h8, .inr (8, [.int 0, .ref qz, .ref qv, .int mV, .ref qp, .ref qf, .int mY, .ref qo, .int mO, .int mS, .int mW, .long mH_68])), (qz, .inl (gI X.1, 1027, .inl mZ)), (qv, .inl (gI X.1, 6162, .inl mU)), (qp, .inl (gI X.1, 512, .inl mP)), (qf, .inl (gI X.1, 60, .inl mB)), (qo, .inl (gI X.1, 60, .inl mR))]) rfl rfl dX8_digest_76 [0, 1, 2, 3, 4, 5] [] [0, 1, 2, 3, 4, 5] rfl rfl rfl rfl rfl rfl ?_
              refine j_i2l C dX8_digest_79 ?_
              refine j_cV C (c_X8_mix X.1 hl h8 qz qv qp qf qo 0 mZ mU mV mP mB mY mR mO mS mW mH_68 (Int32.toInt64 r76)) k_X8_mix gX8_digest_X8_mix rfl (ci := 8) (q0 := 0) rfl rfl (As := [.long (Int32.toInt64 r76)]) (rest := []) (st' := []) (ws' := [(h8, .inr (8, [.int 0, .ref qz, .ref qv, .int mV, .ref qp, .ref qf, .int mY, .ref qo, .int mO, .int mS, .int mW, .long (f_X8_mix (Int32.toInt64 r76) mH_68)])), (qz, .inl (gI X.1, 1027, .inl mZ)), (qv, .inl (gI X.1, 6162, .inl mU)), (qp, .inl (gI X.1, 512, .inl mP)), (qf, .inl (gI X.1, 60, .inl mB)), (qo, .inl (gI X.1, 60, .inl mR))]) rfl rfl dX8_digest_80 [0, 1, 2, 3, 4, 5] [] [0, 1, 2, 3, 4, 5] rfl rfl rfl rfl rfl rfl ?_
              refine j_iinc (v := (x68_1 + 1)) (lv' := [(1, .int (x68_1 + 1)), (0, .ref h8)]) C dX8_digest_83 1 rfl (by first | rfl | decide) (by decide) rfl ?_
              refine j_goto C (tgt := 68) dX8_digest_86 (by decide) ?_
              obtain rfl := Option.some.inj hf
              have hf := dz_go_inl hg68
              refine j_loc [1, 0] rfl ?_
              exact ih68 (x68_1 + 1) (f_X8_mix (Int32.toInt64 r76) mH_68) hf
        refine j_loc [1, 0] rfl ?_
        exact kk68 _ 0 r63 hf
      · have hf := (if_neg e17).symm.trans hf
        refine j_aload_n C dX8_digest_20 rfl 0 rfl ?_
        refine j_aload_n C dX8_digest_21 rfl 0 rfl ?_
        refine j_iload_n C dX8_digest_22 rfl 1 rfl ?_
        obtain ⟨r23, hc23, hf⟩ := Option.bind_eq_some_iff.mp hf
        refine j_cV C (b_X8_counted X.1 hl h8 qz qv qp qf qo 0 mZ mU mV mP mB mY mR mO mS mW mH_14 x14_1 r23 hc23) k_X8_counted gX8_digest_X8_counted rfl (ci := 8) (q0 := 0) rfl rfl (As := [.int x14_1]) (rest := [.ref h8]) (st' := [.int r23, .ref h8]) (ws' := [(h8, .inr (8, [.int 0, .ref qz, .ref qv, .int mV, .ref qp, .ref qf, .int mY, .ref qo, .int mO, .int mS, .int mW, .long mH_14])), (qz, .inl (gI X.1, 1027, .inl mZ)), (qv, .inl (gI X.1, 6162, .inl mU)), (qp, .inl (gI X.1, 512, .inl mP)), (qf, .inl (gI X.1, 60, .inl mB)), (qo, .inl (gI X.1, 60, .inl mR))]) rfl rfl dX8_digest_23 [0, 1, 2, 3, 4, 5] [] [0, 1, 2, 3, 4, 5] rfl rfl rfl rfl rfl rfl ?_
        refine j_i2l C dX8_digest_26 ?_
        refine j_cV C (c_X8_mix X.1 hl h8 qz qv qp qf qo 0 mZ mU mV mP mB mY mR mO mS mW mH_14 (Int32.toInt64 r23)) k_X8_mix gX8_digest_X8_mix rfl (ci := 8) (q0 := 0) rfl rfl (As := [.long (Int32.toInt64 r23)]) (rest := []) (st' := []) (ws' := [(h8, .inr (8, [.int 0, .ref qz, .ref qv, .int mV, .ref qp, .ref qf, .int mY, .ref qo, .int mO, .int mS, .int mW, .long (f_X8_mix (Int32.toInt64 r23) mH_14)])), (qz, .inl (gI X.1, 1027, .inl mZ)), (qv, .inl (gI X.1, 6162, .inl mU)), (qp, .inl (gI X.1, 512, .inl mP)), (qf, .inl (gI X.1, 60, .inl mB)), (qo, .inl (gI X.1, 60, .inl mR))]) rfl rfl dX8_digest_27 [0, 1, 2, 3, 4, 5] [] [0, 1, 2, 3, 4, 5] rfl rfl rfl rfl rfl rfl ?_
        refine j_iinc (v := (x14_1 + 1)) (lv' := [(1, .int (x14_1 + 1)), (0, .ref h8)]) C dX8_digest_30 1 rfl (by first | rfl | decide) (by decide) rfl ?_
        refine j_goto C (tgt := 14) dX8_digest_33 (by decide) ?_
        obtain rfl := Option.some.inj hf
        have hf := dz_go_inl hg14
        refine j_loc [1, 0] rfl ?_
        exact ih14 (x14_1 + 1) (f_X8_mix (Int32.toInt64 r23) mH_14) hf
  refine j_loc [1, 0] rfl ?_
  exact kk14 _ 0 2861 hf

end
