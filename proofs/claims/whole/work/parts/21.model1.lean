noncomputable section
def f_X8_filled_J31 (s31_0 : Int32) (x5_3 : Int32) (x5_4 : Int32) : Option ((Int32 × Int32) ⊕ (Int32)) :=
  some (.inl ((x5_3 + s31_0), (x5_4 + 1)))
def f_X8_filled_L5 (p1 : Int32) (p2 : Int32) (mZ : (Nat → Int32)) (x5_3 : Int32) (x5_4 : Int32) : Option ((Int32 × Int32) ⊕ (Int32)) :=
  if (f_X8_offsets mZ) ≤ x5_4 then some (.inr (x5_3)) else Option.bind (f_X8_numberAt p1 p2 x5_4 mZ) (fun r20 => if r20 = 0 then (f_X8_filled_J31 0 x5_3 x5_4) else (f_X8_filled_J31 1 x5_3 x5_4))
def f_X8_filled (p1 : Int32) (p2 : Int32) (mZ : (Nat → Int32)) : Option (Int32) :=
  dz_it (fun s : Int32 × Int32 => f_X8_filled_L5 p1 p2 mZ s.1 s.2) (0, 0)
abbrev rm_X8_filled : Room := { frames := 5, cells := 0, slots := 0, locals := 108 }
theorem k_X8_filled : Cf yX8_filled wsX8_filled rm_X8_filled cX8_filled 5 (some .int) 2 := ⟨⟨_, rfl⟩, by decide +kernel, by decide +kernel, by decide +kernel⟩
set_option maxRecDepth 100000 in
set_option maxHeartbeats 4000000 in
theorem b_X8_filled (G : CG) (hl : (gL G).stackTraces = false) (h8 : Nat) (qz : Nat) (qv : Nat) (qp : Nat) (qf : Nat) (qo : Nat) (mT : Int32) (mZ : (Nat → Int32)) (mU : (Nat → Int32)) (mV : Int32) (mP : (Nat → Int32)) (mB : (Nat → Int32)) (mY : Int32) (mR : (Nat → Int32)) (mO : Int32) (mS : Int32) (mW : Int32) (mH : Int64) (p1 : Int32) (p2 : Int32) (y : Int32) (hf : f_X8_filled p1 p2 mZ = some y) : Ct G yX8_filled wsX8_filled rm_X8_filled [.ref h8, .int p1, .int p2] [(h8, .inr (8, [.int mT, .ref qz, .ref qv, .int mV, .ref qp, .ref qf, .int mY, .ref qo, .int mO, .int mS, .int mW, .long mH])), (qz, .inl (gI G, 1027, .inl mZ)), (qv, .inl (gI G, 6162, .inl mU)), (qp, .inl (gI G, 512, .inl mP)), (qf, .inl (gI G, 60, .inl mB)), (qo, .inl (gI G, 60, .inl mR))] (fin1 (some (.int y)) [(h8, .inr (8, [.int mT, .ref qz, .ref qv, .int mV, .ref qp, .ref qf, .int mY, .ref qo, .int mO, .int mS, .int mW, .long mH])), (qz, .inl (gI G, 1027, .inl mZ)), (qv, .inl (gI G, 6162, .inl mU)), (qp, .inl (gI G, 512, .inl mP)), (qf, .inl (gI G, 60, .inl mB)), (qo, .inl (gI G, 60, .inl mR))]) 0 0 := by
  refine Ct.of (cc := cX8_filled) (N := 5) (ret := (some .int)) RX8 (by decide) rfl rfl hl (Nat.le_of_ble_eq_true rfl) (lv := [(0, .ref h8), (1, .int p1), (2, .int p2)]) rfl (fun X hXG C hex hnm hQ => ?_)
  subst hXG
  unfold f_X8_filled at hf
  refine j_iconst C (v := 0) dX8_filled_0 (by decide) ?_
  refine j_istore_n (lv' := [(3, .int 0), (0, .ref h8), (1, .int p1), (2, .int p2)]) C dX8_filled_1 rfl (by decide) rfl ?_
  refine j_iconst C (v := 0) dX8_filled_2 (by decide) ?_
  refine j_istore (lv' := [(4, .int 0), (3, .int 0), (0, .ref h8), (1, .int p1), (2, .int p2)]) C dX8_filled_3 (by decide) rfl ?_
  have kk5 : ∀ (n : Nat) (x5_3 : Int32) (x5_4 : Int32), dz_iter n (fun s : Int32 × Int32 => f_X8_filled_L5 p1 p2 mZ s.1 s.2) (x5_3, x5_4) = some y → Jt X [(h8, .inr (8, [.int mT, .ref qz, .ref qv, .int mV, .ref qp, .ref qf, .int mY, .ref qo, .int mO, .int mS, .int mW, .long mH])), (qz, .inl (gI X.1, 1027, .inl mZ)), (qv, .inl (gI X.1, 6162, .inl mU)), (qp, .inl (gI X.1, 512, .inl mP)), (qf, .inl (gI X.1, 60, .inl mB)), (qo, .inl (gI X.1, 60, .inl mR))] 0 0 5 [(0, .ref h8), (1, .int p1), (2, .int p2), (3, .int x5_3), (4, .int x5_4)] [] := by
    intro n
    induction n with
    | zero => intro x5_3 x5_4 hit; exact absurd hit (by simp [dz_iter])
    | succ n ih5 =>
      intro x5_3 x5_4 hit
      obtain ⟨y5, hf, hg5⟩ := dz_iter_succ hit
      replace hf : f_X8_filled_L5 p1 p2 mZ x5_3 x5_4 = some y5 := hf
      unfold f_X8_filled_L5 at hf
      refine j_iload C dX8_filled_5 4 rfl ?_
      refine j_aload_n C dX8_filled_7 rfl 0 rfl ?_
      refine j_cV C (c_X8_offsets X.1 hl h8 qz qv qp qf qo mT mZ mU mV mP mB mY mR mO mS mW mH) k_X8_offsets gX8_filled_X8_offsets rfl (ci := 8) (q0 := 0) rfl rfl (As := []) (rest := [.int x5_4]) (st' := [.int (f_X8_offsets mZ), .int x5_4]) (ws' := [(h8, .inr (8, [.int mT, .ref qz, .ref qv, .int mV, .ref qp, .ref qf, .int mY, .ref qo, .int mO, .int mS, .int mW, .long mH])), (qz, .inl (gI X.1, 1027, .inl mZ)), (qv, .inl (gI X.1, 6162, .inl mU)), (qp, .inl (gI X.1, 512, .inl mP)), (qf, .inl (gI X.1, 60, .inl mB)), (qo, .inl (gI X.1, 60, .inl mR))]) rfl rfl dX8_filled_8 [0, 1, 2, 3, 4, 5] [] [0, 1, 2, 3, 4, 5] rfl rfl rfl rfl rfl rfl ?_
      refine j_icmp_ge C (tgt := 39) dX8_filled_11 (by decide) (fun e11 => ?_) (fun e11 => ?_)
      · have hf := (if_pos e11).symm.trans hf
        refine j_iload_n C dX8_filled_39 rfl 3 rfl ?_
        obtain rfl := Option.some.inj hf
        obtain rfl := dz_go_inr hg5
        exact j_iret C hQ rfl dX8_filled_40 (Nat.zero_le _) (Nat.zero_le _) ⟨rfl, rfl⟩
      · have hf := (if_neg e11).symm.trans hf
        refine j_iload_n C dX8_filled_14 rfl 3 rfl ?_
        refine j_aload_n C dX8_filled_15 rfl 0 rfl ?_
        refine j_iload_n C dX8_filled_16 rfl 1 rfl ?_
        refine j_iload_n C dX8_filled_17 rfl 2 rfl ?_
        refine j_iload C dX8_filled_18 4 rfl ?_
        obtain ⟨r20, hc20, hf⟩ := Option.bind_eq_some_iff.mp hf
        refine j_cV C (b_X8_numberAt X.1 hl h8 qz qv qp qf qo mT mZ mU mV mP mB mY mR mO mS mW mH p1 p2 x5_4 r20 hc20) k_X8_numberAt gX8_filled_X8_numberAt rfl (ci := 8) (q0 := 0) rfl rfl (As := [.int p1, .int p2, .int x5_4]) (rest := [.int x5_3]) (st' := [.int r20, .int x5_3]) (ws' := [(h8, .inr (8, [.int mT, .ref qz, .ref qv, .int mV, .ref qp, .ref qf, .int mY, .ref qo, .int mO, .int mS, .int mW, .long mH])), (qz, .inl (gI X.1, 1027, .inl mZ)), (qv, .inl (gI X.1, 6162, .inl mU)), (qp, .inl (gI X.1, 512, .inl mP)), (qf, .inl (gI X.1, 60, .inl mB)), (qo, .inl (gI X.1, 60, .inl mR))]) rfl rfl dX8_filled_20 [0, 1, 2, 3, 4, 5] [] [0, 1, 2, 3, 4, 5] rfl rfl rfl rfl rfl rfl ?_
        have k31 : ∀ (s31_0 : Int32), f_X8_filled_J31 s31_0 x5_3 x5_4 = some y5 → Jt X [(h8, .inr (8, [.int mT, .ref qz, .ref qv, .int mV, .ref qp, .ref qf, .int mY, .ref qo, .int mO, .int mS, .int mW, .long mH])), (qz, .inl (gI X.1, 1027, .inl mZ)), (qv, .inl (gI X.1, 6162, .inl mU)), (qp, .inl (gI X.1, 512, .inl mP)), (qf, .inl (gI X.1, 60, .inl mB)), (qo, .inl (gI X.1, 60, .inl mR))] 0 0 31 [(0, .ref h8), (1, .int p1), (2, .int p2), (3, .int x5_3), (4, .int x5_4)] [.int s31_0, .int x5_3] := by
          intro s31_0 hf
          unfold f_X8_filled_J31 at hf
          refine j_iadd C dX8_filled_31 ?_
          refine j_istore_n (lv' := [(3, .int (x5_3 + s31_0)), (0, .ref h8), (1, .int p1), (2, .int p2), (4, .int x5_4)]) C dX8_filled_32 rfl (by decide) rfl ?_
          refine j_iinc (v := (x5_4 + 1)) (lv' := [(4, .int (x5_4 + 1)), (3, .int (x5_3 + s31_0)), (0, .ref h8), (1, .int p1), (2, .int p2)]) C dX8_filled_33 4 rfl (by first | rfl | decide) (by decide) rfl ?_
          refine j_goto C (tgt := 5) dX8_filled_36 (by decide) ?_
          obtain rfl := Option.some.inj hf
          have hf := dz_go_inl hg5
          refine j_loc [2, 3, 4, 1, 0] rfl ?_
          exact ih5 (x5_3 + s31_0) (x5_4 + 1) hf
        refine j_if_ne C (tgt := 30) dX8_filled_23 (by decide) (fun e23 => ?_) (fun e23 => ?_)
        · have hf := (if_neg e23).symm.trans hf
          refine j_iconst C (v := 1) dX8_filled_30 (by decide) ?_
          refine j_loc [0, 1, 2, 3, 4] rfl ?_
          exact k31 1 hf
        · have hf := (if_pos e23).symm.trans hf
          refine j_iconst C (v := 0) dX8_filled_26 (by decide) ?_
          refine j_goto C (tgt := 31) dX8_filled_27 (by decide) ?_
          refine j_loc [0, 1, 2, 3, 4] rfl ?_
          exact k31 0 hf
  refine j_loc [2, 3, 4, 1, 0] rfl ?_
  exact kk5 _ 0 0 hf

def f_X8_sumOf_L5 (p1 : Int32) (p2 : Int32) (mZ : (Nat → Int32)) (x5_3 : Int32) (x5_4 : Int32) : Option ((Int32 × Int32) ⊕ (Int32)) :=
  if (f_X8_offsets mZ) ≤ x5_4 then some (.inr (x5_3)) else Option.bind (f_X8_numberAt p1 p2 x5_4 mZ) (fun r20 => some (.inl ((x5_3 + r20), (x5_4 + 1))))
def f_X8_sumOf (p1 : Int32) (p2 : Int32) (mZ : (Nat → Int32)) : Option (Int32) :=
  dz_it (fun s : Int32 × Int32 => f_X8_sumOf_L5 p1 p2 mZ s.1 s.2) (0, 0)
abbrev rm_X8_sumOf : Room := { frames := 5, cells := 0, slots := 0, locals := 108 }
theorem k_X8_sumOf : Cf yX8_sumOf wsX8_sumOf rm_X8_sumOf cX8_sumOf 5 (some .int) 2 := ⟨⟨_, rfl⟩, by decide +kernel, by decide +kernel, by decide +kernel⟩
set_option maxRecDepth 100000 in
set_option maxHeartbeats 4000000 in
theorem b_X8_sumOf (G : CG) (hl : (gL G).stackTraces = false) (h8 : Nat) (qz : Nat) (qv : Nat) (qp : Nat) (qf : Nat) (qo : Nat) (mT : Int32) (mZ : (Nat → Int32)) (mU : (Nat → Int32)) (mV : Int32) (mP : (Nat → Int32)) (mB : (Nat → Int32)) (mY : Int32) (mR : (Nat → Int32)) (mO : Int32) (mS : Int32) (mW : Int32) (mH : Int64) (p1 : Int32) (p2 : Int32) (y : Int32) (hf : f_X8_sumOf p1 p2 mZ = some y) : Ct G yX8_sumOf wsX8_sumOf rm_X8_sumOf [.ref h8, .int p1, .int p2] [(h8, .inr (8, [.int mT, .ref qz, .ref qv, .int mV, .ref qp, .ref qf, .int mY, .ref qo, .int mO, .int mS, .int mW, .long mH])), (qz, .inl (gI G, 1027, .inl mZ)), (qv, .inl (gI G, 6162, .inl mU)), (qp, .inl (gI G, 512, .inl mP)), (qf, .inl (gI G, 60, .inl mB)), (qo, .inl (gI G, 60, .inl mR))] (fin1 (some (.int y)) [(h8, .inr (8, [.int mT, .ref qz, .ref qv, .int mV, .ref qp, .ref qf, .int mY, .ref qo, .int mO, .int mS, .int mW, .long mH])), (qz, .inl (gI G, 1027, .inl mZ)), (qv, .inl (gI G, 6162, .inl mU)), (qp, .inl (gI G, 512, .inl mP)), (qf, .inl (gI G, 60, .inl mB)), (qo, .inl (gI G, 60, .inl mR))]) 0 0 := by
  refine Ct.of (cc := cX8_sumOf) (N := 5) (ret := (some .int)) RX8 (by decide) rfl rfl hl (Nat.le_of_ble_eq_true rfl) (lv := [(0, .ref h8), (1, .int p1), (2, .int p2)]) rfl (fun X hXG C hex hnm hQ => ?_)
  subst hXG
  unfold f_X8_sumOf at hf
  refine j_iconst C (v := 0) dX8_sumOf_0 (by decide) ?_
  refine j_istore_n (lv' := [(3, .int 0), (0, .ref h8), (1, .int p1), (2, .int p2)]) C dX8_sumOf_1 rfl (by decide) rfl ?_
  refine j_iconst C (v := 0) dX8_sumOf_2 (by decide) ?_
  refine j_istore (lv' := [(4, .int 0), (3, .int 0), (0, .ref h8), (1, .int p1), (2, .int p2)]) C dX8_sumOf_3 (by decide) rfl ?_
  have kk5 : ∀ (n : Nat) (x5_3 : Int32) (x5_4 : Int32), dz_iter n (fun s : Int32 × Int32 => f_X8_sumOf_L5 p1 p2 mZ s.1 s.2) (x5_3, x5_4) = some y → Jt X [(h8, .inr (8, [.int mT, .ref qz, .ref qv, .int mV, .ref qp, .ref qf, .int mY, .ref qo, .int mO, .int mS, .int mW, .long mH])), (qz, .inl (gI X.1, 1027, .inl mZ)), (qv, .inl (gI X.1, 6162, .inl mU)), (qp, .inl (gI X.1, 512, .inl mP)), (qf, .inl (gI X.1, 60, .inl mB)), (qo, .inl (gI X.1, 60, .inl mR))] 0 0 5 [(0, .ref h8), (1, .int p1), (2, .int p2), (3, .int x5_3), (4, .int x5_4)] [] := by
    intro n
    induction n with
    | zero => intro x5_3 x5_4 hit; exact absurd hit (by simp [dz_iter])
    | succ n ih5 =>
      intro x5_3 x5_4 hit
      obtain ⟨y5, hf, hg5⟩ := dz_iter_succ hit
      replace hf : f_X8_sumOf_L5 p1 p2 mZ x5_3 x5_4 = some y5 := hf
      unfold f_X8_sumOf_L5 at hf
      refine j_iload C dX8_sumOf_5 4 rfl ?_
      refine j_aload_n C dX8_sumOf_7 rfl 0 rfl ?_
      refine j_cV C (c_X8_offsets X.1 hl h8 qz qv qp qf qo mT mZ mU mV mP mB mY mR mO mS mW mH) k_X8_offsets gX8_sumOf_X8_offsets rfl (ci := 8) (q0 := 0) rfl rfl (As := []) (rest := [.int x5_4]) (st' := [.int (f_X8_offsets mZ), .int x5_4]) (ws' := [(h8, .inr (8, [.int mT, .ref qz, .ref qv, .int mV, .ref qp, .ref qf, .int mY, .ref qo, .int mO, .int mS, .int mW, .long mH])), (qz, .inl (gI X.1, 1027, .inl mZ)), (qv, .inl (gI X.1, 6162, .inl mU)), (qp, .inl (gI X.1, 512, .inl mP)), (qf, .inl (gI X.1, 60, .inl mB)), (qo, .inl (gI X.1, 60, .inl mR))]) rfl rfl dX8_sumOf_8 [0, 1, 2, 3, 4, 5] [] [0, 1, 2, 3, 4, 5] rfl rfl rfl rfl rfl rfl ?_
      refine j_icmp_ge C (tgt := 31) dX8_sumOf_11 (by decide) (fun e11 => ?_) (fun e11 => ?_)
      · have hf := (if_pos e11).symm.trans hf
        refine j_iload_n C dX8_sumOf_31 rfl 3 rfl ?_
        obtain rfl := Option.some.inj hf
        obtain rfl := dz_go_inr hg5
        exact j_iret C hQ rfl dX8_sumOf_32 (Nat.zero_le _) (Nat.zero_le _) ⟨rfl, rfl⟩
      · have hf := (if_neg e11).symm.trans hf
        refine j_iload_n C dX8_sumOf_14 rfl 3 rfl ?_
        refine j_aload_n C dX8_sumOf_15 rfl 0 rfl ?_
        refine j_iload_n C dX8_sumOf_16 rfl 1 rfl ?_
        refine j_iload_n C dX8_sumOf_17 rfl 2 rfl ?_
        refine j_iload C dX8_sumOf_18 4 rfl ?_
        obtain ⟨r20, hc20, hf⟩ := Option.bind_eq_some_iff.mp hf
        refine j_cV C (b_X8_numberAt X.1 hl h8 qz qv qp qf qo mT mZ mU mV mP mB mY mR mO mS mW mH p1 p2 x5_4 r20 hc20) k_X8_numberAt gX8_sumOf_X8_numberAt rfl (ci := 8) (q0 := 0) rfl rfl (As := [.int p1, .int p2, .int x5_4]) (rest := [.int x5_3]) (st' := [.int r20, .int x5_3]) (ws' := [(h8, .inr (8, [.int mT, .ref qz, .ref qv, .int mV, .ref qp, .ref qf, .int mY, .ref qo, .int mO, .int mS, .int mW, .long mH])), (qz, .inl (gI X.1, 1027, .inl mZ)), (qv, .inl (gI X.1, 6162, .inl mU)), (qp, .inl (gI X.1, 512, .inl mP)), (qf, .inl (gI X.1, 60, .inl mB)), (qo, .inl (gI X.1, 60, .inl mR))]) rfl rfl dX8_sumOf_20 [0, 1, 2, 3, 4, 5] [] [0, 1, 2, 3, 4, 5] rfl rfl rfl rfl rfl rfl ?_
        refine j_iadd C dX8_sumOf_23 ?_
        refine j_istore_n (lv' := [(3, .int (x5_3 + r20)), (0, .ref h8), (1, .int p1), (2, .int p2), (4, .int x5_4)]) C dX8_sumOf_24 rfl (by decide) rfl ?_
        refine j_iinc (v := (x5_4 + 1)) (lv' := [(4, .int (x5_4 + 1)), (3, .int (x5_3 + r20)), (0, .ref h8), (1, .int p1), (2, .int p2)]) C dX8_sumOf_25 4 rfl (by first | rfl | decide) (by decide) rfl ?_
        refine j_goto C (tgt := 5) dX8_sumOf_28 (by decide) ?_
        obtain rfl := Option.some.inj hf
        have hf := dz_go_inl hg5
        refine j_loc [2, 3, 4, 1, 0] rfl ?_
        exact ih5 (x5_3 + r20) (x5_4 + 1) hf
  refine j_loc [2, 3, 4, 1, 0] rfl ?_
  exact kk5 _ 0 0 hf

def f_X8_greatest_J40 (s40_0 : Int32) (x7_4 : Int32) : Option ((Int32 × Int32) ⊕ (Int32)) :=
  some (.inl (s40_0, (x7_4 + 1)))
def f_X8_greatest_L7 (p1 : Int32) (p2 : Int32) (mZ : (Nat → Int32)) (x7_3 : Int32) (x7_4 : Int32) : Option ((Int32 × Int32) ⊕ (Int32)) :=
  if (f_X8_offsets mZ) ≤ x7_4 then some (.inr (x7_3)) else Option.bind (f_X8_numberAt p1 p2 x7_4 mZ) (fun r21 => if r21 ≤ x7_3 then (f_X8_greatest_J40 x7_3 x7_4) else Option.bind (f_X8_numberAt p1 p2 x7_4 mZ) (fun r33 => (f_X8_greatest_J40 r33 x7_4)))
def f_X8_greatest (p1 : Int32) (p2 : Int32) (mZ : (Nat → Int32)) : Option (Int32) :=
  dz_it (fun s : Int32 × Int32 => f_X8_greatest_L7 p1 p2 mZ s.1 s.2) ((-999), 0)
abbrev rm_X8_greatest : Room := { frames := 5, cells := 0, slots := 0, locals := 108 }
theorem k_X8_greatest : Cf yX8_greatest wsX8_greatest rm_X8_greatest cX8_greatest 5 (some .int) 2 := ⟨⟨_, rfl⟩, by decide +kernel, by decide +kernel, by decide +kernel⟩
set_option maxRecDepth 100000 in
set_option maxHeartbeats 4000000 in
theorem b_X8_greatest (G : CG) (hl : (gL G).stackTraces = false) (h8 : Nat) (qz : Nat) (qv : Nat) (qp : Nat) (qf : Nat) (qo : Nat) (mT : Int32) (mZ : (Nat → Int32)) (mU : (Nat → Int32)) (mV : Int32) (mP : (Nat → Int32)) (mB : (Nat → Int32)) (mY : Int32) (mR : (Nat → Int32)) (mO : Int32) (mS : Int32) (mW : Int32) (mH : Int64) (p1 : Int32) (p2 : Int32) (y : Int32) (hf : f_X8_greatest p1 p2 mZ = some y) : Ct G yX8_greatest wsX8_greatest rm_X8_greatest [.ref h8, .int p1, .int p2] [(h8, .inr (8, [.int mT, .ref qz, .ref qv, .int mV, .ref qp, .ref qf, .int mY, .ref qo, .int mO, .int mS, .int mW, .long mH])), (qz, .inl (gI G, 1027, .inl mZ)), (qv, .inl (gI G, 6162, .inl mU)), (qp, .inl (gI G, 512, .inl mP)), (qf, .inl (gI G, 60, .inl mB)), (qo, .inl (gI G, 60, .inl mR))] (fin1 (some (.int y)) [(h8, .inr (8, [.int mT, .ref qz, .ref qv, .int mV, .ref qp, .ref qf, .int mY, .ref qo, .int mO, .int mS, .int mW, .long mH])), (qz, .inl (gI G, 1027, .inl mZ)), (qv, .inl (gI G, 6162, .inl mU)), (qp, .inl (gI G, 512, .inl mP)), (qf, .inl (gI G, 60, .inl mB)), (qo, .inl (gI G, 60, .inl mR))]) 0 0 := by
  refine Ct.of (cc := cX8_greatest) (N := 5) (ret := (some .int)) RX8 (by decide) rfl rfl hl (Nat.le_of_ble_eq_true rfl) (lv := [(0, .ref h8), (1, .int p1), (2, .int p2)]) rfl (fun X hXG C hex hnm hQ => ?_)
  subst hXG
  unfold f_X8_greatest at hf
  refine j_sipush C (v := (-999)) dX8_greatest_0 (by decide) ?_
  refine j_istore_n (lv' := [(3, .int (-999)), (0, .ref h8), (1, .int p1), (2, .int p2)]) C dX8_greatest_3 rfl (by decide) rfl ?_
  refine j_iconst C (v := 0) dX8_greatest_4 (by decide) ?_
  refine j_istore (lv' := [(4, .int 0), (3, .int (-999)), (0, .ref h8), (1, .int p1), (2, .int p2)]) C dX8_greatest_5 (by decide) rfl ?_
  have kk7 : ∀ (n : Nat) (x7_3 : Int32) (x7_4 : Int32), dz_iter n (fun s : Int32 × Int32 => f_X8_greatest_L7 p1 p2 mZ s.1 s.2) (x7_3, x7_4) = some y → Jt X [(h8, .inr (8, [.int mT, .ref qz, .ref qv, .int mV, .ref qp, .ref qf, .int mY, .ref qo, .int mO, .int mS, .int mW, .long mH])), (qz, .inl (gI X.1, 1027, .inl mZ)), (qv, .inl (gI X.1, 6162, .inl mU)), (qp, .inl (gI X.1, 512, .inl mP)), (qf, .inl (gI X.1, 60, .inl mB)), (qo, .inl (gI X.1, 60, .inl mR))] 0 0 7 [(0, .ref h8), (1, .int p1), (2, .int p2), (3, .int x7_3), (4, .int x7_4)] [] := by
    intro n
    induction n with
    | zero => intro x7_3 x7_4 hit; exact absurd hit (by simp [dz_iter])
    | succ n ih7 =>
      intro x7_3 x7_4 hit
      obtain ⟨y7, hf, hg7⟩ := dz_iter_succ hit
      replace hf : f_X8_greatest_L7 p1 p2 mZ x7_3 x7_4 = some y7 := hf
      unfold f_X8_greatest_L7 at hf
      refine j_iload C dX8_greatest_7 4 rfl ?_
      refine j_aload_n C dX8_greatest_9 rfl 0 rfl ?_
      refine j_cV C (c_X8_offsets X.1 hl h8 qz qv qp qf qo mT mZ mU mV mP mB mY mR mO mS mW mH) k_X8_offsets gX8_greatest_X8_offsets rfl (ci := 8) (q0 := 0) rfl rfl (As := []) (rest := [.int x7_4]) (st' := [.int (f_X8_offsets mZ), .int x7_4]) (ws' := [(h8, .inr (8, [.int mT, .ref qz, .ref qv, .int mV, .ref qp, .ref qf, .int mY, .ref qo, .int mO, .int mS, .int mW, .long mH])), (qz, .inl (gI X.1, 1027, .inl mZ)), (qv, .inl (gI X.1, 6162, .inl mU)), (qp, .inl (gI X.1, 512, .inl mP)), (qf, .inl (gI X.1, 60, .inl mB)), (qo, .inl (gI X.1, 60, .inl mR))]) rfl rfl dX8_greatest_10 [0, 1, 2, 3, 4, 5] [] [0, 1, 2, 3, 4, 5] rfl rfl rfl rfl rfl rfl ?_
      refine j_icmp_ge C (tgt := 47) dX8_greatest_13 (by decide) (fun e13 => ?_) (fun e13 => ?_)
      · have hf := (if_pos e13).symm.trans hf
        refine j_iload_n C dX8_greatest_47 rfl 3 rfl ?_
        obtain rfl := Option.some.inj hf
        obtain rfl := dz_go_inr hg7
        exact j_iret C hQ rfl dX8_greatest_48 (Nat.zero_le _) (Nat.zero_le _) ⟨rfl, rfl⟩
      · have hf := (if_neg e13).symm.trans hf
        refine j_aload_n C dX8_greatest_16 rfl 0 rfl ?_
        refine j_iload_n C dX8_greatest_17 rfl 1 rfl ?_
        refine j_iload_n C dX8_greatest_18 rfl 2 rfl ?_
        refine j_iload C dX8_greatest_19 4 rfl ?_
        obtain ⟨r21, hc21, hf⟩ := Option.bind_eq_some_iff.mp hf
        refine j_cV C (b_X8_numberAt X.1 hl h8 qz qv qp qf qo mT mZ mU mV mP mB mY mR mO mS mW mH p1 p2 x7_4 r21 hc21) k_X8_numberAt gX8_greatest_X8_numberAt rfl (ci := 8) (q0 := 0) rfl rfl (As := [.int p1, .int p2, .int x7_4]) (rest := []) (st' := [.int r21]) (ws' := [(h8, .inr (8, [.int mT, .ref qz, .ref qv, .int mV, .ref qp, .ref qf, .int mY, .ref qo, .int mO, .int mS, .int mW, .long mH])), (qz, .inl (gI X.1, 1027, .inl mZ)), (qv, .inl (gI X.1, 6162, .inl mU)), (qp, .inl (gI X.1, 512, .inl mP)), (qf, .inl (gI X.1, 60, .inl mB)), (qo, .inl (gI X.1, 60, .inl mR))]) rfl rfl dX8_greatest_21 [0, 1, 2, 3, 4, 5] [] [0, 1, 2, 3, 4, 5] rfl rfl rfl rfl rfl rfl ?_
        refine j_iload_n C dX8_greatest_24 rfl 3 rfl ?_
        have k40 : ∀ (s40_0 : Int32), f_X8_greatest_J40 s40_0 x7_4 = some y7 → Jt X [(h8, .inr (8, [.int mT, .ref qz, .ref qv, .int mV, .ref qp, .ref qf, .int mY, .ref qo, .int mO, .int mS, .int mW, .long mH])), (qz, .inl (gI X.1, 1027, .inl mZ)), (qv, .inl (gI X.1, 6162, .inl mU)), (qp, .inl (gI X.1, 512, .inl mP)), (qf, .inl (gI X.1, 60, .inl mB)), (qo, .inl (gI X.1, 60, .inl mR))] 0 0 40 [(0, .ref h8), (1, .int p1), (2, .int p2), (3, .int x7_3), (4, .int x7_4)] [.int s40_0] := by
          intro s40_0 hf
          unfold f_X8_greatest_J40 at hf
          refine j_istore_n (lv' := [(3, .int s40_0), (0, .ref h8), (1, .int p1), (2, .int p2), (4, .int x7_4)]) C dX8_greatest_40 rfl (by decide) rfl ?_
          refine j_iinc (v := (x7_4 + 1)) (lv' := [(4, .int (x7_4 + 1)), (3, .int s40_0), (0, .ref h8), (1, .int p1), (2, .int p2)]) C dX8_greatest_41 4 rfl (by first | rfl | decide) (by decide) rfl ?_
          refine j_goto C (tgt := 7) dX8_greatest_44 (by decide) ?_
          obtain rfl := Option.some.inj hf
          have hf := dz_go_inl hg7
          refine j_loc [2, 3, 4, 1, 0] rfl ?_
          exact ih7 s40_0 (x7_4 + 1) hf
        refine j_icmp_le C (tgt := 39) dX8_greatest_25 (by decide) (fun e25 => ?_) (fun e25 => ?_)
        · have hf := (if_pos e25).symm.trans hf
          refine j_iload_n C dX8_greatest_39 rfl 3 rfl ?_
          refine j_loc [0, 1, 2, 3, 4] rfl ?_
          exact k40 x7_3 hf
        · have hf := (if_neg e25).symm.trans hf
          refine j_aload_n C dX8_greatest_28 rfl 0 rfl ?_
          refine j_iload_n C dX8_greatest_29 rfl 1 rfl ?_
          refine j_iload_n C dX8_greatest_30 rfl 2 rfl ?_
          refine j_iload C dX8_greatest_31 4 rfl ?_
          obtain ⟨r33, hc33, hf⟩ := Option.bind_eq_some_iff.mp hf
          refine j_cV C (b_X8_numberAt X.1 hl h8 qz qv qp qf qo mT mZ mU mV mP mB mY mR mO mS mW mH p1 p2 x7_4 r33 hc33) k_X8_numberAt gX8_greatest_X8_numberAt rfl (ci := 8) (q0 := 0) rfl rfl (As := [.int p1, .int p2, .int x7_4]) (rest := []) (st' := [.int r33]) (ws' := [(h8, .inr (8, [.int mT, .ref qz, .ref qv, .int mV, .ref qp, .ref qf, .int mY, .ref qo, .int mO, .int mS, .int mW, .long mH])), (qz, .inl (gI X.1, 1027, .inl mZ)), (qv, .inl (gI X.1, 6162, .inl mU)), (qp, .inl (gI X.1, 512, .inl mP)), (qf, .inl (gI X.1, 60, .inl mB)), (qo, .inl (gI X.1, 60, .inl mR))]) rfl rfl dX8_greatest_33 [0, 1, 2, 3, 4, 5] [] [0, 1, 2, 3, 4, 5] rfl rfl rfl rfl rfl rfl ?_
          refine j_goto C (tgt := 40) dX8_greatest_36 (by decide) ?_
          refine j_loc [0, 1, 2, 3, 4] rfl ?_
          exact k40 r33 hf
  refine j_loc [2, 3, 4, 1, 0] rfl ?_
  exact kk7 _ (-999) 0 hf

theorem lk_X8_form_7 : Cond.fieldLink RX8 7 (TX8 1).1 (TX8 1).2.1 (TX8 1).2.2.1 ∈ wsX8_form := by decide +kernel
theorem in_X8_form_8 : ∀ w ∈ wsX80, w ∈ wsX8_form := by decide +kernel
def f_X8_form (p1 : Int32) (p2 : Int32) (mZ : (Nat → Int32)) : Option (Int32) :=
  Option.bind (f_X8_filled p1 p2 mZ) (fun r3 => if r3 = 0 then some (0) else if (mZ 2) < r3 then some (2) else some (1))
abbrev rm_X8_form : Room := { frames := 6, cells := 0, slots := 0, locals := 132 }
theorem k_X8_form : Cf yX8_form wsX8_form rm_X8_form cX8_form 4 (some .int) 2 := ⟨⟨_, rfl⟩, by decide +kernel, by decide +kernel, by decide +kernel⟩
set_option maxRecDepth 100000 in
set_option maxHeartbeats 4000000 in
theorem b_X8_form (G : CG) (hl : (gL G).stackTraces = false) (h8 : Nat) (qz : Nat) (qv : Nat) (qp : Nat) (qf : Nat) (qo : Nat) (mT : Int32) (mZ : (Nat → Int32)) (mU : (Nat → Int32)) (mV : Int32) (mP : (Nat → Int32)) (mB : (Nat → Int32)) (mY : Int32) (mR : (Nat → Int32)) (mO : Int32) (mS : Int32) (mW : Int32) (mH : Int64) (p1 : Int32) (p2 : Int32) (y : Int32) (hf : f_X8_form p1 p2 mZ = some y) : Ct G yX8_form wsX8_form rm_X8_form [.ref h8, .int p1, .int p2] [(h8, .inr (8, [.int mT, .ref qz, .ref qv, .int mV, .ref qp, .ref qf, .int mY, .ref qo, .int mO, .int mS, .int mW, .long mH])), (qz, .inl (gI G, 1027, .inl mZ)), (qv, .inl (gI G, 6162, .inl mU)), (qp, .inl (gI G, 512, .inl mP)), (qf, .inl (gI G, 60, .inl mB)), (qo, .inl (gI G, 60, .inl mR))] (fin1 (some (.int y)) [(h8, .inr (8, [.int mT, .ref qz, .ref qv, .int mV, .ref qp, .ref qf, .int mY, .ref qo, .int mO, .int mS, .int mW, .long mH])), (qz, .inl (gI G, 1027, .inl mZ)), (qv, .inl (gI G, 6162, .inl mU)), (qp, .inl (gI G, 512, .inl mP)), (qf, .inl (gI G, 60, .inl mB)), (qo, .inl (gI G, 60, .inl mR))]) 0 0 := by
  refine Ct.of (cc := cX8_form) (N := 4) (ret := (some .int)) RX8 (by decide) rfl rfl hl (Nat.le_of_ble_eq_true rfl) (lv := [(0, .ref h8), (1, .int p1), (2, .int p2)]) rfl (fun X hXG C hex hnm hQ => ?_)
  subst hXG
  unfold f_X8_form at hf
  refine j_aload_n C dX8_form_0 rfl 0 rfl ?_
  refine j_iload_n C dX8_form_1 rfl 1 rfl ?_
  refine j_iload_n C dX8_form_2 rfl 2 rfl ?_
  obtain ⟨r3, hc3, hf⟩ := Option.bind_eq_some_iff.mp hf
  refine j_cV C (b_X8_filled X.1 hl h8 qz qv qp qf qo mT mZ mU mV mP mB mY mR mO mS mW mH p1 p2 r3 hc3) k_X8_filled gX8_form_X8_filled rfl (ci := 8) (q0 := 0) rfl rfl (As := [.int p1, .int p2]) (rest := []) (st' := [.int r3]) (ws' := [(h8, .inr (8, [.int mT, .ref qz, .ref qv, .int mV, .ref qp, .ref qf, .int mY, .ref qo, .int mO, .int mS, .int mW, .long mH])), (qz, .inl (gI X.1, 1027, .inl mZ)), (qv, .inl (gI X.1, 6162, .inl mU)), (qp, .inl (gI X.1, 512, .inl mP)), (qf, .inl (gI X.1, 60, .inl mB)), (qo, .inl (gI X.1, 60, .inl mR))]) rfl rfl dX8_form_3 [0, 1, 2, 3, 4, 5] [] [0, 1, 2, 3, 4, 5] rfl rfl rfl rfl rfl rfl ?_
  refine j_istore_n (lv' := [(3, .int r3), (0, .ref h8), (1, .int p1), (2, .int p2)]) C dX8_form_6 rfl (by decide) rfl ?_
  refine j_iload_n C dX8_form_7 rfl 0 rfl ?_
  refine j_if_ne C (tgt := 15) dX8_form_8 (by decide) (fun e8 => ?_) (fun e8 => ?_)
  · have hf := (if_neg e8).symm.trans hf
    refine j_iload_n C dX8_form_15 rfl 0 rfl ?_
    refine j_aload_n C dX8_form_16 rfl 1 rfl ?_
    refine j_get8 C 0 rfl 1 (by decide) in_X8_form_8 lk_X8_form_7 rfl dX8_form_17 ?_
    refine j_iconst C (v := 2) dX8_form_20 (by decide) ?_
    refine j_iald C 1 rfl (by unfold vp_in; decide) dX8_form_21 ?_
    refine j_icmp_gt C (tgt := 29) dX8_form_22 (by decide) (fun e22 => ?_) (fun e22 => ?_)
    · have hf := (if_pos e22).symm.trans hf
      refine j_iconst C (v := 2) dX8_form_29 (by decide) ?_
      obtain rfl := Option.some.inj hf
      exact j_iret C hQ rfl dX8_form_30 (Nat.zero_le _) (Nat.zero_le _) ⟨rfl, rfl⟩
    · have hf := (if_neg e22).symm.trans hf
      refine j_iconst C (v := 1) dX8_form_25 (by decide) ?_
      refine j_goto C (tgt := 30) dX8_form_26 (by decide) ?_
      obtain rfl := Option.some.inj hf
      exact j_iret C hQ rfl dX8_form_30 (Nat.zero_le _) (Nat.zero_le _) ⟨rfl, rfl⟩
  · have hf := (if_pos e8).symm.trans hf
    refine j_iconst C (v := 0) dX8_form_11 (by decide) ?_
    refine j_goto C (tgt := 30) dX8_form_12 (by decide) ?_
    obtain rfl := Option.some.inj hf
    exact j_iret C hQ rfl dX8_form_30 (Nat.zero_le _) (Nat.zero_le _) ⟨rfl, rfl⟩

def f_X8_listed_J55 (s33_0 : Int32) (s55_0 : Int32) (x8_3 : Int32) (x8_5 : Int32) : Option ((Int32 × Int32 × Int32) ⊕ (Int32)) :=
  some (.inl ((x8_3 + s55_0), s33_0, (x8_5 + 1)))
def f_X8_listed_J33 (s33_0 : Int32) (x8_3 : Int32) (x8_4 : Int32) (x8_5 : Int32) : Option ((Int32 × Int32 × Int32) ⊕ (Int32)) :=
  if s33_0 = 0 then (f_X8_listed_J55 s33_0 0 x8_3 x8_5) else if x8_4 = 0 then (f_X8_listed_J55 s33_0 2 x8_3 x8_5) else (f_X8_listed_J55 s33_0 1 x8_3 x8_5)
def f_X8_listed_L8 (p1 : Int32) (p2 : Int32) (mZ : (Nat → Int32)) (x8_3 : Int32) (x8_4 : Int32) (x8_5 : Int32) : Option ((Int32 × Int32 × Int32) ⊕ (Int32)) :=
  if (f_X8_offsets mZ) ≤ x8_5 then some (.inr (x8_3)) else Option.bind (f_X8_numberAt p1 p2 x8_5 mZ) (fun r22 => if r22 = 0 then (f_X8_listed_J33 0 x8_3 x8_4 x8_5) else (f_X8_listed_J33 1 x8_3 x8_4 x8_5))
def f_X8_listed (p1 : Int32) (p2 : Int32) (mZ : (Nat → Int32)) : Option (Int32) :=
  dz_it (fun s : Int32 × Int32 × Int32 => f_X8_listed_L8 p1 p2 mZ s.1 s.2.1 s.2.2) (1, 0, 0)
abbrev rm_X8_listed : Room := { frames := 5, cells := 0, slots := 0, locals := 108 }
theorem k_X8_listed : Cf yX8_listed wsX8_listed rm_X8_listed cX8_listed 7 (some .int) 2 := ⟨⟨_, rfl⟩, by decide +kernel, by decide +kernel, by decide +kernel⟩
set_option maxRecDepth 100000 in
set_option maxHeartbeats 4000000 in
theorem b_X8_listed (G : CG) (hl : (gL G).stackTraces = false) (h8 : Nat) (qz : Nat) (qv : Nat) (qp : Nat) (qf : Nat) (qo : Nat) (mT : Int32) (mZ : (Nat → Int32)) (mU : (Nat → Int32)) (mV : Int32) (mP : (Nat → Int32)) (mB : (Nat → Int32)) (mY : Int32) (mR : (Nat → Int32)) (mO : Int32) (mS : Int32) (mW : Int32) (mH : Int64) (p1 : Int32) (p2 : Int32) (y : Int32) (hf : f_X8_listed p1 p2 mZ = some y) : Ct G yX8_listed wsX8_listed rm_X8_listed [.ref h8, .int p1, .int p2] [(h8, .inr (8, [.int mT, .ref qz, .ref qv, .int mV, .ref qp, .ref qf, .int mY, .ref qo, .int mO, .int mS, .int mW, .long mH])), (qz, .inl (gI G, 1027, .inl mZ)), (qv, .inl (gI G, 6162, .inl mU)), (qp, .inl (gI G, 512, .inl mP)), (qf, .inl (gI G, 60, .inl mB)), (qo, .inl (gI G, 60, .inl mR))] (fin1 (some (.int y)) [(h8, .inr (8, [.int mT, .ref qz, .ref qv, .int mV, .ref qp, .ref qf, .int mY, .ref qo, .int mO, .int mS, .int mW, .long mH])), (qz, .inl (gI G, 1027, .inl mZ)), (qv, .inl (gI G, 6162, .inl mU)), (qp, .inl (gI G, 512, .inl mP)), (qf, .inl (gI G, 60, .inl mB)), (qo, .inl (gI G, 60, .inl mR))]) 0 0 := by
  refine Ct.of (cc := cX8_listed) (N := 7) (ret := (some .int)) RX8 (by decide) rfl rfl hl (Nat.le_of_ble_eq_true rfl) (lv := [(0, .ref h8), (1, .int p1), (2, .int p2)]) rfl (fun X hXG C hex hnm hQ => ?_)
  subst hXG
  unfold f_X8_listed at hf
  refine j_iconst C (v := 1) dX8_listed_0 (by decide) ?_
  refine j_istore_n (lv' := [(3, .int 1), (0, .ref h8), (1, .int p1), (2, .int p2)]) C dX8_listed_1 rfl (by decide) rfl ?_
  refine j_iconst C (v := 0) dX8_listed_2 (by decide) ?_
  refine j_istore (lv' := [(4, .int 0), (3, .int 1), (0, .ref h8), (1, .int p1), (2, .int p2)]) C dX8_listed_3 (by decide) rfl ?_
  refine j_iconst C (v := 0) dX8_listed_5 (by decide) ?_
  refine j_istore (lv' := [(5, .int 0), (4, .int 0), (3, .int 1), (0, .ref h8), (1, .int p1), (2, .int p2)]) C dX8_listed_6 (by decide) rfl ?_
  have kk8 : ∀ (n : Nat) (x8_3 : Int32) (x8_4 : Int32) (x8_5 : Int32), dz_iter n (fun s : Int32 × Int32 × Int32 => f_X8_listed_L8 p1 p2 mZ s.1 s.2.1 s.2.2) (x8_3, x8_4, x8_5) = some y → Jt X [(h8, .inr (8, [.int mT, .ref qz, .ref qv, .int mV, .ref qp, .ref qf, .int mY, .ref qo, .int mO, .int mS, .int mW, .long mH])), (qz, .inl (gI X.1, 1027, .inl mZ)), (qv, .inl (gI X.1, 6162, .inl mU)), (qp, .inl (gI X.1, 512, .inl mP)), (qf, .inl (gI X.1, 60, .inl mB)), (qo, .inl (gI X.1, 60, .inl mR))] 0 0 8 [(0, .ref h8), (1, .int p1), (2, .int p2), (3, .int x8_3), (4, .int x8_4), (5, .int x8_5)] [] := by
    intro n
    induction n with
    | zero => intro x8_3 x8_4 x8_5 hit; exact absurd hit (by simp [dz_iter])
    | succ n ih8 =>
      intro x8_3 x8_4 x8_5 hit
      obtain ⟨y8, hf, hg8⟩ := dz_iter_succ hit
      replace hf : f_X8_listed_L8 p1 p2 mZ x8_3 x8_4 x8_5 = some y8 := hf
      unfold f_X8_listed_L8 at hf
      refine j_iload C dX8_listed_8 5 rfl ?_
      refine j_aload_n C dX8_listed_10 rfl 0 rfl ?_
      refine j_cV C (c_X8_offsets X.1 hl h8 qz qv qp qf qo mT mZ mU mV mP mB mY mR mO mS mW mH) k_X8_offsets gX8_listed_X8_offsets rfl (ci := 8) (q0 := 0) rfl rfl (As := []) (rest := [.int x8_5]) (st' := [.int (f_X8_offsets mZ), .int x8_5]) (ws' := [(h8, .inr (8, [.int mT, .ref qz, .ref qv, .int mV, .ref qp, .ref qf, .int mY, .ref qo, .int mO, .int mS, .int mW, .long mH])), (qz, .inl (gI X.1, 1027, .inl mZ)), (qv, .inl (gI X.1, 6162, .inl mU)), (qp, .inl (gI X.1, 512, .inl mP)), (qf, .inl (gI X.1, 60, .inl mB)), (qo, .inl (gI X.1, 60, .inl mR))]) rfl rfl dX8_listed_11 [0, 1, 2, 3, 4, 5] [] [0, 1, 2, 3, 4, 5] rfl rfl rfl rfl rfl rfl ?_
      refine j_icmp_ge C (tgt := 67) dX8_listed_14 (by decide) (fun e14 => ?_) (fun e14 => ?_)
      · have hf := (if_pos e14).symm.trans hf
        refine j_iload_n C dX8_listed_67 rfl 3 rfl ?_
        obtain rfl := Option.some.inj hf
        obtain rfl := dz_go_inr hg8
        exact j_iret C hQ rfl dX8_listed_68 (Nat.zero_le _) (Nat.zero_le _) ⟨rfl, rfl⟩
      · have hf := (if_neg e14).symm.trans hf
        refine j_aload_n C dX8_listed_17 rfl 0 rfl ?_
        refine j_iload_n C dX8_listed_18 rfl 1 rfl ?_
        refine j_iload_n C dX8_listed_19 rfl 2 rfl ?_
        refine j_iload C dX8_listed_20 5 rfl ?_
        obtain ⟨r22, hc22, hf⟩ := Option.bind_eq_some_iff.mp hf
        refine j_cV C (b_X8_numberAt X.1 hl h8 qz qv qp qf qo mT mZ mU mV mP mB mY mR mO mS mW mH p1 p2 x8_5 r22 hc22) k_X8_numberAt gX8_listed_X8_numberAt rfl (ci := 8) (q0 := 0) rfl rfl (As := [.int p1, .int p2, .int x8_5]) (rest := []) (st' := [.int r22]) (ws' := [(h8, .inr (8, [.int mT, .ref qz, .ref qv, .int mV, .ref qp, .ref qf, .int mY, .ref qo, .int mO, .int mS, .int mW, .long mH])), (qz, .inl (gI X.1, 1027, .inl mZ)), (qv, .inl (gI X.1, 6162, .inl mU)), (qp, .inl (gI X.1, 512, .inl mP)), (qf, .inl (gI X.1, 60, .inl mB)), (qo, .inl (gI X.1, 60, .inl mR))]) rfl rfl dX8_listed_22 [0, 1, 2, 3, 4, 5] [] [0, 1, 2, 3, 4, 5] rfl rfl rfl rfl rfl rfl ?_
        have k33 : ∀ (s33_0 : Int32), f_X8_listed_J33 s33_0 x8_3 x8_4 x8_5 = some y8 → Jt X [(h8, .inr (8, [.int mT, .ref qz, .ref qv, .int mV, .ref qp, .ref qf, .int mY, .ref qo, .int mO, .int mS, .int mW, .long mH])), (qz, .inl (gI X.1, 1027, .inl mZ)), (qv, .inl (gI X.1, 6162, .inl mU)), (qp, .inl (gI X.1, 512, .inl mP)), (qf, .inl (gI X.1, 60, .inl mB)), (qo, .inl (gI X.1, 60, .inl mR))] 0 0 33 [(0, .ref h8), (1, .int p1), (2, .int p2), (3, .int x8_3), (4, .int x8_4), (5, .int x8_5)] [.int s33_0] := by
          intro s33_0 hf
          unfold f_X8_listed_J33 at hf
          refine j_istore (lv' := [(6, .int s33_0), (0, .ref h8), (1, .int p1), (2, .int p2), (3, .int x8_3), (4, .int x8_4), (5, .int x8_5)]) C dX8_listed_33 (by decide) rfl ?_
          refine j_iload_n C dX8_listed_35 rfl 4 rfl ?_
          refine j_iload C dX8_listed_36 0 rfl ?_
          have k55 : ∀ (s55_0 : Int32), f_X8_listed_J55 s33_0 s55_0 x8_3 x8_5 = some y8 → Jt X [(h8, .inr (8, [.int mT, .ref qz, .ref qv, .int mV, .ref qp, .ref qf, .int mY, .ref qo, .int mO, .int mS, .int mW, .long mH])), (qz, .inl (gI X.1, 1027, .inl mZ)), (qv, .inl (gI X.1, 6162, .inl mU)), (qp, .inl (gI X.1, 512, .inl mP)), (qf, .inl (gI X.1, 60, .inl mB)), (qo, .inl (gI X.1, 60, .inl mR))] 0 0 55 [(0, .ref h8), (1, .int p1), (2, .int p2), (3, .int x8_3), (4, .int x8_4), (5, .int x8_5), (6, .int s33_0)] [.int s55_0, .int x8_3] := by
            intro s55_0 hf
            unfold f_X8_listed_J55 at hf
            refine j_iadd C dX8_listed_55 ?_
            refine j_istore_n (lv' := [(3, .int (x8_3 + s55_0)), (0, .ref h8), (1, .int p1), (2, .int p2), (4, .int x8_4), (5, .int x8_5), (6, .int s33_0)]) C dX8_listed_56 rfl (by decide) rfl ?_
            refine j_iload C dX8_listed_57 6 rfl ?_
            refine j_istore (lv' := [(4, .int s33_0), (3, .int (x8_3 + s55_0)), (0, .ref h8), (1, .int p1), (2, .int p2), (5, .int x8_5), (6, .int s33_0)]) C dX8_listed_59 (by decide) rfl ?_
            refine j_iinc (v := (x8_5 + 1)) (lv' := [(5, .int (x8_5 + 1)), (4, .int s33_0), (3, .int (x8_3 + s55_0)), (0, .ref h8), (1, .int p1), (2, .int p2), (6, .int s33_0)]) C dX8_listed_61 5 rfl (by first | rfl | decide) (by decide) rfl ?_
            refine j_goto C (tgt := 8) dX8_listed_64 (by decide) ?_
            obtain rfl := Option.some.inj hf
            have hf := dz_go_inl hg8
            refine j_loc [3, 4, 5, 2, 1, 0] rfl ?_
            exact ih8 (x8_3 + s55_0) s33_0 (x8_5 + 1) hf
          refine j_if_ne C (tgt := 45) dX8_listed_38 (by decide) (fun e38 => ?_) (fun e38 => ?_)
          · have hf := (if_neg e38).symm.trans hf
            refine j_iload C dX8_listed_45 5 rfl ?_
            refine j_if_eq C (tgt := 54) dX8_listed_47 (by decide) (fun e47 => ?_) (fun e47 => ?_)
            · have hf := (if_pos e47).symm.trans hf
              refine j_iconst C (v := 2) dX8_listed_54 (by decide) ?_
              refine j_loc [1, 2, 3, 4, 5, 6, 0] rfl ?_
              exact k55 2 hf
            · have hf := (if_neg e47).symm.trans hf
              refine j_iconst C (v := 1) dX8_listed_50 (by decide) ?_
              refine j_goto C (tgt := 55) dX8_listed_51 (by decide) ?_
              refine j_loc [1, 2, 3, 4, 5, 6, 0] rfl ?_
              exact k55 1 hf
          · have hf := (if_pos e38).symm.trans hf
            refine j_iconst C (v := 0) dX8_listed_41 (by decide) ?_
            refine j_goto C (tgt := 55) dX8_listed_42 (by decide) ?_
            refine j_loc [1, 2, 3, 4, 5, 6, 0] rfl ?_
            exact k55 0 hf
        refine j_if_eq C (tgt := 32) dX8_listed_25 (by decide) (fun e25 => ?_) (fun e25 => ?_)
        · have hf := (if_pos e25).symm.trans hf
          refine j_iconst C (v := 0) dX8_listed_32 (by decide) ?_
          refine j_loc [0, 1, 2, 3, 4, 5] rfl ?_
          exact k33 0 hf
        · have hf := (if_neg e25).symm.trans hf
          refine j_iconst C (v := 1) dX8_listed_28 (by decide) ?_
          refine j_goto C (tgt := 33) dX8_listed_29 (by decide) ?_
          refine j_loc [0, 1, 2, 3, 4, 5] rfl ?_
          exact k33 1 hf
  refine j_loc [3, 4, 5, 2, 1, 0] rfl ?_
  exact kk8 _ 1 0 0 hf

def f_X8_roomOf (p1 : Int32) (p2 : Int32) (mZ : (Nat → Int32)) : Option (Int32) :=
  Option.bind (f_X8_form p1 p2 mZ) (fun r3 => if r3 = 0 then some (1) else if r3 = 1 then Option.bind (f_X8_listed p1 p2 mZ) (fun r23 => some (r23)) else some ((1 + (f_X8_offsets mZ))))
abbrev rm_X8_roomOf : Room := { frames := 7, cells := 0, slots := 0, locals := 155 }
theorem k_X8_roomOf : Cf yX8_roomOf wsX8_roomOf rm_X8_roomOf cX8_roomOf 4 (some .int) 2 := ⟨⟨_, rfl⟩, by decide +kernel, by decide +kernel, by decide +kernel⟩
set_option maxRecDepth 100000 in
set_option maxHeartbeats 4000000 in
theorem b_X8_roomOf (G : CG) (hl : (gL G).stackTraces = false) (h8 : Nat) (qz : Nat) (qv : Nat) (qp : Nat) (qf : Nat) (qo : Nat) (mT : Int32) (mZ : (Nat → Int32)) (mU : (Nat → Int32)) (mV : Int32) (mP : (Nat → Int32)) (mB : (Nat → Int32)) (mY : Int32) (mR : (Nat → Int32)) (mO : Int32) (mS : Int32) (mW : Int32) (mH : Int64) (p1 : Int32) (p2 : Int32) (y : Int32) (hf : f_X8_roomOf p1 p2 mZ = some y) : Ct G yX8_roomOf wsX8_roomOf rm_X8_roomOf [.ref h8, .int p1, .int p2] [(h8, .inr (8, [.int mT, .ref qz, .ref qv, .int mV, .ref qp, .ref qf, .int mY, .ref qo, .int mO, .int mS, .int mW, .long mH])), (qz, .inl (gI G, 1027, .inl mZ)), (qv, .inl (gI G, 6162, .inl mU)), (qp, .inl (gI G, 512, .inl mP)), (qf, .inl (gI G, 60, .inl mB)), (qo, .inl (gI G, 60, .inl mR))] (fin1 (some (.int y)) [(h8, .inr (8, [.int mT, .ref qz, .ref qv, .int mV, .ref qp, .ref qf, .int mY, .ref qo, .int mO, .int mS, .int mW, .long mH])), (qz, .inl (gI G, 1027, .inl mZ)), (qv, .inl (gI G, 6162, .inl mU)), (qp, .inl (gI G, 512, .inl mP)), (qf, .inl (gI G, 60, .inl mB)), (qo, .inl (gI G, 60, .inl mR))]) 0 0 := by
  refine Ct.of (cc := cX8_roomOf) (N := 4) (ret := (some .int)) RX8 (by decide) rfl rfl hl (Nat.le_of_ble_eq_true rfl) (lv := [(0, .ref h8), (1, .int p1), (2, .int p2)]) rfl (fun X hXG C hex hnm hQ => ?_)
  subst hXG
  unfold f_X8_roomOf at hf
  refine j_aload_n C dX8_roomOf_0 rfl 0 rfl ?_
  refine j_iload_n C dX8_roomOf_1 rfl 1 rfl ?_
  refine j_iload_n C dX8_roomOf_2 rfl 2 rfl ?_
  obtain ⟨r3, hc3, hf⟩ := Option.bind_eq_some_iff.mp hf
  refine j_cV C (b_X8_form X.1 hl h8 qz qv qp qf qo mT mZ mU mV mP mB mY mR mO mS mW mH p1 p2 r3 hc3) k_X8_form gX8_roomOf_X8_form rfl (ci := 8) (q0 := 0) rfl rfl (As := [.int p1, .int p2]) (rest := []) (st' := [.int r3]) (ws' := [(h8, .inr (8, [.int mT, .ref qz, .ref qv, .int mV, .ref qp, .ref qf, .int mY, .ref qo, .int mO, .int mS, .int mW, .long mH])), (qz, .inl (gI X.1, 1027, .inl mZ)), (qv, .inl (gI X.1, 6162, .inl mU)), (qp, .inl (gI X.1, 512, .inl mP)), (qf, .inl (gI X.1, 60, .inl mB)), (qo, .inl (gI X.1, 60, .inl mR))]) rfl rfl dX8_roomOf_3 [0, 1, 2, 3, 4, 5] [] [0, 1, 2, 3, 4, 5] rfl rfl rfl rfl rfl rfl ?_
  refine j_istore_n (lv' := [(3, .int r3), (0, .ref h8), (1, .int p1), (2, .int p2)]) C dX8_roomOf_6 rfl (by decide) rfl ?_
  refine j_iload_n C dX8_roomOf_7 rfl 0 rfl ?_
  refine j_if_ne C (tgt := 15) dX8_roomOf_8 (by decide) (fun e8 => ?_) (fun e8 => ?_)
  · have hf := (if_neg e8).symm.trans hf
    refine j_iload_n C dX8_roomOf_15 rfl 0 rfl ?_
    refine j_iconst C (v := 1) dX8_roomOf_16 (by decide) ?_
    refine j_icmp_ne C (tgt := 29) dX8_roomOf_17 (by decide) (fun e17 => ?_) (fun e17 => ?_)
    · have hf := (if_neg e17).symm.trans hf
      refine j_iconst C (v := 1) dX8_roomOf_29 (by decide) ?_
      refine j_aload_n C dX8_roomOf_30 rfl 1 rfl ?_
      refine j_cV C (c_X8_offsets X.1 hl h8 qz qv qp qf qo mT mZ mU mV mP mB mY mR mO mS mW mH) k_X8_offsets gX8_roomOf_X8_offsets rfl (ci := 8) (q0 := 0) rfl rfl (As := []) (rest := [.int 1]) (st' := [.int (f_X8_offsets mZ), .int 1]) (ws' := [(h8, .inr (8, [.int mT, .ref qz, .ref qv, .int mV, .ref qp, .ref qf, .int mY, .ref qo, .int mO, .int mS, .int mW, .long mH])), (qz, .inl (gI X.1, 1027, .inl mZ)), (qv, .inl (gI X.1, 6162, .inl mU)), (qp, .inl (gI X.1, 512, .inl mP)), (qf, .inl (gI X.1, 60, .inl mB)), (qo, .inl (gI X.1, 60, .inl mR))]) rfl rfl dX8_roomOf_31 [0, 1, 2, 3, 4, 5] [] [0, 1, 2, 3, 4, 5] rfl rfl rfl rfl rfl rfl ?_
      refine j_iadd C dX8_roomOf_34 ?_
      obtain rfl := Option.some.inj hf
      exact j_iret C hQ rfl dX8_roomOf_35 (Nat.zero_le _) (Nat.zero_le _) ⟨rfl, rfl⟩
    · have hf := (if_pos e17).symm.trans hf
      refine j_aload_n C dX8_roomOf_20 rfl 1 rfl ?_
      refine j_iload_n C dX8_roomOf_21 rfl 2 rfl ?_
      refine j_iload_n C dX8_roomOf_22 rfl 3 rfl ?_
      obtain ⟨r23, hc23, hf⟩ := Option.bind_eq_some_iff.mp hf
      refine j_cV C (b_X8_listed X.1 hl h8 qz qv qp qf qo mT mZ mU mV mP mB mY mR mO mS mW mH p1 p2 r23 hc23) k_X8_listed gX8_roomOf_X8_listed rfl (ci := 8) (q0 := 0) rfl rfl (As := [.int p1, .int p2]) (rest := []) (st' := [.int r23]) (ws' := [(h8, .inr (8, [.int mT, .ref qz, .ref qv, .int mV, .ref qp, .ref qf, .int mY, .ref qo, .int mO, .int mS, .int mW, .long mH])), (qz, .inl (gI X.1, 1027, .inl mZ)), (qv, .inl (gI X.1, 6162, .inl mU)), (qp, .inl (gI X.1, 512, .inl mP)), (qf, .inl (gI X.1, 60, .inl mB)), (qo, .inl (gI X.1, 60, .inl mR))]) rfl rfl dX8_roomOf_23 [0, 1, 2, 3, 4, 5] [] [0, 1, 2, 3, 4, 5] rfl rfl rfl rfl rfl rfl ?_
      refine j_goto C (tgt := 35) dX8_roomOf_26 (by decide) ?_
      obtain rfl := Option.some.inj hf
      exact j_iret C hQ rfl dX8_roomOf_35 (Nat.zero_le _) (Nat.zero_le _) ⟨rfl, rfl⟩
  · have hf := (if_pos e8).symm.trans hf
    refine j_iconst C (v := 1) dX8_roomOf_11 (by decide) ?_
    refine j_goto C (tgt := 35) dX8_roomOf_12 (by decide) ?_
    obtain rfl := Option.some.inj hf
    exact j_iret C hQ rfl dX8_roomOf_35 (Nat.zero_le _) (Nat.zero_le _) ⟨rfl, rfl⟩

theorem lk_X8_roomBy_7 : Cond.fieldLink RX8 7 (TX8 1).1 (TX8 1).2.1 (TX8 1).2.2.1 ∈ wsX8_roomBy := by decide +kernel
theorem in_X8_roomBy_8 : ∀ w ∈ wsX80, w ∈ wsX8_roomBy := by decide +kernel
def f_X8_roomBy_J61 (s61_0 : Int32) (x4_2 : Int32) (x4_3 : Int32) : Option ((Int32 × Int32) ⊕ (Int32)) :=
  some (.inl ((x4_2 + s61_0), (x4_3 + 1)))
def f_X8_roomBy_J43 (p1 : Int32) (mZ : (Nat → Int32)) (s43_0 : Int32) (x4_2 : Int32) (x4_3 : Int32) : Option ((Int32 × Int32) ⊕ (Int32)) :=
  if s43_0 = 0 then Option.bind (f_X8_roomOf p1 x4_3 mZ) (fun r58 => (f_X8_roomBy_J61 r58 x4_2 x4_3)) else (f_X8_roomBy_J61 0 x4_2 x4_3)
def f_X8_roomBy_J42 (p1 : Int32) (mZ : (Nat → Int32)) (x4_2 : Int32) (x4_3 : Int32) : Option ((Int32 × Int32) ⊕ (Int32)) :=
  (f_X8_roomBy_J43 p1 mZ 0 x4_2 x4_3)
def f_X8_roomBy_L4 (p1 : Int32) (mZ : (Nat → Int32)) (x4_2 : Int32) (x4_3 : Int32) : Option ((Int32 × Int32) ⊕ (Int32)) :=
  if (mZ 0) ≤ x4_3 then some (.inr (x4_2)) else if x4_3 ≤ 0 then (f_X8_roomBy_J42 p1 mZ x4_2 x4_3) else Option.bind (f_X8_form p1 x4_3 mZ) (fun r21 => if r21 = 0 then Option.bind (f_X8_form p1 (x4_3 - 1) mZ) (fun r32 => if r32 = 0 then (f_X8_roomBy_J43 p1 mZ 1 x4_2 x4_3) else (f_X8_roomBy_J42 p1 mZ x4_2 x4_3)) else (f_X8_roomBy_J42 p1 mZ x4_2 x4_3))
def f_X8_roomBy (p1 : Int32) (mZ : (Nat → Int32)) : Option (Int32) :=
  dz_it (fun s : Int32 × Int32 => f_X8_roomBy_L4 p1 mZ s.1 s.2) (0, 0)
abbrev rm_X8_roomBy : Room := { frames := 8, cells := 0, slots := 0, locals := 178 }
theorem k_X8_roomBy : Cf yX8_roomBy wsX8_roomBy rm_X8_roomBy cX8_roomBy 5 (some .int) 1 := ⟨⟨_, rfl⟩, by decide +kernel, by decide +kernel, by decide +kernel⟩
set_option maxRecDepth 100000 in
set_option maxHeartbeats 4000000 in
theorem b_X8_roomBy (G : CG) (hl : (gL G).stackTraces = false) (h8 : Nat) (qz : Nat) (qv : Nat) (qp : Nat) (qf : Nat) (qo : Nat) (mT : Int32) (mZ : (Nat → Int32)) (mU : (Nat → Int32)) (mV : Int32) (mP : (Nat → Int32)) (mB : (Nat → Int32)) (mY : Int32) (mR : (Nat → Int32)) (mO : Int32) (mS : Int32) (mW : Int32) (mH : Int64) (p1 : Int32) (y : Int32) (hf : f_X8_roomBy p1 mZ = some y) : Ct G yX8_roomBy wsX8_roomBy rm_X8_roomBy [.ref h8, .int p1] [(h8, .inr (8, [.int mT, .ref qz, .ref qv, .int mV, .ref qp, .ref qf, .int mY, .ref qo, .int mO, .int mS, .int mW, .long mH])), (qz, .inl (gI G, 1027, .inl mZ)), (qv, .inl (gI G, 6162, .inl mU)), (qp, .inl (gI G, 512, .inl mP)), (qf, .inl (gI G, 60, .inl mB)), (qo, .inl (gI G, 60, .inl mR))] (fin1 (some (.int y)) [(h8, .inr (8, [.int mT, .ref qz, .ref qv, .int mV, .ref qp, .ref qf, .int mY, .ref qo, .int mO, .int mS, .int mW, .long mH])), (qz, .inl (gI G, 1027, .inl mZ)), (qv, .inl (gI G, 6162, .inl mU)), (qp, .inl (gI G, 512, .inl mP)), (qf, .inl (gI G, 60, .inl mB)), (qo, .inl (gI G, 60, .inl mR))]) 0 0 := by
  refine Ct.of (cc := cX8_roomBy) (N := 5) (ret := (some .int)) RX8 (by decide) rfl rfl hl (Nat.le_of_ble_eq_true rfl) (lv := [(0, .ref h8), (1, .int p1)]) rfl (fun X hXG C hex hnm hQ => ?_)
  subst hXG
  unfold f_X8_roomBy at hf
  refine j_iconst C (v := 0) dX8_roomBy_0 (by decide) ?_
  refine j_istore_n (lv' := [(2, .int 0), (0, .ref h8), (1, .int p1)]) C dX8_roomBy_1 rfl (by decide) rfl ?_
  refine j_iconst C (v := 0) dX8_roomBy_2 (by decide) ?_
  refine j_istore_n (lv' := [(3, .int 0), (2, .int 0), (0, .ref h8), (1, .int p1)]) C dX8_roomBy_3 rfl (by decide) rfl ?_
  have kk4 : ∀ (n : Nat) (x4_2 : Int32) (x4_3 : Int32), dz_iter n (fun s : Int32 × Int32 => f_X8_roomBy_L4 p1 mZ s.1 s.2) (x4_2, x4_3) = some y → Jt X [(h8, .inr (8, [.int mT, .ref qz, .ref qv, .int mV, .ref qp, .ref qf, .int mY, .ref qo, .int mO, .int mS, .int mW, .long mH])), (qz, .inl (gI X.1, 1027, .inl mZ)), (qv, .inl (gI X.1, 6162, .inl mU)), (qp, .inl (gI X.1, 512, .inl mP)), (qf, .inl (gI X.1, 60, .inl mB)), (qo, .inl (gI X.1, 60, .inl mR))] 0 0 4 [(0, .ref h8), (1, .int p1), (2, .int x4_2), (3, .int x4_3)] [] := by
    intro n
    induction n with
    | zero => intro x4_2 x4_3 hit; exact absurd hit (by simp [dz_iter])
    | succ n ih4 =>
      intro x4_2 x4_3 hit
      obtain ⟨y4, hf, hg4⟩ := dz_iter_succ hit
      replace hf : f_X8_roomBy_L4 p1 mZ x4_2 x4_3 = some y4 := hf
      unfold f_X8_roomBy_L4 at hf
      refine j_iload_n C dX8_roomBy_4 rfl 3 rfl ?_
      refine j_aload_n C dX8_roomBy_5 rfl 0 rfl ?_
      refine j_get8 C 0 rfl 1 (by decide) in_X8_roomBy_8 lk_X8_roomBy_7 rfl dX8_roomBy_6 ?_
      refine j_iconst C (v := 0) dX8_roomBy_9 (by decide) ?_
      refine j_iald C 1 rfl (by unfold vp_in; decide) dX8_roomBy_10 ?_
      refine j_icmp_ge C (tgt := 69) dX8_roomBy_11 (by decide) (fun e11 => ?_) (fun e11 => ?_)
      · have hf := (if_pos e11).symm.trans hf
        refine j_iload_n C dX8_roomBy_69 rfl 2 rfl ?_
        obtain rfl := Option.some.inj hf
        obtain rfl := dz_go_inr hg4
        exact j_iret C hQ rfl dX8_roomBy_70 (Nat.zero_le _) (Nat.zero_le _) ⟨rfl, rfl⟩
      · have hf := (if_neg e11).symm.trans hf
        refine j_iload_n C dX8_roomBy_14 rfl 3 rfl ?_
        have k43 : ∀ (s43_0 : Int32), f_X8_roomBy_J43 p1 mZ s43_0 x4_2 x4_3 = some y4 → Jt X [(h8, .inr (8, [.int mT, .ref qz, .ref qv, .int mV, .ref qp, .ref qf, .int mY, .ref qo, .int mO, .int mS, .int mW, .long mH])), (qz, .inl (gI X.1, 1027, .inl mZ)), (qv, .inl (gI X.1, 6162, .inl mU)), (qp, .inl (gI X.1, 512, .inl mP)), (qf, .inl (gI X.1, 60, .inl mB)), (qo, .inl (gI X.1, 60, .inl mR))] 0 0 43 [(0, .ref h8), (1, .int p1), (2, .int x4_2), (3, .int x4_3)] [.int s43_0] := by
          intro s43_0 hf
          unfold f_X8_roomBy_J43 at hf
          refine j_istore (lv' := [(4, .int s43_0), (0, .ref h8), (1, .int p1), (2, .int x4_2), (3, .int x4_3)]) C dX8_roomBy_43 (by decide) rfl ?_
          refine j_iload_n C dX8_roomBy_45 rfl 3 rfl ?_
          refine j_iload C dX8_roomBy_46 0 rfl ?_
          have k61 : ∀ (s61_0 : Int32), f_X8_roomBy_J61 s61_0 x4_2 x4_3 = some y4 → Jt X [(h8, .inr (8, [.int mT, .ref qz, .ref qv, .int mV, .ref qp, .ref qf, .int mY, .ref qo, .int mO, .int mS, .int mW, .long mH])), (qz, .inl (gI X.1, 1027, .inl mZ)), (qv, .inl (gI X.1, 6162, .inl mU)), (qp, .inl (gI X.1, 512, .inl mP)), (qf, .inl (gI X.1, 60, .inl mB)), (qo, .inl (gI X.1, 60, .inl mR))] 0 0 61 [(0, .ref h8), (1, .int p1), (2, .int x4_2), (3, .int x4_3), (4, .int s43_0)] [.int s61_0, .int x4_2] := by
            intro s61_0 hf
            unfold f_X8_roomBy_J61 at hf
            refine j_iadd C dX8_roomBy_61 ?_
            refine j_istore_n (lv' := [(2, .int (x4_2 + s61_0)), (0, .ref h8), (1, .int p1), (3, .int x4_3), (4, .int s43_0)]) C dX8_roomBy_62 rfl (by decide) rfl ?_
            refine j_iinc (v := (x4_3 + 1)) (lv' := [(3, .int (x4_3 + 1)), (2, .int (x4_2 + s61_0)), (0, .ref h8), (1, .int p1), (4, .int s43_0)]) C dX8_roomBy_63 3 rfl (by first | rfl | decide) (by decide) rfl ?_
            refine j_goto C (tgt := 4) dX8_roomBy_66 (by decide) ?_
            obtain rfl := Option.some.inj hf
            have hf := dz_go_inl hg4
            refine j_loc [2, 3, 1, 0] rfl ?_
            exact ih4 (x4_2 + s61_0) (x4_3 + 1) hf
          refine j_if_eq C (tgt := 55) dX8_roomBy_48 (by decide) (fun e48 => ?_) (fun e48 => ?_)
          · have hf := (if_pos e48).symm.trans hf
            refine j_aload_n C dX8_roomBy_55 rfl 1 rfl ?_
            refine j_iload_n C dX8_roomBy_56 rfl 2 rfl ?_
            refine j_iload_n C dX8_roomBy_57 rfl 4 rfl ?_
            obtain ⟨r58, hc58, hf⟩ := Option.bind_eq_some_iff.mp hf
            refine j_cV C (b_X8_roomOf X.1 hl h8 qz qv qp qf qo mT mZ mU mV mP mB mY mR mO mS mW mH p1 x4_3 r58 hc58) k_X8_roomOf gX8_roomBy_X8_roomOf rfl (ci := 8) (q0 := 0) rfl rfl (As := [.int p1, .int x4_3]) (rest := [.int x4_2]) (st' := [.int r58, .int x4_2]) (ws' := [(h8, .inr (8, [.int mT, .ref qz, .ref qv, .int mV, .ref qp, .ref qf, .int mY, .ref qo, .int mO, .int mS, .int mW, .long mH])), (qz, .inl (gI X.1, 1027, .inl mZ)), (qv, .inl (gI X.1, 6162, .inl mU)), (qp, .inl (gI X.1, 512, .inl mP)), (qf, .inl (gI X.1, 60, .inl mB)), (qo, .inl (gI X.1, 60, .inl mR))]) rfl rfl dX8_roomBy_58 [0, 1, 2, 3, 4, 5] [] [0, 1, 2, 3, 4, 5] rfl rfl rfl rfl rfl rfl ?_
            refine j_loc [1, 2, 3, 4, 0] rfl ?_
            exact k61 r58 hf
          · have hf := (if_neg e48).symm.trans hf
            refine j_iconst C (v := 0) dX8_roomBy_51 (by decide) ?_
            refine j_goto C (tgt := 61) dX8_roomBy_52 (by decide) ?_
            refine j_loc [1, 2, 3, 4, 0] rfl ?_
            exact k61 0 hf
        have k42 : f_X8_roomBy_J42 p1 mZ x4_2 x4_3 = some y4 → Jt X [(h8, .inr (8, [.int mT, .ref qz, .ref qv, .int mV, .ref qp, .ref qf, .int mY, .ref qo, .int mO, .int mS, .int mW, .long mH])), (qz, .inl (gI X.1, 1027, .inl mZ)), (qv, .inl (gI X.1, 6162, .inl mU)), (qp, .inl (gI X.1, 512, .inl mP)), (qf, .inl (gI X.1, 60, .inl mB)), (qo, .inl (gI X.1, 60, .inl mR))] 0 0 42 [(0, .ref h8), (1, .int p1), (2, .int x4_2), (3, .int x4_3)] [] := by
          intro  hf
          unfold f_X8_roomBy_J42 at hf
          refine j_iconst C (v := 0) dX8_roomBy_42 (by decide) ?_
          refine j_loc [0, 1, 2, 3] rfl ?_
          exact k43 0 hf
        refine j_if_le C (tgt := 42) dX8_roomBy_15 (by decide) (fun e15 => ?_) (fun e15 => ?_)
        · have hf := (if_pos e15).symm.trans hf
          refine j_loc [0, 1, 2, 3] rfl ?_
          exact k42  hf
        · have hf := (if_neg e15).symm.trans hf
          refine j_aload_n C dX8_roomBy_18 rfl 0 rfl ?_
          refine j_iload_n C dX8_roomBy_19 rfl 1 rfl ?_
          refine j_iload_n C dX8_roomBy_20 rfl 3 rfl ?_
          obtain ⟨r21, hc21, hf⟩ := Option.bind_eq_some_iff.mp hf
          refine j_cV C (b_X8_form X.1 hl h8 qz qv qp qf qo mT mZ mU mV mP mB mY mR mO mS mW mH p1 x4_3 r21 hc21) k_X8_form gX8_roomBy_X8_form rfl (ci := 8) (q0 := 0) rfl rfl (As := [.int p1, .int x4_3]) (rest := []) (st' := [.int r21]) (ws' := [(h8, .inr (8, [.int mT, .ref qz, .ref qv, .int mV, .ref qp, .ref qf, .int mY, .ref qo, .int mO, .int mS, .int mW, .long mH])), (qz, .inl (gI X.1, 1027, .inl mZ)), (qv, .inl (gI X.1, 6162, .inl mU)), (qp, .inl (gI X.1, 512, .inl mP)), (qf, .inl (gI X.1, 60, .inl mB)), (qo, .inl (gI X.1, 60, .inl mR))]) rfl rfl dX8_roomBy_21 [0, 1, 2, 3, 4, 5] [] [0, 1, 2, 3, 4, 5] rfl rfl rfl rfl rfl rfl ?_
          refine j_if_ne C (tgt := 42) dX8_roomBy_24 (by decide) (fun e24 => ?_) (fun e24 => ?_)
          · have hf := (if_neg e24).symm.trans hf
            refine j_loc [0, 1, 2, 3] rfl ?_
            exact k42  hf
          · have hf := (if_pos e24).symm.trans hf
            refine j_aload_n C dX8_roomBy_27 rfl 0 rfl ?_
            refine j_iload_n C dX8_roomBy_28 rfl 1 rfl ?_
            refine j_iload_n C dX8_roomBy_29 rfl 3 rfl ?_
            refine j_iconst C (v := 1) dX8_roomBy_30 (by decide) ?_
            refine j_isub C dX8_roomBy_31 ?_
            obtain ⟨r32, hc32, hf⟩ := Option.bind_eq_some_iff.mp hf
            refine j_cV C (b_X8_form X.1 hl h8 qz qv qp qf qo mT mZ mU mV mP mB mY mR mO mS mW mH p1 (x4_3 - 1) r32 hc32) k_X8_form gX8_roomBy_X8_form rfl (ci := 8) (q0 := 0) rfl rfl (As := [.int p1, .int (x4_3 - 1)]) (rest := []) (st' := [.int r32]) (ws' := [(h8, .inr (8, [.int mT, .ref qz, .ref qv, .int mV, .ref qp, .ref qf, .int mY, .ref qo, .int mO, .int mS, .int mW, .long mH])), (qz, .inl (gI X.1, 1027, .inl mZ)), (qv, .inl (gI X.1, 6162, .inl mU)), (qp, .inl (gI X.1, 512, .inl mP)), (qf, .inl (gI X.1, 60, .inl mB)), (qo, .inl (gI X.1, 60, .inl mR))]) rfl rfl dX8_roomBy_32 [0, 1, 2, 3, 4, 5] [] [0, 1, 2, 3, 4, 5] rfl rfl rfl rfl rfl rfl ?_
            refine j_if_ne C (tgt := 42) dX8_roomBy_35 (by decide) (fun e35 => ?_) (fun e35 => ?_)
            · have hf := (if_neg e35).symm.trans hf
              refine j_loc [0, 1, 2, 3] rfl ?_
              exact k42  hf
            · have hf := (if_pos e35).symm.trans hf
              refine j_iconst C (v := 1) dX8_roomBy_38 (by decide) ?_
              refine j_goto C (tgt := 43) dX8_roomBy_39 (by decide) ?_
              refine j_loc [0, 1, 2, 3] rfl ?_
              exact k43 1 hf
  refine j_loc [2, 3, 1, 0] rfl ?_
  exact kk4 _ 0 0 hf

theorem lk_X8_room_7 : Cond.fieldLink RX8 7 (TX8 1).1 (TX8 1).2.1 (TX8 1).2.2.1 ∈ wsX8_room := by decide +kernel
theorem in_X8_room_8 : ∀ w ∈ wsX80, w ∈ wsX8_room := by decide +kernel
def f_X8_room (mZ : (Nat → Int32)) : Option (Int32) :=
  Option.bind (f_X8_roomBy (mZ 1) mZ) (fun r7 => some (r7))
abbrev rm_X8_room : Room := { frames := 9, cells := 0, slots := 0, locals := 202 }
theorem k_X8_room : Cf yX8_room wsX8_room rm_X8_room cX8_room 1 (some .int) 0 := ⟨⟨_, rfl⟩, by decide +kernel, by decide +kernel, by decide +kernel⟩
set_option maxRecDepth 100000 in
set_option maxHeartbeats 4000000 in
theorem b_X8_room (G : CG) (hl : (gL G).stackTraces = false) (h8 : Nat) (qz : Nat) (qv : Nat) (qp : Nat) (qf : Nat) (qo : Nat) (mT : Int32) (mZ : (Nat → Int32)) (mU : (Nat → Int32)) (mV : Int32) (mP : (Nat → Int32)) (mB : (Nat → Int32)) (mY : Int32) (mR : (Nat → Int32)) (mO : Int32) (mS : Int32) (mW : Int32) (mH : Int64) (y : Int32) (hf : f_X8_room mZ = some y) : Ct G yX8_room wsX8_room rm_X8_room [.ref h8] [(h8, .inr (8, [.int mT, .ref qz, .ref qv, .int mV, .ref qp, .ref qf, .int mY, .ref qo, .int mO, .int mS, .int mW, .long mH])), (qz, .inl (gI G, 1027, .inl mZ)), (qv, .inl (gI G, 6162, .inl mU)), (qp, .inl (gI G, 512, .inl mP)), (qf, .inl (gI G, 60, .inl mB)), (qo, .inl (gI G, 60, .inl mR))] (fin1 (some (.int y)) [(h8, .inr (8, [.int mT, .ref qz, .ref qv, .int mV, .ref qp, .ref qf, .int mY, .ref qo, .int mO, .int mS, .int mW, .long mH])), (qz, .inl (gI G, 1027, .inl mZ)), (qv, .inl (gI G, 6162, .inl mU)), (qp, .inl (gI G, 512, .inl mP)), (qf, .inl (gI G, 60, .inl mB)), (qo, .inl (gI G, 60, .inl mR))]) 0 0 := by
  refine Ct.of (cc := cX8_room) (N := 1) (ret := (some .int)) RX8 (by decide) rfl rfl hl (Nat.le_of_ble_eq_true rfl) (lv := [(0, .ref h8)]) rfl (fun X hXG C hex hnm hQ => ?_)
  subst hXG
  unfold f_X8_room at hf
  refine j_aload_n C dX8_room_0 rfl 0 rfl ?_
  refine j_aload_n C dX8_room_1 rfl 0 rfl ?_
  refine j_get8 C 0 rfl 1 (by decide) in_X8_room_8 lk_X8_room_7 rfl dX8_room_2 ?_
  refine j_iconst C (v := 1) dX8_room_5 (by decide) ?_
  refine j_iald C 1 rfl (by unfold vp_in; decide) dX8_room_6 ?_
  obtain ⟨r7, hc7, hf⟩ := Option.bind_eq_some_iff.mp hf
  refine j_cV C (b_X8_roomBy X.1 hl h8 qz qv qp qf qo mT mZ mU mV mP mB mY mR mO mS mW mH (mZ 1) r7 hc7) k_X8_roomBy gX8_room_X8_roomBy rfl (ci := 8) (q0 := 0) rfl rfl (As := [.int (mZ 1)]) (rest := []) (st' := [.int r7]) (ws' := [(h8, .inr (8, [.int mT, .ref qz, .ref qv, .int mV, .ref qp, .ref qf, .int mY, .ref qo, .int mO, .int mS, .int mW, .long mH])), (qz, .inl (gI X.1, 1027, .inl mZ)), (qv, .inl (gI X.1, 6162, .inl mU)), (qp, .inl (gI X.1, 512, .inl mP)), (qf, .inl (gI X.1, 60, .inl mB)), (qo, .inl (gI X.1, 60, .inl mR))]) rfl rfl dX8_room_7 [0, 1, 2, 3, 4, 5] [] [0, 1, 2, 3, 4, 5] rfl rfl rfl rfl rfl rfl ?_
  obtain rfl := Option.some.inj hf
  exact j_iret C hQ rfl dX8_room_10 (Nat.zero_le _) (Nat.zero_le _) ⟨rfl, rfl⟩

theorem lk_X8_begin_25 : Cond.fieldLink RX8 25 (TX8 0).1 (TX8 0).2.1 (TX8 0).2.2.1 ∈ wsX8_begin := by decide +kernel
theorem in_X8_begin_8 : ∀ w ∈ wsX80, w ∈ wsX8_begin := by decide +kernel
theorem lk_X8_begin_7 : Cond.fieldLink RX8 7 (TX8 1).1 (TX8 1).2.1 (TX8 1).2.2.1 ∈ wsX8_begin := by decide +kernel
def f_X8_begin_L34 (p1 : Int32) (r29 : (Nat → Int32) × Int32) (s16_0 : Int32) (x34_2 : Int32) (mZ_34 : (Nat → Int32)) : Option ((Int32 × (Nat → Int32)) ⊕ (Int32 × Int32 × (Nat → Int32) × (Nat → Int32) × Int32)) :=
  if 1027 ≤ x34_2 then some (.inr ((((p1 * p1) * p1), s16_0, (upd mZ_34 0 p1), r29.1, r29.2))) else dz_in x34_2 1027 (some (.inl ((x34_2 + 1), (upd mZ_34 (Int32.toNatClampNeg x34_2) 0))))
def f_X8_begin_J16 (p1 : Int32) (mZ : (Nat → Int32)) (mU : (Nat → Int32)) (mV : Int32) (s16_0 : Int32) : Option (Int32 × Int32 × (Nat → Int32) × (Nat → Int32) × Int32) :=
  if s16_0 ≤ 0 then Option.bind (f_X8_save mZ mU mV) (fun r29 => dz_it (fun s : Int32 × (Nat → Int32) => f_X8_begin_L34 p1 r29 s16_0 s.1 s.2) (3, mZ)) else some ((0, s16_0, mZ, mU, mV))
def f_X8_begin (p1 : Int32) (mZ : (Nat → Int32)) (mU : (Nat → Int32)) (mV : Int32) : Option (Int32 × Int32 × (Nat → Int32) × (Nat → Int32) × Int32) :=
  if (f_X8_in p1 2 8) = 0 then (f_X8_begin_J16 p1 mZ mU mV 1) else (f_X8_begin_J16 p1 mZ mU mV 0)
abbrev rm_X8_begin : Room := { frames := 2, cells := 0, slots := 0, locals := 38 }
theorem k_X8_begin : Cf yX8_begin wsX8_begin rm_X8_begin cX8_begin 3 (some .int) 1 := ⟨⟨_, rfl⟩, by decide +kernel, by decide +kernel, by decide +kernel⟩
set_option maxRecDepth 100000 in
set_option maxHeartbeats 4000000 in
theorem b_X8_begin (G : CG) (hl : (gL G).stackTraces = false) (h8 : Nat) (qz : Nat) (qv : Nat) (qp : Nat) (qf : Nat) (qo : Nat) (mT : Int32) (mZ : (Nat → Int32)) (mU : (Nat → Int32)) (mV : Int32) (mP : (Nat → Int32)) (mB : (Nat → Int32)) (mY : Int32) (mR : (Nat → Int32)) (mO : Int32) (mS : Int32) (mW : Int32) (mH : Int64) (p1 : Int32) (y : Int32 × Int32 × (Nat → Int32) × (Nat → Int32) × Int32) (hf : f_X8_begin p1 mZ mU mV = some y) : Ct G yX8_begin wsX8_begin rm_X8_begin [.ref h8, .int p1] [(h8, .inr (8, [.int mT, .ref qz, .ref qv, .int mV, .ref qp, .ref qf, .int mY, .ref qo, .int mO, .int mS, .int mW, .long mH])), (qz, .inl (gI G, 1027, .inl mZ)), (qv, .inl (gI G, 6162, .inl mU)), (qp, .inl (gI G, 512, .inl mP)), (qf, .inl (gI G, 60, .inl mB)), (qo, .inl (gI G, 60, .inl mR))] (fin1 (some (.int y.1)) [(h8, .inr (8, [.int y.2.1, .ref qz, .ref qv, .int y.2.2.2.2, .ref qp, .ref qf, .int mY, .ref qo, .int mO, .int mS, .int mW, .long mH])), (qz, .inl (gI G, 1027, .inl y.2.2.1)), (qv, .inl (gI G, 6162, .inl y.2.2.2.1)), (qp, .inl (gI G, 512, .inl mP)), (qf, .inl (gI G, 60, .inl mB)), (qo, .inl (gI G, 60, .inl mR))]) 0 0 := by
  refine Ct.of (cc := cX8_begin) (N := 3) (ret := (some .int)) RX8 (by decide) rfl rfl hl (Nat.le_of_ble_eq_true rfl) (lv := [(0, .ref h8), (1, .int p1)]) rfl (fun X hXG C hex hnm hQ => ?_)
  subst hXG
  unfold f_X8_begin at hf
  refine j_aload_n C dX8_begin_0 rfl 0 rfl ?_
  refine j_iload_n C dX8_begin_1 rfl 1 rfl ?_
  refine j_iconst C (v := 2) dX8_begin_2 (by decide) ?_
  refine j_bipush C (v := 8) dX8_begin_3 (by decide) ?_
  refine j_cS C (c_X8_in X.1 hl p1 2 8) k_X8_in gX8_begin_X8_in (As := [.int p1, .int 2, .int 8]) (rest := [.ref h8]) (st' := [.int (f_X8_in p1 2 8), .ref h8]) (ws' := [(h8, .inr (8, [.int mT, .ref qz, .ref qv, .int mV, .ref qp, .ref qf, .int mY, .ref qo, .int mO, .int mS, .int mW, .long mH])), (qz, .inl (gI X.1, 1027, .inl mZ)), (qv, .inl (gI X.1, 6162, .inl mU)), (qp, .inl (gI X.1, 512, .inl mP)), (qf, .inl (gI X.1, 60, .inl mB)), (qo, .inl (gI X.1, 60, .inl mR))]) rfl rfl dX8_begin_5 [] [0, 1, 2, 3, 4, 5] [0, 1, 2, 3, 4, 5] rfl rfl rfl rfl rfl rfl ?_
  have k16 : ∀ (s16_0 : Int32), f_X8_begin_J16 p1 mZ mU mV s16_0 = some y → Jt X [(h8, .inr (8, [.int mT, .ref qz, .ref qv, .int mV, .ref qp, .ref qf, .int mY, .ref qo, .int mO, .int mS, .int mW, .long mH])), (qz, .inl (gI X.1, 1027, .inl mZ)), (qv, .inl (gI X.1, 6162, .inl mU)), (qp, .inl (gI X.1, 512, .inl mP)), (qf, .inl (gI X.1, 60, .inl mB)), (qo, .inl (gI X.1, 60, .inl mR))] 0 0 16 [(0, .ref h8), (1, .int p1)] [.int s16_0, .ref h8] := by
    intro s16_0 hf
    unfold f_X8_begin_J16 at hf
    refine j_put8 (ty := .int) (ws' := [(h8, .inr (8, [.int s16_0, .ref qz, .ref qv, .int mV, .ref qp, .ref qf, .int mY, .ref qo, .int mO, .int mS, .int mW, .long mH])), (qz, .inl (gI X.1, 1027, .inl mZ)), (qv, .inl (gI X.1, 6162, .inl mU)), (qp, .inl (gI X.1, 512, .inl mP)), (qf, .inl (gI X.1, 60, .inl mB)), (qo, .inl (gI X.1, 60, .inl mR))]) C 0 rfl 0 (by decide) in_X8_begin_8 lk_X8_begin_25 rfl (by decide +kernel) rfl rfl (Nat.le_of_ble_eq_true rfl) rfl dX8_begin_16 ?_
    refine j_aload_n C dX8_begin_19 rfl 0 rfl ?_
    refine j_get8 C 0 rfl 0 (by decide) in_X8_begin_8 lk_X8_begin_25 rfl dX8_begin_20 ?_
    refine j_if_le C (tgt := 28) dX8_begin_23 (by decide) (fun e23 => ?_) (fun e23 => ?_)
    · have hf := (if_pos e23).symm.trans hf
      refine j_aload_n C dX8_begin_28 rfl 0 rfl ?_
      obtain ⟨r29, hc29, hf⟩ := Option.bind_eq_some_iff.mp hf
      refine j_cV C (b_X8_save X.1 hl h8 qz qv qp qf qo s16_0 mZ mU mV mP mB mY mR mO mS mW mH r29 hc29) k_X8_save gX8_begin_X8_save rfl (ci := 8) (q0 := 0) rfl rfl (As := []) (rest := []) (st' := []) (ws' := [(h8, .inr (8, [.int s16_0, .ref qz, .ref qv, .int r29.2, .ref qp, .ref qf, .int mY, .ref qo, .int mO, .int mS, .int mW, .long mH])), (qz, .inl (gI X.1, 1027, .inl mZ)), (qv, .inl (gI X.1, 6162, .inl r29.1)), (qp, .inl (gI X.1, 512, .inl mP)), (qf, .inl (gI X.1, 60, .inl mB)), (qo, .inl (gI X.1, 60, .inl mR))]) rfl rfl dX8_begin_29 [0, 1, 2, 3, 4, 5] [] [0, 1, 2, 3, 4, 5] rfl rfl rfl rfl rfl rfl ?_
      refine j_iconst C (v := 3) dX8_begin_32 (by decide) ?_
      refine j_istore_n (lv' := [(2, .int 3), (0, .ref h8), (1, .int p1)]) C dX8_begin_33 rfl (by decide) rfl ?_
      have kk34 : ∀ (n : Nat) (x34_2 : Int32) (mZ_34 : (Nat → Int32)), dz_iter n (fun s : Int32 × (Nat → Int32) => f_X8_begin_L34 p1 r29 s16_0 s.1 s.2) (x34_2, mZ_34) = some y → Jt X [(h8, .inr (8, [.int s16_0, .ref qz, .ref qv, .int r29.2, .ref qp, .ref qf, .int mY, .ref qo, .int mO, .int mS, .int mW, .long mH])), (qz, .inl (gI X.1, 1027, .inl mZ_34)), (qv, .inl (gI X.1, 6162, .inl r29.1)), (qp, .inl (gI X.1, 512, .inl mP)), (qf, .inl (gI X.1, 60, .inl mB)), (qo, .inl (gI X.1, 60, .inl mR))] 0 0 34 [(0, .ref h8), (1, .int p1), (2, .int x34_2)] [] := by
        intro n
        induction n with
        | zero => intro x34_2 mZ_34 hit; exact absurd hit (by simp [dz_iter])
        | succ n ih34 =>
          intro x34_2 mZ_34 hit
          obtain ⟨y34, hf, hg34⟩ := dz_iter_succ hit
          replace hf : f_X8_begin_L34 p1 r29 s16_0 x34_2 mZ_34 = some y34 := hf
          unfold f_X8_begin_L34 at hf
          refine j_iload_n C dX8_begin_34 rfl 2 rfl ?_
          refine j_sipush C (v := 1027) dX8_begin_35 (by decide) ?_
          refine j_icmp_ge C (tgt := 54) dX8_begin_38 (by decide) (fun e38 => ?_) (fun e38 => ?_)
          · have hf := (if_pos e38).symm.trans hf
            refine j_aload_n C dX8_begin_54 rfl 0 rfl ?_
            refine j_get8 C 0 rfl 1 (by decide) in_X8_begin_8 lk_X8_begin_7 rfl dX8_begin_55 ?_
            refine j_iconst C (v := 0) dX8_begin_58 (by decide) ?_
            refine j_iload_n C dX8_begin_59 rfl 1 rfl ?_
            refine j_iast (ws' := [(h8, .inr (8, [.int s16_0, .ref qz, .ref qv, .int r29.2, .ref qp, .ref qf, .int mY, .ref qo, .int mO, .int mS, .int mW, .long mH])), (qz, .inl (gI X.1, 1027, .inl (upd mZ_34 0 p1))), (qv, .inl (gI X.1, 6162, .inl r29.1)), (qp, .inl (gI X.1, 512, .inl mP)), (qf, .inl (gI X.1, 60, .inl mB)), (qo, .inl (gI X.1, 60, .inl mR))]) C 1 rfl (by unfold vp_in; decide) rfl dX8_begin_60 ?_
            refine j_iload_n C dX8_begin_61 rfl 1 rfl ?_
            refine j_iload_n C dX8_begin_62 rfl 1 rfl ?_
            refine j_imul C dX8_begin_63 ?_
            refine j_iload_n C dX8_begin_64 rfl 1 rfl ?_
            refine j_imul C dX8_begin_65 ?_
            obtain rfl := Option.some.inj hf
            obtain rfl := dz_go_inr hg34
            exact j_iret C hQ rfl dX8_begin_66 (Nat.zero_le _) (Nat.zero_le _) ⟨rfl, rfl⟩
          · have hf := (if_neg e38).symm.trans hf
            refine j_aload_n C dX8_begin_41 rfl 0 rfl ?_
            refine j_get8 C 0 rfl 1 (by decide) in_X8_begin_8 lk_X8_begin_7 rfl dX8_begin_42 ?_
            refine j_iload_n C dX8_begin_45 rfl 2 rfl ?_
            refine j_iconst C (v := 0) dX8_begin_46 (by decide) ?_
            obtain ⟨z47, hf⟩ := dz_in_some hf
            refine j_iast (ws' := [(h8, .inr (8, [.int s16_0, .ref qz, .ref qv, .int r29.2, .ref qp, .ref qf, .int mY, .ref qo, .int mO, .int mS, .int mW, .long mH])), (qz, .inl (gI X.1, 1027, .inl (upd mZ_34 (Int32.toNatClampNeg x34_2) 0))), (qv, .inl (gI X.1, 6162, .inl r29.1)), (qp, .inl (gI X.1, 512, .inl mP)), (qf, .inl (gI X.1, 60, .inl mB)), (qo, .inl (gI X.1, 60, .inl mR))]) C 1 rfl z47 rfl dX8_begin_47 ?_
            refine j_iinc (v := (x34_2 + 1)) (lv' := [(2, .int (x34_2 + 1)), (0, .ref h8), (1, .int p1)]) C dX8_begin_48 2 rfl (by first | rfl | decide) (by decide) rfl ?_
            refine j_goto C (tgt := 34) dX8_begin_51 (by decide) ?_
            obtain rfl := Option.some.inj hf
            have hf := dz_go_inl hg34
            refine j_loc [1, 2, 0] rfl ?_
            exact ih34 (x34_2 + 1) (upd mZ_34 (Int32.toNatClampNeg x34_2) 0) hf
      refine j_loc [1, 2, 0] rfl ?_
      exact kk34 _ 3 mZ hf
    · have hf := (if_neg e23).symm.trans hf
      refine j_iconst C (v := 0) dX8_begin_26 (by decide) ?_
      obtain rfl := Option.some.inj hf
      exact j_iret C hQ rfl dX8_begin_27 (Nat.zero_le _) (Nat.zero_le _) ⟨rfl, rfl⟩
  refine j_if_eq C (tgt := 15) dX8_begin_8 (by decide) (fun e8 => ?_) (fun e8 => ?_)
  · have hf := (if_pos e8).symm.trans hf
    refine j_iconst C (v := 1) dX8_begin_15 (by decide) ?_
    refine j_loc [0, 1] rfl ?_
    exact k16 1 hf
  · have hf := (if_neg e8).symm.trans hf
    refine j_iconst C (v := 0) dX8_begin_11 (by decide) ?_
    refine j_goto C (tgt := 16) dX8_begin_12 (by decide) ?_
    refine j_loc [0, 1] rfl ?_
    exact k16 0 hf

theorem lk_X8_put_25 : Cond.fieldLink RX8 25 (TX8 0).1 (TX8 0).2.1 (TX8 0).2.2.1 ∈ wsX8_put := by decide +kernel
theorem in_X8_put_8 : ∀ w ∈ wsX80, w ∈ wsX8_put := by decide +kernel
theorem lk_X8_put_7 : Cond.fieldLink RX8 7 (TX8 1).1 (TX8 1).2.1 (TX8 1).2.2.1 ∈ wsX8_put := by decide +kernel
def f_X8_put_J28 (p1 : Int32) (p2 : Int32) (p3 : Int32) (p4 : Int32) (mZ : (Nat → Int32)) (mU : (Nat → Int32)) (mV : Int32) (s28_0 : Int32) : Option (Int32 × Int32 × (Nat → Int32) × (Nat → Int32) × Int32) :=
  if s28_0 ≤ 0 then Option.bind (f_X8_save mZ mU mV) (fun r41 => dz_in (3 + (f_X8_place p1 p2 p3)) 1027 (dz_in (3 + (f_X8_place p1 p2 p3)) 1027 (some (((mZ (Int32.toNatClampNeg (3 + (f_X8_place p1 p2 p3)))), s28_0, (upd mZ (Int32.toNatClampNeg (3 + (f_X8_place p1 p2 p3))) p4), r41.1, r41.2))))) else some ((0, s28_0, mZ, mU, mV))
def f_X8_put (p1 : Int32) (p2 : Int32) (p3 : Int32) (p4 : Int32) (mZ : (Nat → Int32)) (mU : (Nat → Int32)) (mV : Int32) : Option (Int32 × Int32 × (Nat → Int32) × (Nat → Int32) × Int32) :=
  if (f_X8_isPoint p1 p2 p3 mZ) = 0 then (f_X8_put_J28 p1 p2 p3 p4 mZ mU mV 1) else if (f_X8_isNumber p4) = 0 then (f_X8_put_J28 p1 p2 p3 p4 mZ mU mV 2) else (f_X8_put_J28 p1 p2 p3 p4 mZ mU mV 0)
abbrev rm_X8_put : Room := { frames := 3, cells := 0, slots := 0, locals := 60 }
theorem k_X8_put : Cf yX8_put wsX8_put rm_X8_put cX8_put 6 (some .int) 4 := ⟨⟨_, rfl⟩, by decide +kernel, by decide +kernel, by decide +kernel⟩
set_option maxRecDepth 100000 in
set_option maxHeartbeats 4000000 in
theorem b_X8_put (G : CG) (hl : (gL G).stackTraces = false) (h8 : Nat) (qz : Nat) (qv : Nat) (qp : Nat) (qf : Nat) (qo : Nat) (mT : Int32) (mZ : (Nat → Int32)) (mU : (Nat → Int32)) (mV : Int32) (mP : (Nat → Int32)) (mB : (Nat → Int32)) (mY : Int32) (mR : (Nat → Int32)) (mO : Int32) (mS : Int32) (mW : Int32) (mH : Int64) (p1 : Int32) (p2 : Int32) (p3 : Int32) (p4 : Int32) (y : Int32 × Int32 × (Nat → Int32) × (Nat → Int32) × Int32) (hf : f_X8_put p1 p2 p3 p4 mZ mU mV = some y) : Ct G yX8_put wsX8_put rm_X8_put [.ref h8, .int p1, .int p2, .int p3, .int p4] [(h8, .inr (8, [.int mT, .ref qz, .ref qv, .int mV, .ref qp, .ref qf, .int mY, .ref qo, .int mO, .int mS, .int mW, .long mH])), (qz, .inl (gI G, 1027, .inl mZ)), (qv, .inl (gI G, 6162, .inl mU)), (qp, .inl (gI G, 512, .inl mP)), (qf, .inl (gI G, 60, .inl mB)), (qo, .inl (gI G, 60, .inl mR))] (fin1 (some (.int y.1)) [(h8, .inr (8, [.int y.2.1, .ref qz, .ref qv, .int y.2.2.2.2, .ref qp, .ref qf, .int mY, .ref qo, .int mO, .int mS, .int mW, .long mH])), (qz, .inl (gI G, 1027, .inl y.2.2.1)), (qv, .inl (gI G, 6162, .inl y.2.2.2.1)), (qp, .inl (gI G, 512, .inl mP)), (qf, .inl (gI G, 60, .inl mB)), (qo, .inl (gI G, 60, .inl mR))]) 0 0 := by
  refine Ct.of (cc := cX8_put) (N := 6) (ret := (some .int)) RX8 (by decide) rfl rfl hl (Nat.le_of_ble_eq_true rfl) (lv := [(0, .ref h8), (1, .int p1), (2, .int p2), (3, .int p3), (4, .int p4)]) rfl (fun X hXG C hex hnm hQ => ?_)
  subst hXG
  unfold f_X8_put at hf
  refine j_aload_n C dX8_put_0 rfl 0 rfl ?_
  refine j_aload_n C dX8_put_1 rfl 0 rfl ?_
  refine j_iload_n C dX8_put_2 rfl 1 rfl ?_
  refine j_iload_n C dX8_put_3 rfl 2 rfl ?_
  refine j_iload_n C dX8_put_4 rfl 3 rfl ?_
  refine j_cV C (c_X8_isPoint X.1 hl h8 qz qv qp qf qo mT mZ mU mV mP mB mY mR mO mS mW mH p1 p2 p3) k_X8_isPoint gX8_put_X8_isPoint rfl (ci := 8) (q0 := 0) rfl rfl (As := [.int p1, .int p2, .int p3]) (rest := [.ref h8]) (st' := [.int (f_X8_isPoint p1 p2 p3 mZ), .ref h8]) (ws' := [(h8, .inr (8, [.int mT, .ref qz, .ref qv, .int mV, .ref qp, .ref qf, .int mY, .ref qo, .int mO, .int mS, .int mW, .long mH])), (qz, .inl (gI X.1, 1027, .inl mZ)), (qv, .inl (gI X.1, 6162, .inl mU)), (qp, .inl (gI X.1, 512, .inl mP)), (qf, .inl (gI X.1, 60, .inl mB)), (qo, .inl (gI X.1, 60, .inl mR))]) rfl rfl dX8_put_5 [0, 1, 2, 3, 4, 5] [] [0, 1, 2, 3, 4, 5] rfl rfl rfl rfl rfl rfl ?_
  have k28 : ∀ (s28_0 : Int32), f_X8_put_J28 p1 p2 p3 p4 mZ mU mV s28_0 = some y → Jt X [(h8, .inr (8, [.int mT, .ref qz, .ref qv, .int mV, .ref qp, .ref qf, .int mY, .ref qo, .int mO, .int mS, .int mW, .long mH])), (qz, .inl (gI X.1, 1027, .inl mZ)), (qv, .inl (gI X.1, 6162, .inl mU)), (qp, .inl (gI X.1, 512, .inl mP)), (qf, .inl (gI X.1, 60, .inl mB)), (qo, .inl (gI X.1, 60, .inl mR))] 0 0 28 [(0, .ref h8), (1, .int p1), (2, .int p2), (3, .int p3), (4, .int p4)] [.int s28_0, .ref h8] := by
    intro s28_0 hf
    unfold f_X8_put_J28 at hf
    refine j_put8 (ty := .int) (ws' := [(h8, .inr (8, [.int s28_0, .ref qz, .ref qv, .int mV, .ref qp, .ref qf, .int mY, .ref qo, .int mO, .int mS, .int mW, .long mH])), (qz, .inl (gI X.1, 1027, .inl mZ)), (qv, .inl (gI X.1, 6162, .inl mU)), (qp, .inl (gI X.1, 512, .inl mP)), (qf, .inl (gI X.1, 60, .inl mB)), (qo, .inl (gI X.1, 60, .inl mR))]) C 0 rfl 0 (by decide) in_X8_put_8 lk_X8_put_25 rfl (by decide +kernel) rfl rfl (Nat.le_of_ble_eq_true rfl) rfl dX8_put_28 ?_
    refine j_aload_n C dX8_put_31 rfl 0 rfl ?_
    refine j_get8 C 0 rfl 0 (by decide) in_X8_put_8 lk_X8_put_25 rfl dX8_put_32 ?_
    refine j_if_le C (tgt := 40) dX8_put_35 (by decide) (fun e35 => ?_) (fun e35 => ?_)
    · have hf := (if_pos e35).symm.trans hf
      refine j_aload_n C dX8_put_40 rfl 0 rfl ?_
      obtain ⟨r41, hc41, hf⟩ := Option.bind_eq_some_iff.mp hf
      refine j_cV C (b_X8_save X.1 hl h8 qz qv qp qf qo s28_0 mZ mU mV mP mB mY mR mO mS mW mH r41 hc41) k_X8_save gX8_put_X8_save rfl (ci := 8) (q0 := 0) rfl rfl (As := []) (rest := []) (st' := []) (ws' := [(h8, .inr (8, [.int s28_0, .ref qz, .ref qv, .int r41.2, .ref qp, .ref qf, .int mY, .ref qo, .int mO, .int mS, .int mW, .long mH])), (qz, .inl (gI X.1, 1027, .inl mZ)), (qv, .inl (gI X.1, 6162, .inl r41.1)), (qp, .inl (gI X.1, 512, .inl mP)), (qf, .inl (gI X.1, 60, .inl mB)), (qo, .inl (gI X.1, 60, .inl mR))]) rfl rfl dX8_put_41 [0, 1, 2, 3, 4, 5] [] [0, 1, 2, 3, 4, 5] rfl rfl rfl rfl rfl rfl ?_
      refine j_aload_n C dX8_put_44 rfl 0 rfl ?_
      refine j_get8 C 0 rfl 1 (by decide) in_X8_put_8 lk_X8_put_7 rfl dX8_put_45 ?_
      refine j_iconst C (v := 3) dX8_put_48 (by decide) ?_
      refine j_iload_n C dX8_put_49 rfl 1 rfl ?_
      refine j_iload_n C dX8_put_50 rfl 2 rfl ?_
      refine j_iload_n C dX8_put_51 rfl 3 rfl ?_
      refine j_cS C (c_X8_place X.1 hl p1 p2 p3) k_X8_place gX8_put_X8_place (As := [.int p1, .int p2, .int p3]) (rest := [.int 3, .ref qz]) (st' := [.int (f_X8_place p1 p2 p3), .int 3, .ref qz]) (ws' := [(h8, .inr (8, [.int s28_0, .ref qz, .ref qv, .int r41.2, .ref qp, .ref qf, .int mY, .ref qo, .int mO, .int mS, .int mW, .long mH])), (qz, .inl (gI X.1, 1027, .inl mZ)), (qv, .inl (gI X.1, 6162, .inl r41.1)), (qp, .inl (gI X.1, 512, .inl mP)), (qf, .inl (gI X.1, 60, .inl mB)), (qo, .inl (gI X.1, 60, .inl mR))]) rfl rfl dX8_put_52 [] [0, 1, 2, 3, 4, 5] [0, 1, 2, 3, 4, 5] rfl rfl rfl rfl rfl rfl ?_
      refine j_iadd C dX8_put_55 ?_
      obtain ⟨z56, hf⟩ := dz_in_some hf
      refine j_iald C 1 rfl z56 dX8_put_56 ?_
      refine j_istore (lv' := [(5, .int (mZ (Int32.toNatClampNeg (3 + (f_X8_place p1 p2 p3))))), (0, .ref h8), (1, .int p1), (2, .int p2), (3, .int p3), (4, .int p4)]) C dX8_put_57 (by decide) rfl ?_
      refine j_aload_n C dX8_put_59 rfl 1 rfl ?_
      refine j_get8 C 0 rfl 1 (by decide) in_X8_put_8 lk_X8_put_7 rfl dX8_put_60 ?_
      refine j_iconst C (v := 3) dX8_put_63 (by decide) ?_
      refine j_iload_n C dX8_put_64 rfl 2 rfl ?_
      refine j_iload_n C dX8_put_65 rfl 3 rfl ?_
      refine j_iload_n C dX8_put_66 rfl 4 rfl ?_
      refine j_cS C (c_X8_place X.1 hl p1 p2 p3) k_X8_place gX8_put_X8_place (As := [.int p1, .int p2, .int p3]) (rest := [.int 3, .ref qz]) (st' := [.int (f_X8_place p1 p2 p3), .int 3, .ref qz]) (ws' := [(h8, .inr (8, [.int s28_0, .ref qz, .ref qv, .int r41.2, .ref qp, .ref qf, .int mY, .ref qo, .int mO, .int mS, .int mW, .long mH])), (qz, .inl (gI X.1, 1027, .inl mZ)), (qv, .inl (gI X.1, 6162, .inl r41.1)), (qp, .inl (gI X.1, 512, .inl mP)), (qf, .inl (gI X.1, 60, .inl mB)), (qo, .inl (gI X.1, 60, .inl mR))]) rfl rfl dX8_put_67 [] [0, 1, 2, 3, 4, 5] [0, 1, 2, 3, 4, 5] rfl rfl rfl rfl rfl rfl ?_
      refine j_iadd C dX8_put_70 ?_
      refine j_iload C dX8_put_71 5 rfl ?_
      obtain ⟨z73, hf⟩ := dz_in_some hf
      refine j_iast (ws' := [(h8, .inr (8, [.int s28_0, .ref qz, .ref qv, .int r41.2, .ref qp, .ref qf, .int mY, .ref qo, .int mO, .int mS, .int mW, .long mH])), (qz, .inl (gI X.1, 1027, .inl (upd mZ (Int32.toNatClampNeg (3 + (f_X8_place p1 p2 p3))) p4))), (qv, .inl (gI X.1, 6162, .inl r41.1)), (qp, .inl (gI X.1, 512, .inl mP)), (qf, .inl (gI X.1, 60, .inl mB)), (qo, .inl (gI X.1, 60, .inl mR))]) C 1 rfl z73 rfl dX8_put_73 ?_
      refine j_iload C dX8_put_74 0 rfl ?_
      obtain rfl := Option.some.inj hf
      exact j_iret C hQ rfl dX8_put_76 (Nat.zero_le _) (Nat.zero_le _) ⟨rfl, rfl⟩
    · have hf := (if_neg e35).symm.trans hf
      refine j_iconst C (v := 0) dX8_put_38 (by decide) ?_
      obtain rfl := Option.some.inj hf
      exact j_iret C hQ rfl dX8_put_39 (Nat.zero_le _) (Nat.zero_le _) ⟨rfl, rfl⟩
  refine j_if_ne C (tgt := 15) dX8_put_8 (by decide) (fun e8 => ?_) (fun e8 => ?_)
  · have hf := (if_neg e8).symm.trans hf
    refine j_iload C dX8_put_15 4 rfl ?_
    refine j_cS C (c_X8_isNumber X.1 hl p4) k_X8_isNumber gX8_put_X8_isNumber (As := [.int p4]) (rest := [.ref h8]) (st' := [.int (f_X8_isNumber p4), .ref h8]) (ws' := [(h8, .inr (8, [.int mT, .ref qz, .ref qv, .int mV, .ref qp, .ref qf, .int mY, .ref qo, .int mO, .int mS, .int mW, .long mH])), (qz, .inl (gI X.1, 1027, .inl mZ)), (qv, .inl (gI X.1, 6162, .inl mU)), (qp, .inl (gI X.1, 512, .inl mP)), (qf, .inl (gI X.1, 60, .inl mB)), (qo, .inl (gI X.1, 60, .inl mR))]) rfl rfl dX8_put_17 [] [0, 1, 2, 3, 4, 5] [0, 1, 2, 3, 4, 5] rfl rfl rfl rfl rfl rfl ?_
    refine j_if_eq C (tgt := 27) dX8_put_20 (by decide) (fun e20 => ?_) (fun e20 => ?_)
    · have hf := (if_pos e20).symm.trans hf
      refine j_iconst C (v := 2) dX8_put_27 (by decide) ?_
      refine j_loc [0, 1, 2, 3, 4] rfl ?_
      exact k28 2 hf
    · have hf := (if_neg e20).symm.trans hf
      refine j_iconst C (v := 0) dX8_put_23 (by decide) ?_
      refine j_goto C (tgt := 28) dX8_put_24 (by decide) ?_
      refine j_loc [0, 1, 2, 3, 4] rfl ?_
      exact k28 0 hf
  · have hf := (if_pos e8).symm.trans hf
    refine j_iconst C (v := 1) dX8_put_11 (by decide) ?_
    refine j_goto C (tgt := 28) dX8_put_12 (by decide) ?_
    refine j_loc [0, 1, 2, 3, 4] rfl ?_
    exact k28 1 hf

theorem lk_X8_canAdd_7 : Cond.fieldLink RX8 7 (TX8 1).1 (TX8 1).2.1 (TX8 1).2.2.1 ∈ wsX8_canAdd := by decide +kernel
theorem in_X8_canAdd_8 : ∀ w ∈ wsX80, w ∈ wsX8_canAdd := by decide +kernel
def f_X8_canAdd_J75 (s75_0 : Int32) (x6_7 : Int32) : Option ((Int32 × Int32) ⊕ (Int32)) :=
  some (.inl (s75_0, (x6_7 + 1)))
def f_X8_canAdd_J74 (x6_7 : Int32) : Option ((Int32 × Int32) ⊕ (Int32)) :=
  (f_X8_canAdd_J75 0 x6_7)
def f_X8_canAdd_L6 (p1 : Int32) (p2 : Int32) (p3 : Int32) (p4 : Int32) (p5 : Int32) (mZ : (Nat → Int32)) (x6_6 : Int32) (x6_7 : Int32) : Option ((Int32 × Int32) ⊕ (Int32)) :=
  if ((p4 * p4) * p4) ≤ x6_7 then dz_z x6_6 (some (.inr (x6_6))) else if x6_6 = 0 then (f_X8_canAdd_J74 x6_7) else dz_nz p4 (dz_nz p4 (dz_nz p4 (dz_nz (p4 * p4) (dz_in (3 + (f_X8_place (p1 + (x6_7 - x6_7 / p4 * p4)) (p2 + ((x6_7 / p4) - (x6_7 / p4) / p4 * p4)) (p3 + (x6_7 / (p4 * p4))))) 1027 (if (f_X8_isNumber ((mZ (Int32.toNatClampNeg (3 + (f_X8_place (p1 + (x6_7 - x6_7 / p4 * p4)) (p2 + ((x6_7 / p4) - (x6_7 / p4) / p4 * p4)) (p3 + (x6_7 / (p4 * p4))))))) + p5)) = 0 then (f_X8_canAdd_J74 x6_7) else (f_X8_canAdd_J75 1 x6_7))))))
def f_X8_canAdd (p1 : Int32) (p2 : Int32) (p3 : Int32) (p4 : Int32) (p5 : Int32) (mZ : (Nat → Int32)) : Option (Int32) :=
  dz_it (fun s : Int32 × Int32 => f_X8_canAdd_L6 p1 p2 p3 p4 p5 mZ s.1 s.2) (1, 0)
abbrev rm_X8_canAdd : Room := { frames := 3, cells := 0, slots := 0, locals := 58 }
theorem k_X8_canAdd : Cf yX8_canAdd wsX8_canAdd rm_X8_canAdd cX8_canAdd 8 (some .boolean) 5 := ⟨⟨_, rfl⟩, by decide +kernel, by decide +kernel, by decide +kernel⟩
set_option maxRecDepth 100000 in
set_option maxHeartbeats 4000000 in
theorem b_X8_canAdd (G : CG) (hl : (gL G).stackTraces = false) (h8 : Nat) (qz : Nat) (qv : Nat) (qp : Nat) (qf : Nat) (qo : Nat) (mT : Int32) (mZ : (Nat → Int32)) (mU : (Nat → Int32)) (mV : Int32) (mP : (Nat → Int32)) (mB : (Nat → Int32)) (mY : Int32) (mR : (Nat → Int32)) (mO : Int32) (mS : Int32) (mW : Int32) (mH : Int64) (p1 : Int32) (p2 : Int32) (p3 : Int32) (p4 : Int32) (p5 : Int32) (y : Int32) (hf : f_X8_canAdd p1 p2 p3 p4 p5 mZ = some y) : Ct G yX8_canAdd wsX8_canAdd rm_X8_canAdd [.ref h8, .int p1, .int p2, .int p3, .int p4, .int p5] [(h8, .inr (8, [.int mT, .ref qz, .ref qv, .int mV, .ref qp, .ref qf, .int mY, .ref qo, .int mO, .int mS, .int mW, .long mH])), (qz, .inl (gI G, 1027, .inl mZ)), (qv, .inl (gI G, 6162, .inl mU)), (qp, .inl (gI G, 512, .inl mP)), (qf, .inl (gI G, 60, .inl mB)), (qo, .inl (gI G, 60, .inl mR))] (fin1 (some (.int y)) [(h8, .inr (8, [.int mT, .ref qz, .ref qv, .int mV, .ref qp, .ref qf, .int mY, .ref qo, .int mO, .int mS, .int mW, .long mH])), (qz, .inl (gI G, 1027, .inl mZ)), (qv, .inl (gI G, 6162, .inl mU)), (qp, .inl (gI G, 512, .inl mP)), (qf, .inl (gI G, 60, .inl mB)), (qo, .inl (gI G, 60, .inl mR))]) 0 0 := by
  refine Ct.of (cc := cX8_canAdd) (N := 8) (ret := (some .boolean)) RX8 (by decide) rfl rfl hl (Nat.le_of_ble_eq_true rfl) (lv := [(0, .ref h8), (1, .int p1), (2, .int p2), (3, .int p3), (4, .int p4), (5, .int p5)]) rfl (fun X hXG C hex hnm hQ => ?_)
  subst hXG
  unfold f_X8_canAdd at hf
  refine j_iconst C (v := 1) dX8_canAdd_0 (by decide) ?_
  refine j_istore (lv' := [(6, .int 1), (0, .ref h8), (1, .int p1), (2, .int p2), (3, .int p3), (4, .int p4), (5, .int p5)]) C dX8_canAdd_1 (by decide) rfl ?_
  refine j_iconst C (v := 0) dX8_canAdd_3 (by decide) ?_
  refine j_istore (lv' := [(7, .int 0), (6, .int 1), (0, .ref h8), (1, .int p1), (2, .int p2), (3, .int p3), (4, .int p4), (5, .int p5)]) C dX8_canAdd_4 (by decide) rfl ?_
  have kk6 : ∀ (n : Nat) (x6_6 : Int32) (x6_7 : Int32), dz_iter n (fun s : Int32 × Int32 => f_X8_canAdd_L6 p1 p2 p3 p4 p5 mZ s.1 s.2) (x6_6, x6_7) = some y → Jt X [(h8, .inr (8, [.int mT, .ref qz, .ref qv, .int mV, .ref qp, .ref qf, .int mY, .ref qo, .int mO, .int mS, .int mW, .long mH])), (qz, .inl (gI X.1, 1027, .inl mZ)), (qv, .inl (gI X.1, 6162, .inl mU)), (qp, .inl (gI X.1, 512, .inl mP)), (qf, .inl (gI X.1, 60, .inl mB)), (qo, .inl (gI X.1, 60, .inl mR))] 0 0 6 [(0, .ref h8), (1, .int p1), (2, .int p2), (3, .int p3), (4, .int p4), (5, .int p5), (6, .int x6_6), (7, .int x6_7)] [] := by
    intro n
    induction n with
    | zero => intro x6_6 x6_7 hit; exact absurd hit (by simp [dz_iter])
    | succ n ih6 =>
      intro x6_6 x6_7 hit
      obtain ⟨y6, hf, hg6⟩ := dz_iter_succ hit
      replace hf : f_X8_canAdd_L6 p1 p2 p3 p4 p5 mZ x6_6 x6_7 = some y6 := hf
      unfold f_X8_canAdd_L6 at hf
      refine j_iload C dX8_canAdd_6 7 rfl ?_
      refine j_iload C dX8_canAdd_8 4 rfl ?_
      refine j_iload C dX8_canAdd_10 4 rfl ?_
      refine j_imul C dX8_canAdd_12 ?_
      refine j_iload C dX8_canAdd_13 4 rfl ?_
      refine j_imul C dX8_canAdd_15 ?_
      refine j_icmp_ge C (tgt := 83) dX8_canAdd_16 (by decide) (fun e16 => ?_) (fun e16 => ?_)
      · have hf := (if_pos e16).symm.trans hf
        refine j_iload C dX8_canAdd_83 6 rfl ?_
        obtain ⟨z85, hf⟩ := dz_z_some hf
        obtain rfl := Option.some.inj hf
        obtain rfl := dz_go_inr hg6
        exact j_zret C hQ rfl z85 dX8_canAdd_85 (Nat.zero_le _) (Nat.zero_le _) ⟨rfl, rfl⟩
      · have hf := (if_neg e16).symm.trans hf
        refine j_iload C dX8_canAdd_19 6 rfl ?_
        have k75 : ∀ (s75_0 : Int32), f_X8_canAdd_J75 s75_0 x6_7 = some y6 → Jt X [(h8, .inr (8, [.int mT, .ref qz, .ref qv, .int mV, .ref qp, .ref qf, .int mY, .ref qo, .int mO, .int mS, .int mW, .long mH])), (qz, .inl (gI X.1, 1027, .inl mZ)), (qv, .inl (gI X.1, 6162, .inl mU)), (qp, .inl (gI X.1, 512, .inl mP)), (qf, .inl (gI X.1, 60, .inl mB)), (qo, .inl (gI X.1, 60, .inl mR))] 0 0 75 [(0, .ref h8), (1, .int p1), (2, .int p2), (3, .int p3), (4, .int p4), (5, .int p5), (6, .int x6_6), (7, .int x6_7)] [.int s75_0] := by
          intro s75_0 hf
          unfold f_X8_canAdd_J75 at hf
          refine j_istore (lv' := [(6, .int s75_0), (0, .ref h8), (1, .int p1), (2, .int p2), (3, .int p3), (4, .int p4), (5, .int p5), (7, .int x6_7)]) C dX8_canAdd_75 (by decide) rfl ?_
          refine j_iinc (v := (x6_7 + 1)) (lv' := [(7, .int (x6_7 + 1)), (6, .int s75_0), (0, .ref h8), (1, .int p1), (2, .int p2), (3, .int p3), (4, .int p4), (5, .int p5)]) C dX8_canAdd_77 7 rfl (by first | rfl | decide) (by decide) rfl ?_
          refine j_goto C (tgt := 6) dX8_canAdd_80 (by decide) ?_
          obtain rfl := Option.some.inj hf
          have hf := dz_go_inl hg6
          refine j_loc [2, 3, 4, 5, 6, 7, 1, 0] rfl ?_
          exact ih6 s75_0 (x6_7 + 1) hf
        have k74 : f_X8_canAdd_J74 x6_7 = some y6 → Jt X [(h8, .inr (8, [.int mT, .ref qz, .ref qv, .int mV, .ref qp, .ref qf, .int mY, .ref qo, .int mO, .int mS, .int mW, .long mH])), (qz, .inl (gI X.1, 1027, .inl mZ)), (qv, .inl (gI X.1, 6162, .inl mU)), (qp, .inl (gI X.1, 512, .inl mP)), (qf, .inl (gI X.1, 60, .inl mB)), (qo, .inl (gI X.1, 60, .inl mR))] 0 0 74 [(0, .ref h8), (1, .int p1), (2, .int p2), (3, .int p3), (4, .int p4), (5, .int p5), (6, .int x6_6), (7, .int x6_7)] [] := by
          intro  hf
          unfold f_X8_canAdd_J74 at hf
          refine j_iconst C (v := 0) dX8_canAdd_74 (by decide) ?_
          refine j_loc [0, 1, 2, 3, 4, 5, 6, 7] rfl ?_
          exact k75 0 hf
        refine j_if_eq C (tgt := 74) dX8_canAdd_21 (by decide) (fun e21 => ?_) (fun e21 => ?_)
        · have hf := (if_pos e21).symm.trans hf
          refine j_loc [0, 1, 2, 3, 4, 5, 6, 7] rfl ?_
          exact k74  hf
        · have hf := (if_neg e21).symm.trans hf
          refine j_aload_n C dX8_canAdd_24 rfl 0 rfl ?_
          refine j_get8 C 0 rfl 1 (by decide) in_X8_canAdd_8 lk_X8_canAdd_7 rfl dX8_canAdd_25 ?_
          refine j_iconst C (v := 3) dX8_canAdd_28 (by decide) ?_
          refine j_iload_n C dX8_canAdd_29 rfl 1 rfl ?_
          refine j_iload C dX8_canAdd_30 7 rfl ?_
          refine j_iload C dX8_canAdd_32 4 rfl ?_
          obtain ⟨z34, hf⟩ := dz_nz_some hf
          refine j_irem C dX8_canAdd_34 z34 ?_
          refine j_iadd C dX8_canAdd_35 ?_
          refine j_iload_n C dX8_canAdd_36 rfl 2 rfl ?_
          refine j_iload C dX8_canAdd_37 7 rfl ?_
          refine j_iload C dX8_canAdd_39 4 rfl ?_
          obtain ⟨z41, hf⟩ := dz_nz_some hf
          refine j_idiv C dX8_canAdd_41 z41 ?_
          refine j_iload C dX8_canAdd_42 4 rfl ?_
          obtain ⟨z44, hf⟩ := dz_nz_some hf
          refine j_irem C dX8_canAdd_44 z44 ?_
          refine j_iadd C dX8_canAdd_45 ?_
          refine j_iload_n C dX8_canAdd_46 rfl 3 rfl ?_
          refine j_iload C dX8_canAdd_47 7 rfl ?_
          refine j_iload C dX8_canAdd_49 4 rfl ?_
          refine j_iload C dX8_canAdd_51 4 rfl ?_
          refine j_imul C dX8_canAdd_53 ?_
          obtain ⟨z54, hf⟩ := dz_nz_some hf
          refine j_idiv C dX8_canAdd_54 z54 ?_
          refine j_iadd C dX8_canAdd_55 ?_
          refine j_cS C (c_X8_place X.1 hl (p1 + (x6_7 - x6_7 / p4 * p4)) (p2 + ((x6_7 / p4) - (x6_7 / p4) / p4 * p4)) (p3 + (x6_7 / (p4 * p4)))) k_X8_place gX8_canAdd_X8_place (As := [.int (p1 + (x6_7 - x6_7 / p4 * p4)), .int (p2 + ((x6_7 / p4) - (x6_7 / p4) / p4 * p4)), .int (p3 + (x6_7 / (p4 * p4)))]) (rest := [.int 3, .ref qz]) (st' := [.int (f_X8_place (p1 + (x6_7 - x6_7 / p4 * p4)) (p2 + ((x6_7 / p4) - (x6_7 / p4) / p4 * p4)) (p3 + (x6_7 / (p4 * p4)))), .int 3, .ref qz]) (ws' := [(h8, .inr (8, [.int mT, .ref qz, .ref qv, .int mV, .ref qp, .ref qf, .int mY, .ref qo, .int mO, .int mS, .int mW, .long mH])), (qz, .inl (gI X.1, 1027, .inl mZ)), (qv, .inl (gI X.1, 6162, .inl mU)), (qp, .inl (gI X.1, 512, .inl mP)), (qf, .inl (gI X.1, 60, .inl mB)), (qo, .inl (gI X.1, 60, .inl mR))]) rfl rfl dX8_canAdd_56 [] [0, 1, 2, 3, 4, 5] [0, 1, 2, 3, 4, 5] rfl rfl rfl rfl rfl rfl ?_
          refine j_iadd C dX8_canAdd_59 ?_
          obtain ⟨z60, hf⟩ := dz_in_some hf
          refine j_iald C 1 rfl z60 dX8_canAdd_60 ?_
          refine j_iload C dX8_canAdd_61 5 rfl ?_
          refine j_iadd C dX8_canAdd_63 ?_
          refine j_cS C (c_X8_isNumber X.1 hl ((mZ (Int32.toNatClampNeg (3 + (f_X8_place (p1 + (x6_7 - x6_7 / p4 * p4)) (p2 + ((x6_7 / p4) - (x6_7 / p4) / p4 * p4)) (p3 + (x6_7 / (p4 * p4))))))) + p5)) k_X8_isNumber gX8_canAdd_X8_isNumber (As := [.int ((mZ (Int32.toNatClampNeg (3 + (f_X8_place (p1 + (x6_7 - x6_7 / p4 * p4)) (p2 + ((x6_7 / p4) - (x6_7 / p4) / p4 * p4)) (p3 + (x6_7 / (p4 * p4))))))) + p5)]) (rest := []) (st' := [.int (f_X8_isNumber ((mZ (Int32.toNatClampNeg (3 + (f_X8_place (p1 + (x6_7 - x6_7 / p4 * p4)) (p2 + ((x6_7 / p4) - (x6_7 / p4) / p4 * p4)) (p3 + (x6_7 / (p4 * p4))))))) + p5))]) (ws' := [(h8, .inr (8, [.int mT, .ref qz, .ref qv, .int mV, .ref qp, .ref qf, .int mY, .ref qo, .int mO, .int mS, .int mW, .long mH])), (qz, .inl (gI X.1, 1027, .inl mZ)), (qv, .inl (gI X.1, 6162, .inl mU)), (qp, .inl (gI X.1, 512, .inl mP)), (qf, .inl (gI X.1, 60, .inl mB)), (qo, .inl (gI X.1, 60, .inl mR))]) rfl rfl dX8_canAdd_64 [] [0, 1, 2, 3, 4, 5] [0, 1, 2, 3, 4, 5] rfl rfl rfl rfl rfl rfl ?_
          refine j_if_eq C (tgt := 74) dX8_canAdd_67 (by decide) (fun e67 => ?_) (fun e67 => ?_)
          · have hf := (if_pos e67).symm.trans hf
            refine j_loc [0, 1, 2, 3, 4, 5, 6, 7] rfl ?_
            exact k74  hf
          · have hf := (if_neg e67).symm.trans hf
            refine j_iconst C (v := 1) dX8_canAdd_70 (by decide) ?_
            refine j_goto C (tgt := 75) dX8_canAdd_71 (by decide) ?_
            refine j_loc [0, 1, 2, 3, 4, 5, 6, 7] rfl ?_
            exact k75 1 hf
  refine j_loc [2, 3, 4, 5, 6, 7, 1, 0] rfl ?_
  exact kk6 _ 1 0 hf

theorem lk_X8_add_25 : Cond.fieldLink RX8 25 (TX8 0).1 (TX8 0).2.1 (TX8 0).2.2.1 ∈ wsX8_add := by decide +kernel
theorem in_X8_add_8 : ∀ w ∈ wsX80, w ∈ wsX8_add := by decide +kernel
theorem lk_X8_add_7 : Cond.fieldLink RX8 7 (TX8 1).1 (TX8 1).2.1 (TX8 1).2.2.1 ∈ wsX8_add := by decide +kernel
def f_X8_add_J215 (p1 : Int32) (p2 : Int32) (p3 : Int32) (p4 : Int32) (p5 : Int32) (mZ_139 : (Nat → Int32)) (s215_0 : Int32) (x139_8 : Int32) (x139_9 : Int32) : Option ((Int32 × Int32 × (Nat → Int32)) ⊕ (Int32 × Int32 × (Nat → Int32) × (Nat → Int32) × Int32)) :=
  some (.inl ((x139_8 + s215_0), (x139_9 + 1), (upd mZ_139 (Int32.toNatClampNeg (3 + (f_X8_place (p1 + (x139_9 - x139_9 / p4 * p4)) (p2 + ((x139_9 / p4) - (x139_9 / p4) / p4 * p4)) (p3 + (x139_9 / (p4 * p4)))))) ((mZ_139 (Int32.toNatClampNeg (3 + (f_X8_place (p1 + (x139_9 - x139_9 / p4 * p4)) (p2 + ((x139_9 / p4) - (x139_9 / p4) / p4 * p4)) (p3 + (x139_9 / (p4 * p4))))))) + p5))))
def f_X8_add_L139 (p1 : Int32) (p2 : Int32) (p3 : Int32) (p4 : Int32) (p5 : Int32) (r130 : (Nat → Int32) × Int32) (s117_0 : Int32) (x139_8 : Int32) (x139_9 : Int32) (mZ_139 : (Nat → Int32)) : Option ((Int32 × Int32 × (Nat → Int32)) ⊕ (Int32 × Int32 × (Nat → Int32) × (Nat → Int32) × Int32)) :=
  if ((p4 * p4) * p4) ≤ x139_9 then some (.inr ((x139_8, s117_0, mZ_139, r130.1, r130.2))) else dz_nz p4 (dz_nz p4 (dz_nz p4 (dz_nz (p4 * p4) (dz_in (3 + (f_X8_place (p1 + (x139_9 - x139_9 / p4 * p4)) (p2 + ((x139_9 / p4) - (x139_9 / p4) / p4 * p4)) (p3 + (x139_9 / (p4 * p4))))) 1027 (dz_in (3 + (f_X8_place (p1 + (x139_9 - x139_9 / p4 * p4)) (p2 + ((x139_9 / p4) - (x139_9 / p4) / p4 * p4)) (p3 + (x139_9 / (p4 * p4))))) 1027 (dz_in (3 + (f_X8_place (p1 + (x139_9 - x139_9 / p4 * p4)) (p2 + ((x139_9 / p4) - (x139_9 / p4) / p4 * p4)) (p3 + (x139_9 / (p4 * p4))))) 1027 (if ((upd mZ_139 (Int32.toNatClampNeg (3 + (f_X8_place (p1 + (x139_9 - x139_9 / p4 * p4)) (p2 + ((x139_9 / p4) - (x139_9 / p4) / p4 * p4)) (p3 + (x139_9 / (p4 * p4)))))) ((mZ_139 (Int32.toNatClampNeg (3 + (f_X8_place (p1 + (x139_9 - x139_9 / p4 * p4)) (p2 + ((x139_9 / p4) - (x139_9 / p4) / p4 * p4)) (p3 + (x139_9 / (p4 * p4))))))) + p5)) (Int32.toNatClampNeg (3 + (f_X8_place (p1 + (x139_9 - x139_9 / p4 * p4)) (p2 + ((x139_9 / p4) - (x139_9 / p4) / p4 * p4)) (p3 + (x139_9 / (p4 * p4))))))) = 0 then (f_X8_add_J215 p1 p2 p3 p4 p5 mZ_139 0 x139_8 x139_9) else (f_X8_add_J215 p1 p2 p3 p4 p5 mZ_139 1 x139_8 x139_9))))))))
def f_X8_add_J117 (p1 : Int32) (p2 : Int32) (p3 : Int32) (p4 : Int32) (p5 : Int32) (mZ : (Nat → Int32)) (mU : (Nat → Int32)) (mV : Int32) (s117_0 : Int32) : Option (Int32 × Int32 × (Nat → Int32) × (Nat → Int32) × Int32) :=
  if s117_0 ≤ 0 then Option.bind (f_X8_save mZ mU mV) (fun r130 => dz_it (fun s : Int32 × Int32 × (Nat → Int32) => f_X8_add_L139 p1 p2 p3 p4 p5 r130 s117_0 s.1 s.2.1 s.2.2) (0, 0, mZ)) else some ((0, s117_0, mZ, mU, mV))
def f_X8_add_J77 (p1 : Int32) (p2 : Int32) (p3 : Int32) (p4 : Int32) (p5 : Int32) (mZ : (Nat → Int32)) (mU : (Nat → Int32)) (mV : Int32) (s51_0 : Int32) (s77_0 : Int32) : Option (Int32 × Int32 × (Nat → Int32) × (Nat → Int32) × Int32) :=
  if s51_0 = 0 then (f_X8_add_J117 p1 p2 p3 p4 p5 mZ mU mV 1) else if s77_0 = 0 then (f_X8_add_J117 p1 p2 p3 p4 p5 mZ mU mV 2) else Option.bind (f_X8_canAdd p1 p2 p3 p4 p5 mZ) (fun r106 => if r106 = 0 then (f_X8_add_J117 p1 p2 p3 p4 p5 mZ mU mV 3) else (f_X8_add_J117 p1 p2 p3 p4 p5 mZ mU mV 0))
def f_X8_add_J76 (p1 : Int32) (p2 : Int32) (p3 : Int32) (p4 : Int32) (p5 : Int32) (mZ : (Nat → Int32)) (mU : (Nat → Int32)) (mV : Int32) (s51_0 : Int32) : Option (Int32 × Int32 × (Nat → Int32) × (Nat → Int32) × Int32) :=
  (f_X8_add_J77 p1 p2 p3 p4 p5 mZ mU mV s51_0 0)
def f_X8_add_J51 (p1 : Int32) (p2 : Int32) (p3 : Int32) (p4 : Int32) (p5 : Int32) (mZ : (Nat → Int32)) (mU : (Nat → Int32)) (mV : Int32) (s51_0 : Int32) : Option (Int32 × Int32 × (Nat → Int32) × (Nat → Int32) × Int32) :=
  if (f_X8_in p4 1 8) = 0 then (f_X8_add_J76 p1 p2 p3 p4 p5 mZ mU mV s51_0) else if (f_X8_isNumber p5) = 0 then (f_X8_add_J76 p1 p2 p3 p4 p5 mZ mU mV s51_0) else (f_X8_add_J77 p1 p2 p3 p4 p5 mZ mU mV s51_0 1)
def f_X8_add_J50 (p1 : Int32) (p2 : Int32) (p3 : Int32) (p4 : Int32) (p5 : Int32) (mZ : (Nat → Int32)) (mU : (Nat → Int32)) (mV : Int32) : Option (Int32 × Int32 × (Nat → Int32) × (Nat → Int32) × Int32) :=
  (f_X8_add_J51 p1 p2 p3 p4 p5 mZ mU mV 0)
def f_X8_add_J46 (p1 : Int32) (p2 : Int32) (p3 : Int32) (p4 : Int32) (p5 : Int32) (mZ : (Nat → Int32)) (mU : (Nat → Int32)) (mV : Int32) : Option (Int32 × Int32 × (Nat → Int32) × (Nat → Int32) × Int32) :=
  (f_X8_add_J51 p1 p2 p3 p4 p5 mZ mU mV 1)
def f_X8_add (p1 : Int32) (p2 : Int32) (p3 : Int32) (p4 : Int32) (p5 : Int32) (mZ : (Nat → Int32)) (mU : (Nat → Int32)) (mV : Int32) : Option (Int32 × Int32 × (Nat → Int32) × (Nat → Int32) × Int32) :=
  if (f_X8_isPoint p1 p2 p3 mZ) = 0 then (f_X8_add_J50 p1 p2 p3 p4 p5 mZ mU mV) else if (f_X8_in p4 1 8) = 0 then (f_X8_add_J46 p1 p2 p3 p4 p5 mZ mU mV) else if (f_X8_isPoint ((p1 + p4) - 1) ((p2 + p4) - 1) ((p3 + p4) - 1) mZ) = 0 then (f_X8_add_J50 p1 p2 p3 p4 p5 mZ mU mV) else (f_X8_add_J46 p1 p2 p3 p4 p5 mZ mU mV)
abbrev rm_X8_add : Room := { frames := 4, cells := 0, slots := 0, locals := 85 }
theorem k_X8_add : Cf yX8_add wsX8_add rm_X8_add cX8_add 11 (some .int) 5 := ⟨⟨_, rfl⟩, by decide +kernel, by decide +kernel, by decide +kernel⟩
set_option maxRecDepth 100000 in
set_option maxHeartbeats 4000000 in
theorem b_X8_add (G : CG) (hl : (gL G).stackTraces = false) (h8 : Nat) (qz : Nat) (qv : Nat) (qp : Nat) (qf : Nat) (qo : Nat) (mT : Int32) (mZ : (Nat → Int32)) (mU : (Nat → Int32)) (mV : Int32) (mP : (Nat → Int32)) (mB : (Nat → Int32)) (mY : Int32) (mR : (Nat → Int32)) (mO : Int32) (mS : Int32) (mW : Int32) (mH : Int64) (p1 : Int32) (p2 : Int32) (p3 : Int32) (p4 : Int32) (p5 : Int32) (y : Int32 × Int32 × (Nat → Int32) × (Nat → Int32) × Int32) (hf : f_X8_add p1 p2 p3 p4 p5 mZ mU mV = some y) : Ct G yX8_add wsX8_add rm_X8_add [.ref h8, .int p1, .int p2, .int p3, .int p4, .int p5] [(h8, .inr (8, [.int mT, .ref qz, .ref qv, .int mV, .ref qp, .ref qf, .int mY, .ref qo, .int mO, .int mS, .int mW, .long mH])), (qz, .inl (gI G, 1027, .inl mZ)), (qv, .inl (gI G, 6162, .inl mU)), (qp, .inl (gI G, 512, .inl mP)), (qf, .inl (gI G, 60, .inl mB)), (qo, .inl (gI G, 60, .inl mR))] (fin1 (some (.int y.1)) [(h8, .inr (8, [.int y.2.1, .ref qz, .ref qv, .int y.2.2.2.2, .ref qp, .ref qf, .int mY, .ref qo, .int mO, .int mS, .int mW, .long mH])), (qz, .inl (gI G, 1027, .inl y.2.2.1)), (qv, .inl (gI G, 6162, .inl y.2.2.2.1)), (qp, .inl (gI G, 512, .inl mP)), (qf, .inl (gI G, 60, .inl mB)), (qo, .inl (gI G, 60, .inl mR))]) 0 0 := by
  refine Ct.of (cc := cX8_add) (N := 11) (ret := (some .int)) RX8 (by decide) rfl rfl hl (Nat.le_of_ble_eq_true rfl) (lv := [(0, .ref h8), (1, .int p1), (2, .int p2), (3, .int p3), (4, .int p4), (5, .int p5)]) rfl (fun X hXG C hex hnm hQ => ?_)
  subst hXG
  unfold f_X8_add at hf
  refine j_aload_n C dX8_add_0 rfl 0 rfl ?_
  refine j_iload_n C dX8_add_1 rfl 1 rfl ?_
  refine j_iload_n C dX8_add_2 rfl 2 rfl ?_
  refine j_iload_n C dX8_add_3 rfl 3 rfl ?_
  refine j_cV C (c_X8_isPoint X.1 hl h8 qz qv qp qf qo mT mZ mU mV mP mB mY mR mO mS mW mH p1 p2 p3) k_X8_isPoint gX8_add_X8_isPoint rfl (ci := 8) (q0 := 0) rfl rfl (As := [.int p1, .int p2, .int p3]) (rest := []) (st' := [.int (f_X8_isPoint p1 p2 p3 mZ)]) (ws' := [(h8, .inr (8, [.int mT, .ref qz, .ref qv, .int mV, .ref qp, .ref qf, .int mY, .ref qo, .int mO, .int mS, .int mW, .long mH])), (qz, .inl (gI X.1, 1027, .inl mZ)), (qv, .inl (gI X.1, 6162, .inl mU)), (qp, .inl (gI X.1, 512, .inl mP)), (qf, .inl (gI X.1, 60, .inl mB)), (qo, .inl (gI X.1, 60, .inl mR))]) rfl rfl dX8_add_4 [0, 1, 2, 3, 4, 5] [] [0, 1, 2, 3, 4, 5] rfl rfl rfl rfl rfl rfl ?_
  have k51 : ∀ (s51_0 : Int32), f_X8_add_J51 p1 p2 p3 p4 p5 mZ mU mV s51_0 = some y → Jt X [(h8, .inr (8, [.int mT, .ref qz, .ref qv, .int mV, .ref qp, .ref qf, .int mY, .ref qo, .int mO, .int mS, .int mW, .long mH])), (qz, .inl (gI X.1, 1027, .inl mZ)), (qv, .inl (gI X.1, 6162, .inl mU)), (qp, .inl (gI X.1, 512, .inl mP)), (qf, .inl (gI X.1, 60, .inl mB)), (qo, .inl (gI X.1, 60, .inl mR))] 0 0 51 [(0, .ref h8), (1, .int p1), (2, .int p2), (3, .int p3), (4, .int p4), (5, .int p5)] [.int s51_0] := by
    intro s51_0 hf
    unfold f_X8_add_J51 at hf
    refine j_istore (lv' := [(6, .int s51_0), (0, .ref h8), (1, .int p1), (2, .int p2), (3, .int p3), (4, .int p4), (5, .int p5)]) C dX8_add_51 (by decide) rfl ?_
    refine j_iload C dX8_add_53 5 rfl ?_
    refine j_iconst C (v := 1) dX8_add_55 (by decide) ?_
    refine j_bipush C (v := 8) dX8_add_56 (by decide) ?_
    refine j_cS C (c_X8_in X.1 hl p4 1 8) k_X8_in gX8_add_X8_in (As := [.int p4, .int 1, .int 8]) (rest := []) (st' := [.int (f_X8_in p4 1 8)]) (ws' := [(h8, .inr (8, [.int mT, .ref qz, .ref qv, .int mV, .ref qp, .ref qf, .int mY, .ref qo, .int mO, .int mS, .int mW, .long mH])), (qz, .inl (gI X.1, 1027, .inl mZ)), (qv, .inl (gI X.1, 6162, .inl mU)), (qp, .inl (gI X.1, 512, .inl mP)), (qf, .inl (gI X.1, 60, .inl mB)), (qo, .inl (gI X.1, 60, .inl mR))]) rfl rfl dX8_add_58 [] [0, 1, 2, 3, 4, 5] [0, 1, 2, 3, 4, 5] rfl rfl rfl rfl rfl rfl ?_
    have k77 : ∀ (s77_0 : Int32), f_X8_add_J77 p1 p2 p3 p4 p5 mZ mU mV s51_0 s77_0 = some y → Jt X [(h8, .inr (8, [.int mT, .ref qz, .ref qv, .int mV, .ref qp, .ref qf, .int mY, .ref qo, .int mO, .int mS, .int mW, .long mH])), (qz, .inl (gI X.1, 1027, .inl mZ)), (qv, .inl (gI X.1, 6162, .inl mU)), (qp, .inl (gI X.1, 512, .inl mP)), (qf, .inl (gI X.1, 60, .inl mB)), (qo, .inl (gI X.1, 60, .inl mR))] 0 0 77 [(0, .ref h8), (1, .int p1), (2, .int p2), (3, .int p3), (4, .int p4), (5, .int p5), (6, .int s51_0)] [.int s77_0] := by
      intro s77_0 hf
      unfold f_X8_add_J77 at hf
      refine j_istore (lv' := [(7, .int s77_0), (0, .ref h8), (1, .int p1), (2, .int p2), (3, .int p3), (4, .int p4), (5, .int p5), (6, .int s51_0)]) C dX8_add_77 (by decide) rfl ?_
      refine j_aload_n C dX8_add_79 rfl 1 rfl ?_
      refine j_iload C dX8_add_80 7 rfl ?_
      have k117 : ∀ (s117_0 : Int32), f_X8_add_J117 p1 p2 p3 p4 p5 mZ mU mV s117_0 = some y → Jt X [(h8, .inr (8, [.int mT, .ref qz, .ref qv, .int mV, .ref qp, .ref qf, .int mY, .ref qo, .int mO, .int mS, .int mW, .long mH])), (qz, .inl (gI X.1, 1027, .inl mZ)), (qv, .inl (gI X.1, 6162, .inl mU)), (qp, .inl (gI X.1, 512, .inl mP)), (qf, .inl (gI X.1, 60, .inl mB)), (qo, .inl (gI X.1, 60, .inl mR))] 0 0 117 [(0, .ref h8), (1, .int p1), (2, .int p2), (3, .int p3), (4, .int p4), (5, .int p5), (6, .int s51_0), (7, .int s77_0)] [.int s117_0, .ref h8] := by
        intro s117_0 hf
        unfold f_X8_add_J117 at hf
        refine j_put8 (ty := .int) (ws' := [(h8, .inr (8, [.int s117_0, .ref qz, .ref qv, .int mV, .ref qp, .ref qf, .int mY, .ref qo, .int mO, .int mS, .int mW, .long mH])), (qz, .inl (gI X.1, 1027, .inl mZ)), (qv, .inl (gI X.1, 6162, .inl mU)), (qp, .inl (gI X.1, 512, .inl mP)), (qf, .inl (gI X.1, 60, .inl mB)), (qo, .inl (gI X.1, 60, .inl mR))]) C 0 rfl 0 (by decide) in_X8_add_8 lk_X8_add_25 rfl (by decide +kernel) rfl rfl (Nat.le_of_ble_eq_true rfl) rfl dX8_add_117 ?_
        refine j_aload_n C dX8_add_120 rfl 0 rfl ?_
        refine j_get8 C 0 rfl 0 (by decide) in_X8_add_8 lk_X8_add_25 rfl dX8_add_121 ?_
        refine j_if_le C (tgt := 129) dX8_add_124 (by decide) (fun e124 => ?_) (fun e124 => ?_)
        · have hf := (if_pos e124).symm.trans hf
          refine j_aload_n C dX8_add_129 rfl 0 rfl ?_
          obtain ⟨r130, hc130, hf⟩ := Option.bind_eq_some_iff.mp hf
          refine j_cV C (b_X8_save X.1 hl h8 qz qv qp qf qo s117_0 mZ mU mV mP mB mY mR mO mS mW mH r130 hc130) k_X8_save gX8_add_X8_save rfl (ci := 8) (q0 := 0) rfl rfl (As := []) (rest := []) (st' := []) (ws' := [(h8, .inr (8, [.int s117_0, .ref qz, .ref qv, .int r130.2, .ref qp, .ref qf, .int mY, .ref qo, .int mO, .int mS, .int mW, .long mH])), (qz, .inl (gI X.1, 1027, .inl mZ)), (qv, .inl (gI X.1, 6162, .inl r130.1)), (qp, .inl (gI X.1, 512, .inl mP)), (qf, .inl (gI X.1, 60, .inl mB)), (qo, .inl (gI X.1, 60, .inl mR))]) rfl rfl dX8_add_130 [0, 1, 2, 3, 4, 5] [] [0, 1, 2, 3, 4, 5] rfl rfl rfl rfl rfl rfl ?_
          refine j_iconst C (v := 0) dX8_add_133 (by decide) ?_
          refine j_istore (lv' := [(8, .int 0), (0, .ref h8), (1, .int p1), (2, .int p2), (3, .int p3), (4, .int p4), (5, .int p5), (6, .int s51_0), (7, .int s77_0)]) C dX8_add_134 (by decide) rfl ?_
          refine j_iconst C (v := 0) dX8_add_136 (by decide) ?_
          refine j_istore (lv' := [(9, .int 0), (8, .int 0), (0, .ref h8), (1, .int p1), (2, .int p2), (3, .int p3), (4, .int p4), (5, .int p5), (6, .int s51_0), (7, .int s77_0)]) C dX8_add_137 (by decide) rfl ?_
          have kk139 : ∀ (n : Nat) (x139_8 : Int32) (x139_9 : Int32) (mZ_139 : (Nat → Int32)), dz_iter n (fun s : Int32 × Int32 × (Nat → Int32) => f_X8_add_L139 p1 p2 p3 p4 p5 r130 s117_0 s.1 s.2.1 s.2.2) (x139_8, x139_9, mZ_139) = some y → Jt X [(h8, .inr (8, [.int s117_0, .ref qz, .ref qv, .int r130.2, .ref qp, .ref qf, .int mY, .ref qo, .int mO, .int mS, .int mW, .long mH])), (qz, .inl (gI X.1, 1027, .inl mZ_139)), (qv, .inl (gI X.1, 6162, .inl r130.1)), (qp, .inl (gI X.1, 512, .inl mP)), (qf, .inl (gI X.1, 60, .inl mB)), (qo, .inl (gI X.1, 60, .inl mR))] 0 0 139 [(0, .ref h8), (1, .int p1), (2, .int p2), (3, .int p3), (4, .int p4), (5, .int p5), (6, .int s51_0), (7, .int s77_0), (8, .int x139_8), (9, .int x139_9)] [] := by
            intro n
            induction n with
            | zero => intro x139_8 x139_9 mZ_139 hit; exact absurd hit (by simp [dz_iter])
            | succ n ih139 =>
              intro x139_8 x139_9 mZ_139 hit
              obtain ⟨y139, hf, hg139⟩ := dz_iter_succ hit
              replace hf : f_X8_add_L139 p1 p2 p3 p4 p5 r130 s117_0 x139_8 x139_9 mZ_139 = some y139 := hf
              unfold f_X8_add_L139 at hf
              refine j_iload C dX8_add_139 9 rfl ?_
              refine j_iload C dX8_add_141 4 rfl ?_
              refine j_iload C dX8_add_143 4 rfl ?_
              refine j_imul C dX8_add_145 ?_
              refine j_iload C dX8_add_146 4 rfl ?_
              refine j_imul C dX8_add_148 ?_
              refine j_icmp_ge C (tgt := 224) dX8_add_149 (by decide) (fun e149 => ?_) (fun e149 => ?_)
              · have hf := (if_pos e149).symm.trans hf
                refine j_iload C dX8_add_224 8 rfl ?_
                obtain rfl := Option.some.inj hf
                obtain rfl := dz_go_inr hg139
                exact j_iret C hQ rfl dX8_add_226 (Nat.zero_le _) (Nat.zero_le _) ⟨rfl, rfl⟩
              · have hf := (if_neg e149).symm.trans hf
                refine j_iconst C (v := 3) dX8_add_152 (by decide) ?_
                refine j_iload_n C dX8_add_153 rfl 1 rfl ?_
                refine j_iload C dX8_add_154 9 rfl ?_
                refine j_iload C dX8_add_156 4 rfl ?_
                obtain ⟨z158, hf⟩ := dz_nz_some hf
                refine j_irem C dX8_add_158 z158 ?_
                refine j_iadd C dX8_add_159 ?_
                refine j_iload_n C dX8_add_160 rfl 2 rfl ?_
                refine j_iload C dX8_add_161 9 rfl ?_
                refine j_iload C dX8_add_163 4 rfl ?_
                obtain ⟨z165, hf⟩ := dz_nz_some hf
                refine j_idiv C dX8_add_165 z165 ?_
                refine j_iload C dX8_add_166 4 rfl ?_
                obtain ⟨z168, hf⟩ := dz_nz_some hf
                refine j_irem C dX8_add_168 z168 ?_
                refine j_iadd C dX8_add_169 ?_
                refine j_iload_n C dX8_add_170 rfl 3 rfl ?_
                refine j_iload C dX8_add_171 9 rfl ?_
                refine j_iload C dX8_add_173 4 rfl ?_
                refine j_iload C dX8_add_175 4 rfl ?_
                refine j_imul C dX8_add_177 ?_
                obtain ⟨z178, hf⟩ := dz_nz_some hf
                refine j_idiv C dX8_add_178 z178 ?_
                refine j_iadd C dX8_add_179 ?_
                refine j_cS C (c_X8_place X.1 hl (p1 + (x139_9 - x139_9 / p4 * p4)) (p2 + ((x139_9 / p4) - (x139_9 / p4) / p4 * p4)) (p3 + (x139_9 / (p4 * p4)))) k_X8_place gX8_add_X8_place (As := [.int (p1 + (x139_9 - x139_9 / p4 * p4)), .int (p2 + ((x139_9 / p4) - (x139_9 / p4) / p4 * p4)), .int (p3 + (x139_9 / (p4 * p4)))]) (rest := [.int 3]) (st' := [.int (f_X8_place (p1 + (x139_9 - x139_9 / p4 * p4)) (p2 + ((x139_9 / p4) - (x139_9 / p4) / p4 * p4)) (p3 + (x139_9 / (p4 * p4)))), .int 3]) (ws' := [(h8, .inr (8, [.int s117_0, .ref qz, .ref qv, .int r130.2, .ref qp, .ref qf, .int mY, .ref qo, .int mO, .int mS, .int mW, .long mH])), (qz, .inl (gI X.1, 1027, .inl mZ_139)), (qv, .inl (gI X.1, 6162, .inl r130.1)), (qp, .inl (gI X.1, 512, .inl mP)), (qf, .inl (gI X.1, 60, .inl mB)), (qo, .inl (gI X.1, 60, .inl mR))]) rfl rfl dX8_add_180 [] [0, 1, 2, 3, 4, 5] [0, 1, 2, 3, 4, 5] rfl rfl rfl rfl rfl rfl ?_
                refine j_iadd C dX8_add_183 ?_
                refine j_istore (lv' := [(10, .int (3 + (f_X8_place (p1 + (x139_9 - x139_9 / p4 * p4)) (p2 + ((x139_9 / p4) - (x139_9 / p4) / p4 * p4)) (p3 + (x139_9 / (p4 * p4)))))), (0, .ref h8), (1, .int p1), (2, .int p2), (3, .int p3), (4, .int p4), (5, .int p5), (6, .int s51_0), (7, .int s77_0), (8, .int x139_8), (9, .int x139_9)]) C dX8_add_184 (by decide) rfl ?_
                refine j_aload_n C dX8_add_186 rfl 1 rfl ?_
                refine j_get8 C 0 rfl 1 (by decide) in_X8_add_8 lk_X8_add_7 rfl dX8_add_187 ?_
                refine j_iload C dX8_add_190 0 rfl ?_
                refine j_dup2 C dX8_add_192 rfl rfl ?_
                obtain ⟨z193, hf⟩ := dz_in_some hf
                refine j_iald C 1 rfl z193 dX8_add_193 ?_
                refine j_iload C dX8_add_194 6 rfl ?_
                refine j_iadd C dX8_add_196 ?_
                obtain ⟨z197, hf⟩ := dz_in_some hf
                refine j_iast (ws' := [(h8, .inr (8, [.int s117_0, .ref qz, .ref qv, .int r130.2, .ref qp, .ref qf, .int mY, .ref qo, .int mO, .int mS, .int mW, .long mH])), (qz, .inl (gI X.1, 1027, .inl (upd mZ_139 (Int32.toNatClampNeg (3 + (f_X8_place (p1 + (x139_9 - x139_9 / p4 * p4)) (p2 + ((x139_9 / p4) - (x139_9 / p4) / p4 * p4)) (p3 + (x139_9 / (p4 * p4)))))) ((mZ_139 (Int32.toNatClampNeg (3 + (f_X8_place (p1 + (x139_9 - x139_9 / p4 * p4)) (p2 + ((x139_9 / p4) - (x139_9 / p4) / p4 * p4)) (p3 + (x139_9 / (p4 * p4))))))) + p5)))), (qv, .inl (gI X.1, 6162, .inl r130.1)), (qp, .inl (gI X.1, 512, .inl mP)), (qf, .inl (gI X.1, 60, .inl mB)), (qo, .inl (gI X.1, 60, .inl mR))]) C 1 rfl z197 rfl dX8_add_197 ?_
                refine j_iload C dX8_add_198 9 rfl ?_
                refine j_aload_n C dX8_add_200 rfl 1 rfl ?_
                refine j_get8 C 0 rfl 1 (by decide) in_X8_add_8 lk_X8_add_7 rfl dX8_add_201 ?_
                refine j_iload C dX8_add_204 0 rfl ?_
                obtain ⟨z206, hf⟩ := dz_in_some hf
                refine j_iald C 1 rfl z206 dX8_add_206 ?_
                have k215 : ∀ (s215_0 : Int32), f_X8_add_J215 p1 p2 p3 p4 p5 mZ_139 s215_0 x139_8 x139_9 = some y139 → Jt X [(h8, .inr (8, [.int s117_0, .ref qz, .ref qv, .int r130.2, .ref qp, .ref qf, .int mY, .ref qo, .int mO, .int mS, .int mW, .long mH])), (qz, .inl (gI X.1, 1027, .inl (upd mZ_139 (Int32.toNatClampNeg (3 + (f_X8_place (p1 + (x139_9 - x139_9 / p4 * p4)) (p2 + ((x139_9 / p4) - (x139_9 / p4) / p4 * p4)) (p3 + (x139_9 / (p4 * p4)))))) ((mZ_139 (Int32.toNatClampNeg (3 + (f_X8_place (p1 + (x139_9 - x139_9 / p4 * p4)) (p2 + ((x139_9 / p4) - (x139_9 / p4) / p4 * p4)) (p3 + (x139_9 / (p4 * p4))))))) + p5)))), (qv, .inl (gI X.1, 6162, .inl r130.1)), (qp, .inl (gI X.1, 512, .inl mP)), (qf, .inl (gI X.1, 60, .inl mB)), (qo, .inl (gI X.1, 60, .inl mR))] 0 0 215 [(0, .ref h8), (1, .int p1), (2, .int p2), (3, .int p3), (4, .int p4), (5, .int p5), (6, .int s51_0), (7, .int s77_0), (8, .int x139_8), (9, .int x139_9), (10, .int (3 + (f_X8_place (p1 + (x139_9 - x139_9 / p4 * p4)) (p2 + ((x139_9 / p4) - (x139_9 / p4) / p4 * p4)) (p3 + (x139_9 / (p4 * p4))))))] [.int s215_0, .int x139_8] := by
                  intro s215_0 hf
                  unfold f_X8_add_J215 at hf
                  refine j_iadd C dX8_add_215 ?_
                  refine j_istore (lv' := [(8, .int (x139_8 + s215_0)), (0, .ref h8), (1, .int p1), (2, .int p2), (3, .int p3), (4, .int p4), (5, .int p5), (6, .int s51_0), (7, .int s77_0), (9, .int x139_9), (10, .int (3 + (f_X8_place (p1 + (x139_9 - x139_9 / p4 * p4)) (p2 + ((x139_9 / p4) - (x139_9 / p4) / p4 * p4)) (p3 + (x139_9 / (p4 * p4))))))]) C dX8_add_216 (by decide) rfl ?_
                  refine j_iinc (v := (x139_9 + 1)) (lv' := [(9, .int (x139_9 + 1)), (8, .int (x139_8 + s215_0)), (0, .ref h8), (1, .int p1), (2, .int p2), (3, .int p3), (4, .int p4), (5, .int p5), (6, .int s51_0), (7, .int s77_0), (10, .int (3 + (f_X8_place (p1 + (x139_9 - x139_9 / p4 * p4)) (p2 + ((x139_9 / p4) - (x139_9 / p4) / p4 * p4)) (p3 + (x139_9 / (p4 * p4))))))]) C dX8_add_218 9 rfl (by first | rfl | decide) (by decide) rfl ?_
                  refine j_goto C (tgt := 139) dX8_add_221 (by decide) ?_
                  obtain rfl := Option.some.inj hf
                  have hf := dz_go_inl hg139
                  refine j_loc [2, 3, 4, 5, 6, 7, 8, 9, 1, 0] rfl ?_
                  exact ih139 (x139_8 + s215_0) (x139_9 + 1) (upd mZ_139 (Int32.toNatClampNeg (3 + (f_X8_place (p1 + (x139_9 - x139_9 / p4 * p4)) (p2 + ((x139_9 / p4) - (x139_9 / p4) / p4 * p4)) (p3 + (x139_9 / (p4 * p4)))))) ((mZ_139 (Int32.toNatClampNeg (3 + (f_X8_place (p1 + (x139_9 - x139_9 / p4 * p4)) (p2 + ((x139_9 / p4) - (x139_9 / p4) / p4 * p4)) (p3 + (x139_9 / (p4 * p4))))))) + p5)) hf
                refine j_if_ne C (tgt := 214) dX8_add_207 (by decide) (fun e207 => ?_) (fun e207 => ?_)
                · have hf := (if_neg e207).symm.trans hf
                  refine j_iconst C (v := 1) dX8_add_214 (by decide) ?_
                  refine j_loc [1, 2, 3, 4, 5, 6, 7, 8, 9, 10, 0] rfl ?_
                  exact k215 1 hf
                · have hf := (if_pos e207).symm.trans hf
                  refine j_iconst C (v := 0) dX8_add_210 (by decide) ?_
                  refine j_goto C (tgt := 215) dX8_add_211 (by decide) ?_
                  refine j_loc [1, 2, 3, 4, 5, 6, 7, 8, 9, 10, 0] rfl ?_
                  exact k215 0 hf
          refine j_loc [2, 3, 4, 5, 6, 7, 8, 9, 1, 0] rfl ?_
          exact kk139 _ 0 0 mZ hf
        · have hf := (if_neg e124).symm.trans hf
          refine j_iconst C (v := 0) dX8_add_127 (by decide) ?_
          obtain rfl := Option.some.inj hf
          exact j_iret C hQ rfl dX8_add_128 (Nat.zero_le _) (Nat.zero_le _) ⟨rfl, rfl⟩
      refine j_if_ne C (tgt := 89) dX8_add_82 (by decide) (fun e82 => ?_) (fun e82 => ?_)
      · have hf := (if_neg e82).symm.trans hf
        refine j_iload C dX8_add_89 0 rfl ?_
        refine j_if_ne C (tgt := 98) dX8_add_91 (by decide) (fun e91 => ?_) (fun e91 => ?_)
        · have hf := (if_neg e91).symm.trans hf
          refine j_aload_n C dX8_add_98 rfl 1 rfl ?_
          refine j_iload_n C dX8_add_99 rfl 2 rfl ?_
          refine j_iload_n C dX8_add_100 rfl 3 rfl ?_
          refine j_iload_n C dX8_add_101 rfl 4 rfl ?_
          refine j_iload C dX8_add_102 5 rfl ?_
          refine j_iload C dX8_add_104 6 rfl ?_
          obtain ⟨r106, hc106, hf⟩ := Option.bind_eq_some_iff.mp hf
          refine j_cV C (b_X8_canAdd X.1 hl h8 qz qv qp qf qo mT mZ mU mV mP mB mY mR mO mS mW mH p1 p2 p3 p4 p5 r106 hc106) k_X8_canAdd gX8_add_X8_canAdd rfl (ci := 8) (q0 := 0) rfl rfl (As := [.int p1, .int p2, .int p3, .int p4, .int p5]) (rest := [.ref h8]) (st' := [.int r106, .ref h8]) (ws' := [(h8, .inr (8, [.int mT, .ref qz, .ref qv, .int mV, .ref qp, .ref qf, .int mY, .ref qo, .int mO, .int mS, .int mW, .long mH])), (qz, .inl (gI X.1, 1027, .inl mZ)), (qv, .inl (gI X.1, 6162, .inl mU)), (qp, .inl (gI X.1, 512, .inl mP)), (qf, .inl (gI X.1, 60, .inl mB)), (qo, .inl (gI X.1, 60, .inl mR))]) rfl rfl dX8_add_106 [0, 1, 2, 3, 4, 5] [] [0, 1, 2, 3, 4, 5] rfl rfl rfl rfl rfl rfl ?_
          refine j_if_eq C (tgt := 116) dX8_add_109 (by decide) (fun e109 => ?_) (fun e109 => ?_)
          · have hf := (if_pos e109).symm.trans hf
            refine j_iconst C (v := 3) dX8_add_116 (by decide) ?_
            refine j_loc [1, 2, 3, 4, 5, 6, 7, 0] rfl ?_
            exact k117 3 hf
          · have hf := (if_neg e109).symm.trans hf
            refine j_iconst C (v := 0) dX8_add_112 (by decide) ?_
            refine j_goto C (tgt := 117) dX8_add_113 (by decide) ?_
            refine j_loc [1, 2, 3, 4, 5, 6, 7, 0] rfl ?_
            exact k117 0 hf
        · have hf := (if_pos e91).symm.trans hf
          refine j_iconst C (v := 2) dX8_add_94 (by decide) ?_
          refine j_goto C (tgt := 117) dX8_add_95 (by decide) ?_
          refine j_loc [1, 2, 3, 4, 5, 6, 7, 0] rfl ?_
          exact k117 2 hf
      · have hf := (if_pos e82).symm.trans hf
        refine j_iconst C (v := 1) dX8_add_85 (by decide) ?_
        refine j_goto C (tgt := 117) dX8_add_86 (by decide) ?_
        refine j_loc [1, 2, 3, 4, 5, 6, 7, 0] rfl ?_
        exact k117 1 hf
    have k76 : f_X8_add_J76 p1 p2 p3 p4 p5 mZ mU mV s51_0 = some y → Jt X [(h8, .inr (8, [.int mT, .ref qz, .ref qv, .int mV, .ref qp, .ref qf, .int mY, .ref qo, .int mO, .int mS, .int mW, .long mH])), (qz, .inl (gI X.1, 1027, .inl mZ)), (qv, .inl (gI X.1, 6162, .inl mU)), (qp, .inl (gI X.1, 512, .inl mP)), (qf, .inl (gI X.1, 60, .inl mB)), (qo, .inl (gI X.1, 60, .inl mR))] 0 0 76 [(0, .ref h8), (1, .int p1), (2, .int p2), (3, .int p3), (4, .int p4), (5, .int p5), (6, .int s51_0)] [] := by
      intro  hf
      unfold f_X8_add_J76 at hf
      refine j_iconst C (v := 0) dX8_add_76 (by decide) ?_
      refine j_loc [0, 1, 2, 3, 4, 5, 6] rfl ?_
      exact k77 0 hf
    refine j_if_eq C (tgt := 76) dX8_add_61 (by decide) (fun e61 => ?_) (fun e61 => ?_)
    · have hf := (if_pos e61).symm.trans hf
      refine j_loc [1, 2, 3, 4, 5, 6, 0] rfl ?_
      exact k76  hf
    · have hf := (if_neg e61).symm.trans hf
      refine j_iload C dX8_add_64 6 rfl ?_
      refine j_cS C (c_X8_isNumber X.1 hl p5) k_X8_isNumber gX8_add_X8_isNumber (As := [.int p5]) (rest := []) (st' := [.int (f_X8_isNumber p5)]) (ws' := [(h8, .inr (8, [.int mT, .ref qz, .ref qv, .int mV, .ref qp, .ref qf, .int mY, .ref qo, .int mO, .int mS, .int mW, .long mH])), (qz, .inl (gI X.1, 1027, .inl mZ)), (qv, .inl (gI X.1, 6162, .inl mU)), (qp, .inl (gI X.1, 512, .inl mP)), (qf, .inl (gI X.1, 60, .inl mB)), (qo, .inl (gI X.1, 60, .inl mR))]) rfl rfl dX8_add_66 [] [0, 1, 2, 3, 4, 5] [0, 1, 2, 3, 4, 5] rfl rfl rfl rfl rfl rfl ?_
      refine j_if_eq C (tgt := 76) dX8_add_69 (by decide) (fun e69 => ?_) (fun e69 => ?_)
      · have hf := (if_pos e69).symm.trans hf
        refine j_loc [1, 2, 3, 4, 5, 6, 0] rfl ?_
        exact k76  hf
      · have hf := (if_neg e69).symm.trans hf
        refine j_iconst C (v := 1) dX8_add_72 (by decide) ?_
        refine j_goto C (tgt := 77) dX8_add_73 (by decide) ?_
        refine j_loc [1, 2, 3, 4, 5, 6, 0] rfl ?_
        exact k77 1 hf
  have k50 : f_X8_add_J50 p1 p2 p3 p4 p5 mZ mU mV = some y → Jt X [(h8, .inr (8, [.int mT, .ref qz, .ref qv, .int mV, .ref qp, .ref qf, .int mY, .ref qo, .int mO, .int mS, .int mW, .long mH])), (qz, .inl (gI X.1, 1027, .inl mZ)), (qv, .inl (gI X.1, 6162, .inl mU)), (qp, .inl (gI X.1, 512, .inl mP)), (qf, .inl (gI X.1, 60, .inl mB)), (qo, .inl (gI X.1, 60, .inl mR))] 0 0 50 [(0, .ref h8), (1, .int p1), (2, .int p2), (3, .int p3), (4, .int p4), (5, .int p5)] [] := by
    intro  hf
    unfold f_X8_add_J50 at hf
    refine j_iconst C (v := 0) dX8_add_50 (by decide) ?_
    refine j_loc [0, 1, 2, 3, 4, 5] rfl ?_
    exact k51 0 hf
  refine j_if_eq C (tgt := 50) dX8_add_7 (by decide) (fun e7 => ?_) (fun e7 => ?_)
  · have hf := (if_pos e7).symm.trans hf
    refine j_loc [0, 1, 2, 3, 4, 5] rfl ?_
    exact k50  hf
  · have hf := (if_neg e7).symm.trans hf
    refine j_iload C dX8_add_10 4 rfl ?_
    refine j_iconst C (v := 1) dX8_add_12 (by decide) ?_
    refine j_bipush C (v := 8) dX8_add_13 (by decide) ?_
    refine j_cS C (c_X8_in X.1 hl p4 1 8) k_X8_in gX8_add_X8_in (As := [.int p4, .int 1, .int 8]) (rest := []) (st' := [.int (f_X8_in p4 1 8)]) (ws' := [(h8, .inr (8, [.int mT, .ref qz, .ref qv, .int mV, .ref qp, .ref qf, .int mY, .ref qo, .int mO, .int mS, .int mW, .long mH])), (qz, .inl (gI X.1, 1027, .inl mZ)), (qv, .inl (gI X.1, 6162, .inl mU)), (qp, .inl (gI X.1, 512, .inl mP)), (qf, .inl (gI X.1, 60, .inl mB)), (qo, .inl (gI X.1, 60, .inl mR))]) rfl rfl dX8_add_15 [] [0, 1, 2, 3, 4, 5] [0, 1, 2, 3, 4, 5] rfl rfl rfl rfl rfl rfl ?_
    have k46 : f_X8_add_J46 p1 p2 p3 p4 p5 mZ mU mV = some y → Jt X [(h8, .inr (8, [.int mT, .ref qz, .ref qv, .int mV, .ref qp, .ref qf, .int mY, .ref qo, .int mO, .int mS, .int mW, .long mH])), (qz, .inl (gI X.1, 1027, .inl mZ)), (qv, .inl (gI X.1, 6162, .inl mU)), (qp, .inl (gI X.1, 512, .inl mP)), (qf, .inl (gI X.1, 60, .inl mB)), (qo, .inl (gI X.1, 60, .inl mR))] 0 0 46 [(0, .ref h8), (1, .int p1), (2, .int p2), (3, .int p3), (4, .int p4), (5, .int p5)] [] := by
      intro  hf
      unfold f_X8_add_J46 at hf
      refine j_iconst C (v := 1) dX8_add_46 (by decide) ?_
      refine j_goto C (tgt := 51) dX8_add_47 (by decide) ?_
      refine j_loc [0, 1, 2, 3, 4, 5] rfl ?_
      exact k51 1 hf
    refine j_if_eq C (tgt := 46) dX8_add_18 (by decide) (fun e18 => ?_) (fun e18 => ?_)
    · have hf := (if_pos e18).symm.trans hf
      refine j_loc [0, 1, 2, 3, 4, 5] rfl ?_
      exact k46  hf
    · have hf := (if_neg e18).symm.trans hf
      refine j_aload_n C dX8_add_21 rfl 0 rfl ?_
      refine j_iload_n C dX8_add_22 rfl 1 rfl ?_
      refine j_iload C dX8_add_23 4 rfl ?_
      refine j_iadd C dX8_add_25 ?_
      refine j_iconst C (v := 1) dX8_add_26 (by decide) ?_
      refine j_isub C dX8_add_27 ?_
      refine j_iload_n C dX8_add_28 rfl 2 rfl ?_
      refine j_iload C dX8_add_29 4 rfl ?_
      refine j_iadd C dX8_add_31 ?_
      refine j_iconst C (v := 1) dX8_add_32 (by decide) ?_
      refine j_isub C dX8_add_33 ?_
      refine j_iload_n C dX8_add_34 rfl 3 rfl ?_
      refine j_iload C dX8_add_35 4 rfl ?_
      refine j_iadd C dX8_add_37 ?_
      refine j_iconst C (v := 1) dX8_add_38 (by decide) ?_
      refine j_isub C dX8_add_39 ?_
      refine j_cV C (c_X8_isPoint X.1 hl h8 qz qv qp qf qo mT mZ mU mV mP mB mY mR mO mS mW mH ((p1 + p4) - 1) ((p2 + p4) - 1) ((p3 + p4) - 1)) k_X8_isPoint gX8_add_X8_isPoint rfl (ci := 8) (q0 := 0) rfl rfl (As := [.int ((p1 + p4) - 1), .int ((p2 + p4) - 1), .int ((p3 + p4) - 1)]) (rest := []) (st' := [.int (f_X8_isPoint ((p1 + p4) - 1) ((p2 + p4) - 1) ((p3 + p4) - 1) mZ)]) (ws' := [(h8, .inr (8, [.int mT, .ref qz, .ref qv, .int mV, .ref qp, .ref qf, .int mY, .ref qo, .int mO, .int mS, .int mW, .long mH])), (qz, .inl (gI X.1, 1027, .inl mZ)), (qv, .inl (gI X.1, 6162, .inl mU)), (qp, .inl (gI X.1, 512, .inl mP)), (qf, .inl (gI X.1, 60, .inl mB)), (qo, .inl (gI X.1, 60, .inl mR))]) rfl rfl dX8_add_40 [0, 1, 2, 3, 4, 5] [] [0, 1, 2, 3, 4, 5] rfl rfl rfl rfl rfl rfl ?_
      refine j_if_eq C (tgt := 50) dX8_add_43 (by decide) (fun e43 => ?_) (fun e43 => ?_)
      · have hf := (if_pos e43).symm.trans hf
        refine j_loc [0, 1, 2, 3, 4, 5] rfl ?_
        exact k50  hf
      · have hf := (if_neg e43).symm.trans hf
        refine j_loc [0, 1, 2, 3, 4, 5] rfl ?_
        exact k46  hf

theorem lk_X8_wipe_25 : Cond.fieldLink RX8 25 (TX8 0).1 (TX8 0).2.1 (TX8 0).2.2.1 ∈ wsX8_wipe := by decide +kernel
theorem in_X8_wipe_8 : ∀ w ∈ wsX80, w ∈ wsX8_wipe := by decide +kernel
theorem lk_X8_wipe_7 : Cond.fieldLink RX8 7 (TX8 1).1 (TX8 1).2.1 (TX8 1).2.2.1 ∈ wsX8_wipe := by decide +kernel
def f_X8_wipe_L51 (p1 : Int32) (p2 : Int32) (r38 : (Nat → Int32) × Int32) (r44 : Int32) (s25_0 : Int32) (x51_4 : Int32) (mZ_51 : (Nat → Int32)) : Option ((Int32 × (Nat → Int32)) ⊕ (Int32 × Int32 × (Nat → Int32) × (Nat → Int32) × Int32)) :=
  if (f_X8_offsets mZ_51) ≤ x51_4 then some (.inr ((r44, s25_0, mZ_51, r38.1, r38.2))) else dz_nz (mZ_51 0) (dz_nz (mZ_51 0) (dz_in (3 + (f_X8_placeBy p1 p2 (x51_4 - x51_4 / (mZ_51 0) * (mZ_51 0)) (x51_4 / (mZ_51 0)))) 1027 (some (.inl ((x51_4 + 1), (upd mZ_51 (Int32.toNatClampNeg (3 + (f_X8_placeBy p1 p2 (x51_4 - x51_4 / (mZ_51 0) * (mZ_51 0)) (x51_4 / (mZ_51 0))))) 0))))))
def f_X8_wipe_J25 (p1 : Int32) (p2 : Int32) (mZ : (Nat → Int32)) (mU : (Nat → Int32)) (mV : Int32) (s25_0 : Int32) : Option (Int32 × Int32 × (Nat → Int32) × (Nat → Int32) × Int32) :=
  if s25_0 ≤ 0 then Option.bind (f_X8_save mZ mU mV) (fun r38 => Option.bind (f_X8_filled p1 p2 mZ) (fun r44 => dz_it (fun s : Int32 × (Nat → Int32) => f_X8_wipe_L51 p1 p2 r38 r44 s25_0 s.1 s.2) (0, mZ))) else some ((0, s25_0, mZ, mU, mV))
def f_X8_wipe (p1 : Int32) (p2 : Int32) (mZ : (Nat → Int32)) (mU : (Nat → Int32)) (mV : Int32) : Option (Int32 × Int32 × (Nat → Int32) × (Nat → Int32) × Int32) :=
  if (f_X8_isCoordinate p2 mZ) = 0 then (f_X8_wipe_J25 p1 p2 mZ mU mV 1) else if (f_X8_isAxis p1) = 0 then (f_X8_wipe_J25 p1 p2 mZ mU mV 2) else (f_X8_wipe_J25 p1 p2 mZ mU mV 0)
abbrev rm_X8_wipe : Room := { frames := 6, cells := 0, slots := 0, locals := 132 }
theorem k_X8_wipe : Cf yX8_wipe wsX8_wipe rm_X8_wipe cX8_wipe 5 (some .int) 2 := ⟨⟨_, rfl⟩, by decide +kernel, by decide +kernel, by decide +kernel⟩
set_option maxRecDepth 100000 in
set_option maxHeartbeats 4000000 in
theorem b_X8_wipe (G : CG) (hl : (gL G).stackTraces = false) (h8 : Nat) (qz : Nat) (qv : Nat) (qp : Nat) (qf : Nat) (qo : Nat) (mT : Int32) (mZ : (Nat → Int32)) (mU : (Nat → Int32)) (mV : Int32) (mP : (Nat → Int32)) (mB : (Nat → Int32)) (mY : Int32) (mR : (Nat → Int32)) (mO : Int32) (mS : Int32) (mW : Int32) (mH : Int64) (p1 : Int32) (p2 : Int32) (y : Int32 × Int32 × (Nat → Int32) × (Nat → Int32) × Int32) (hf : f_X8_wipe p1 p2 mZ mU mV = some y) : Ct G yX8_wipe wsX8_wipe rm_X8_wipe [.ref h8, .int p1, .int p2] [(h8, .inr (8, [.int mT, .ref qz, .ref qv, .int mV, .ref qp, .ref qf, .int mY, .ref qo, .int mO, .int mS, .int mW, .long mH])), (qz, .inl (gI G, 1027, .inl mZ)), (qv, .inl (gI G, 6162, .inl mU)), (qp, .inl (gI G, 512, .inl mP)), (qf, .inl (gI G, 60, .inl mB)), (qo, .inl (gI G, 60, .inl mR))] (fin1 (some (.int y.1)) [(h8, .inr (8, [.int y.2.1, .ref qz, .ref qv, .int y.2.2.2.2, .ref qp, .ref qf, .int mY, .ref qo, .int mO, .int mS, .int mW, .long mH])), (qz, .inl (gI G, 1027, .inl y.2.2.1)), (qv, .inl (gI G, 6162, .inl y.2.2.2.1)), (qp, .inl (gI G, 512, .inl mP)), (qf, .inl (gI G, 60, .inl mB)), (qo, .inl (gI G, 60, .inl mR))]) 0 0 := by
  refine Ct.of (cc := cX8_wipe) (N := 5) (ret := (some .int)) RX8 (by decide) rfl rfl hl (Nat.le_of_ble_eq_true rfl) (lv := [(0, .ref h8), (1, .int p1), (2, .int p2)]) rfl (fun X hXG C hex hnm hQ => ?_)
  subst hXG
  unfold f_X8_wipe at hf
  refine j_aload_n C dX8_wipe_0 rfl 0 rfl ?_
  refine j_aload_n C dX8_wipe_1 rfl 0 rfl ?_
  refine j_iload_n C dX8_wipe_2 rfl 2 rfl ?_
  refine j_cV C (c_X8_isCoordinate X.1 hl h8 qz qv qp qf qo mT mZ mU mV mP mB mY mR mO mS mW mH p2) k_X8_isCoordinate gX8_wipe_X8_isCoordinate rfl (ci := 8) (q0 := 0) rfl rfl (As := [.int p2]) (rest := [.ref h8]) (st' := [.int (f_X8_isCoordinate p2 mZ), .ref h8]) (ws' := [(h8, .inr (8, [.int mT, .ref qz, .ref qv, .int mV, .ref qp, .ref qf, .int mY, .ref qo, .int mO, .int mS, .int mW, .long mH])), (qz, .inl (gI X.1, 1027, .inl mZ)), (qv, .inl (gI X.1, 6162, .inl mU)), (qp, .inl (gI X.1, 512, .inl mP)), (qf, .inl (gI X.1, 60, .inl mB)), (qo, .inl (gI X.1, 60, .inl mR))]) rfl rfl dX8_wipe_3 [0, 1, 2, 3, 4, 5] [] [0, 1, 2, 3, 4, 5] rfl rfl rfl rfl rfl rfl ?_
  have k25 : ∀ (s25_0 : Int32), f_X8_wipe_J25 p1 p2 mZ mU mV s25_0 = some y → Jt X [(h8, .inr (8, [.int mT, .ref qz, .ref qv, .int mV, .ref qp, .ref qf, .int mY, .ref qo, .int mO, .int mS, .int mW, .long mH])), (qz, .inl (gI X.1, 1027, .inl mZ)), (qv, .inl (gI X.1, 6162, .inl mU)), (qp, .inl (gI X.1, 512, .inl mP)), (qf, .inl (gI X.1, 60, .inl mB)), (qo, .inl (gI X.1, 60, .inl mR))] 0 0 25 [(0, .ref h8), (1, .int p1), (2, .int p2)] [.int s25_0, .ref h8] := by
    intro s25_0 hf
    unfold f_X8_wipe_J25 at hf
    refine j_put8 (ty := .int) (ws' := [(h8, .inr (8, [.int s25_0, .ref qz, .ref qv, .int mV, .ref qp, .ref qf, .int mY, .ref qo, .int mO, .int mS, .int mW, .long mH])), (qz, .inl (gI X.1, 1027, .inl mZ)), (qv, .inl (gI X.1, 6162, .inl mU)), (qp, .inl (gI X.1, 512, .inl mP)), (qf, .inl (gI X.1, 60, .inl mB)), (qo, .inl (gI X.1, 60, .inl mR))]) C 0 rfl 0 (by decide) in_X8_wipe_8 lk_X8_wipe_25 rfl (by decide +kernel) rfl rfl (Nat.le_of_ble_eq_true rfl) rfl dX8_wipe_25 ?_
    refine j_aload_n C dX8_wipe_28 rfl 0 rfl ?_
    refine j_get8 C 0 rfl 0 (by decide) in_X8_wipe_8 lk_X8_wipe_25 rfl dX8_wipe_29 ?_
    refine j_if_le C (tgt := 37) dX8_wipe_32 (by decide) (fun e32 => ?_) (fun e32 => ?_)
    · have hf := (if_pos e32).symm.trans hf
      refine j_aload_n C dX8_wipe_37 rfl 0 rfl ?_
      obtain ⟨r38, hc38, hf⟩ := Option.bind_eq_some_iff.mp hf
      refine j_cV C (b_X8_save X.1 hl h8 qz qv qp qf qo s25_0 mZ mU mV mP mB mY mR mO mS mW mH r38 hc38) k_X8_save gX8_wipe_X8_save rfl (ci := 8) (q0 := 0) rfl rfl (As := []) (rest := []) (st' := []) (ws' := [(h8, .inr (8, [.int s25_0, .ref qz, .ref qv, .int r38.2, .ref qp, .ref qf, .int mY, .ref qo, .int mO, .int mS, .int mW, .long mH])), (qz, .inl (gI X.1, 1027, .inl mZ)), (qv, .inl (gI X.1, 6162, .inl r38.1)), (qp, .inl (gI X.1, 512, .inl mP)), (qf, .inl (gI X.1, 60, .inl mB)), (qo, .inl (gI X.1, 60, .inl mR))]) rfl rfl dX8_wipe_38 [0, 1, 2, 3, 4, 5] [] [0, 1, 2, 3, 4, 5] rfl rfl rfl rfl rfl rfl ?_
      refine j_aload_n C dX8_wipe_41 rfl 0 rfl ?_
      refine j_iload_n C dX8_wipe_42 rfl 1 rfl ?_
      refine j_iload_n C dX8_wipe_43 rfl 2 rfl ?_
      obtain ⟨r44, hc44, hf⟩ := Option.bind_eq_some_iff.mp hf
      refine j_cV C (b_X8_filled X.1 hl h8 qz qv qp qf qo s25_0 mZ r38.1 r38.2 mP mB mY mR mO mS mW mH p1 p2 r44 hc44) k_X8_filled gX8_wipe_X8_filled rfl (ci := 8) (q0 := 0) rfl rfl (As := [.int p1, .int p2]) (rest := []) (st' := [.int r44]) (ws' := [(h8, .inr (8, [.int s25_0, .ref qz, .ref qv, .int r38.2, .ref qp, .ref qf, .int mY, .ref qo, .int mO, .int mS, .int mW, .long mH])), (qz, .inl (gI X.1, 1027, .inl mZ)), (qv, .inl (gI X.1, 6162, .inl r38.1)), (qp, .inl (gI X.1, 512, .inl mP)), (qf, .inl (gI X.1, 60, .inl mB)), (qo, .inl (gI X.1, 60, .inl mR))]) rfl rfl dX8_wipe_44 [0, 1, 2, 3, 4, 5] [] [0, 1, 2, 3, 4, 5] rfl rfl rfl rfl rfl rfl ?_
      refine j_istore_n (lv' := [(3, .int r44), (0, .ref h8), (1, .int p1), (2, .int p2)]) C dX8_wipe_47 rfl (by decide) rfl ?_
      refine j_iconst C (v := 0) dX8_wipe_48 (by decide) ?_
      refine j_istore (lv' := [(4, .int 0), (3, .int r44), (0, .ref h8), (1, .int p1), (2, .int p2)]) C dX8_wipe_49 (by decide) rfl ?_
      have kk51 : ∀ (n : Nat) (x51_4 : Int32) (mZ_51 : (Nat → Int32)), dz_iter n (fun s : Int32 × (Nat → Int32) => f_X8_wipe_L51 p1 p2 r38 r44 s25_0 s.1 s.2) (x51_4, mZ_51) = some y → Jt X [(h8, .inr (8, [.int s25_0, .ref qz, .ref qv, .int r38.2, .ref qp, .ref qf, .int mY, .ref qo, .int mO, .int mS, .int mW, .long mH])), (qz, .inl (gI X.1, 1027, .inl mZ_51)), (qv, .inl (gI X.1, 6162, .inl r38.1)), (qp, .inl (gI X.1, 512, .inl mP)), (qf, .inl (gI X.1, 60, .inl mB)), (qo, .inl (gI X.1, 60, .inl mR))] 0 0 51 [(0, .ref h8), (1, .int p1), (2, .int p2), (3, .int r44), (4, .int x51_4)] [] := by
        intro n
        induction n with
        | zero => intro x51_4 mZ_51 hit; exact absurd hit (by simp [dz_iter])
        | succ n ih51 =>
          intro x51_4 mZ_51 hit
          obtain ⟨y51, hf, hg51⟩ := dz_iter_succ hit
          replace hf : f_X8_wipe_L51 p1 p2 r38 r44 s25_0 x51_4 mZ_51 = some y51 := hf
          unfold f_X8_wipe_L51 at hf
          refine j_iload C dX8_wipe_51 4 rfl ?_
          refine j_aload_n C dX8_wipe_53 rfl 0 rfl ?_
          refine j_cV C (c_X8_offsets X.1 hl h8 qz qv qp qf qo s25_0 mZ_51 r38.1 r38.2 mP mB mY mR mO mS mW mH) k_X8_offsets gX8_wipe_X8_offsets rfl (ci := 8) (q0 := 0) rfl rfl (As := []) (rest := [.int x51_4]) (st' := [.int (f_X8_offsets mZ_51), .int x51_4]) (ws' := [(h8, .inr (8, [.int s25_0, .ref qz, .ref qv, .int r38.2, .ref qp, .ref qf, .int mY, .ref qo, .int mO, .int mS, .int mW, .long mH])), (qz, .inl (gI X.1, 1027, .inl mZ_51)), (qv, .inl (gI X.1, 6162, .inl r38.1)), (qp, .inl (gI X.1, 512, .inl mP)), (qf, .inl (gI X.1, 60, .inl mB)), (qo, .inl (gI X.1, 60, .inl mR))]) rfl rfl dX8_wipe_54 [0, 1, 2, 3, 4, 5] [] [0, 1, 2, 3, 4, 5] rfl rfl rfl rfl rfl rfl ?_
          refine j_icmp_ge C (tgt := 97) dX8_wipe_57 (by decide) (fun e57 => ?_) (fun e57 => ?_)
          · have hf := (if_pos e57).symm.trans hf
            refine j_iload_n C dX8_wipe_97 rfl 3 rfl ?_
            obtain rfl := Option.some.inj hf
            obtain rfl := dz_go_inr hg51
            exact j_iret C hQ rfl dX8_wipe_98 (Nat.zero_le _) (Nat.zero_le _) ⟨rfl, rfl⟩
          · have hf := (if_neg e57).symm.trans hf
            refine j_aload_n C dX8_wipe_60 rfl 0 rfl ?_
            refine j_get8 C 0 rfl 1 (by decide) in_X8_wipe_8 lk_X8_wipe_7 rfl dX8_wipe_61 ?_
            refine j_iconst C (v := 3) dX8_wipe_64 (by decide) ?_
            refine j_iload_n C dX8_wipe_65 rfl 1 rfl ?_
            refine j_iload_n C dX8_wipe_66 rfl 2 rfl ?_
            refine j_iload C dX8_wipe_67 4 rfl ?_
            refine j_aload_n C dX8_wipe_69 rfl 0 rfl ?_
            refine j_get8 C 0 rfl 1 (by decide) in_X8_wipe_8 lk_X8_wipe_7 rfl dX8_wipe_70 ?_
            refine j_iconst C (v := 0) dX8_wipe_73 (by decide) ?_
            refine j_iald C 1 rfl (by unfold vp_in; decide) dX8_wipe_74 ?_
            obtain ⟨z75, hf⟩ := dz_nz_some hf
            refine j_irem C dX8_wipe_75 z75 ?_
            refine j_iload C dX8_wipe_76 4 rfl ?_
            refine j_aload_n C dX8_wipe_78 rfl 0 rfl ?_
            refine j_get8 C 0 rfl 1 (by decide) in_X8_wipe_8 lk_X8_wipe_7 rfl dX8_wipe_79 ?_
            refine j_iconst C (v := 0) dX8_wipe_82 (by decide) ?_
            refine j_iald C 1 rfl (by unfold vp_in; decide) dX8_wipe_83 ?_
            obtain ⟨z84, hf⟩ := dz_nz_some hf
            refine j_idiv C dX8_wipe_84 z84 ?_
            refine j_cS C (c_X8_placeBy X.1 hl p1 p2 (x51_4 - x51_4 / (mZ_51 0) * (mZ_51 0)) (x51_4 / (mZ_51 0))) k_X8_placeBy gX8_wipe_X8_placeBy (As := [.int p1, .int p2, .int (x51_4 - x51_4 / (mZ_51 0) * (mZ_51 0)), .int (x51_4 / (mZ_51 0))]) (rest := [.int 3, .ref qz]) (st' := [.int (f_X8_placeBy p1 p2 (x51_4 - x51_4 / (mZ_51 0) * (mZ_51 0)) (x51_4 / (mZ_51 0))), .int 3, .ref qz]) (ws' := [(h8, .inr (8, [.int s25_0, .ref qz, .ref qv, .int r38.2, .ref qp, .ref qf, .int mY, .ref qo, .int mO, .int mS, .int mW, .long mH])), (qz, .inl (gI X.1, 1027, .inl mZ_51)), (qv, .inl (gI X.1, 6162, .inl r38.1)), (qp, .inl (gI X.1, 512, .inl mP)), (qf, .inl (gI X.1, 60, .inl mB)), (qo, .inl (gI X.1, 60, .inl mR))]) rfl rfl dX8_wipe_85 [] [0, 1, 2, 3, 4, 5] [0, 1, 2, 3, 4, 5] rfl rfl rfl rfl rfl rfl ?_
            refine j_iadd C dX8_wipe_88 ?_
            refine j_iconst C (v := 0) dX8_wipe_89 (by decide) ?_
            obtain ⟨z90, hf⟩ := dz_in_some hf
            refine j_iast (ws' := [(h8, .inr (8, [.int s25_0, .ref qz, .ref qv, .int r38.2, .ref qp, .ref qf, .int mY, .ref qo, .int mO, .int mS, .int mW, .long mH])), (qz, .inl (gI X.1, 1027, .inl (upd mZ_51 (Int32.toNatClampNeg (3 + (f_X8_placeBy p1 p2 (x51_4 - x51_4 / (mZ_51 0) * (mZ_51 0)) (x51_4 / (mZ_51 0))))) 0))), (qv, .inl (gI X.1, 6162, .inl r38.1)), (qp, .inl (gI X.1, 512, .inl mP)), (qf, .inl (gI X.1, 60, .inl mB)), (qo, .inl (gI X.1, 60, .inl mR))]) C 1 rfl z90 rfl dX8_wipe_90 ?_
            refine j_iinc (v := (x51_4 + 1)) (lv' := [(4, .int (x51_4 + 1)), (0, .ref h8), (1, .int p1), (2, .int p2), (3, .int r44)]) C dX8_wipe_91 4 rfl (by first | rfl | decide) (by decide) rfl ?_
            refine j_goto C (tgt := 51) dX8_wipe_94 (by decide) ?_
            obtain rfl := Option.some.inj hf
            have hf := dz_go_inl hg51
            refine j_loc [1, 2, 3, 4, 0] rfl ?_
            exact ih51 (x51_4 + 1) (upd mZ_51 (Int32.toNatClampNeg (3 + (f_X8_placeBy p1 p2 (x51_4 - x51_4 / (mZ_51 0) * (mZ_51 0)) (x51_4 / (mZ_51 0))))) 0) hf
      refine j_loc [2, 3, 4, 1, 0] rfl ?_
      exact kk51 _ 0 mZ hf
    · have hf := (if_neg e32).symm.trans hf
      refine j_iconst C (v := 0) dX8_wipe_35 (by decide) ?_
      obtain rfl := Option.some.inj hf
      exact j_iret C hQ rfl dX8_wipe_36 (Nat.zero_le _) (Nat.zero_le _) ⟨rfl, rfl⟩
  refine j_if_ne C (tgt := 13) dX8_wipe_6 (by decide) (fun e6 => ?_) (fun e6 => ?_)
  · have hf := (if_neg e6).symm.trans hf
    refine j_iload_n C dX8_wipe_13 rfl 1 rfl ?_
    refine j_cS C (c_X8_isAxis X.1 hl p1) k_X8_isAxis gX8_wipe_X8_isAxis (As := [.int p1]) (rest := [.ref h8]) (st' := [.int (f_X8_isAxis p1), .ref h8]) (ws' := [(h8, .inr (8, [.int mT, .ref qz, .ref qv, .int mV, .ref qp, .ref qf, .int mY, .ref qo, .int mO, .int mS, .int mW, .long mH])), (qz, .inl (gI X.1, 1027, .inl mZ)), (qv, .inl (gI X.1, 6162, .inl mU)), (qp, .inl (gI X.1, 512, .inl mP)), (qf, .inl (gI X.1, 60, .inl mB)), (qo, .inl (gI X.1, 60, .inl mR))]) rfl rfl dX8_wipe_14 [] [0, 1, 2, 3, 4, 5] [0, 1, 2, 3, 4, 5] rfl rfl rfl rfl rfl rfl ?_
    refine j_if_eq C (tgt := 24) dX8_wipe_17 (by decide) (fun e17 => ?_) (fun e17 => ?_)
    · have hf := (if_pos e17).symm.trans hf
      refine j_iconst C (v := 2) dX8_wipe_24 (by decide) ?_
      refine j_loc [0, 1, 2] rfl ?_
      exact k25 2 hf
    · have hf := (if_neg e17).symm.trans hf
      refine j_iconst C (v := 0) dX8_wipe_20 (by decide) ?_
      refine j_goto C (tgt := 25) dX8_wipe_21 (by decide) ?_
      refine j_loc [0, 1, 2] rfl ?_
      exact k25 0 hf
  · have hf := (if_pos e6).symm.trans hf
    refine j_iconst C (v := 1) dX8_wipe_9 (by decide) ?_
    refine j_goto C (tgt := 25) dX8_wipe_10 (by decide) ?_
    refine j_loc [0, 1, 2] rfl ?_
    exact k25 1 hf

end
