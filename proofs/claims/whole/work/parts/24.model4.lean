noncomputable section
theorem lk_X8_toldRank_7 : Cond.fieldLink RX8 7 (TX8 1).1 (TX8 1).2.1 (TX8 1).2.2.1 ∈ wsX8_toldRank := by decide +kernel
theorem in_X8_toldRank_8 : ∀ w ∈ wsX80, w ∈ wsX8_toldRank := by decide +kernel
def f_X8_toldRank (p1 : Int32) (p2 : Int32) (mZ : (Nat → Int32)) : Option (Int32) :=
  Option.bind (f_X8_placeOf p1 mZ) (fun r2 => if r2 = (-1) then some ((-1)) else if p2 = 0 then some ((r2 - r2 / 8 * 8)) else if p2 = 1 then some (((r2 / 8) - (r2 / 8) / 8 * 8)) else if p2 = 2 then some ((r2 / 64)) else dz_in (3 + r2) 1027 (some (((mZ (Int32.toNatClampNeg (3 + r2))) + 1000))))
abbrev rm_X8_toldRank : Room := { frames := 6, cells := 0, slots := 0, locals := 133 }
theorem k_X8_toldRank : Cf yX8_toldRank wsX8_toldRank rm_X8_toldRank cX8_toldRank 4 (some .int) 2 := ⟨⟨_, rfl⟩, by decide +kernel, by decide +kernel, by decide +kernel⟩
set_option maxRecDepth 100000 in
set_option maxHeartbeats 4000000 in
theorem b_X8_toldRank (G : CG) (hl : (gL G).stackTraces = false) (h8 : Nat) (qz : Nat) (qv : Nat) (qp : Nat) (qf : Nat) (qo : Nat) (mT : Int32) (mZ : (Nat → Int32)) (mU : (Nat → Int32)) (mV : Int32) (mP : (Nat → Int32)) (mB : (Nat → Int32)) (mY : Int32) (mR : (Nat → Int32)) (mO : Int32) (mS : Int32) (mW : Int32) (mH : Int64) (p1 : Int32) (p2 : Int32) (y : Int32) (hf : f_X8_toldRank p1 p2 mZ = some y) : Ct G yX8_toldRank wsX8_toldRank rm_X8_toldRank [.ref h8, .int p1, .int p2] [(h8, .inr (8, [.int mT, .ref qz, .ref qv, .int mV, .ref qp, .ref qf, .int mY, .ref qo, .int mO, .int mS, .int mW, .long mH])), (qz, .inl (gI G, 1027, .inl mZ)), (qv, .inl (gI G, 6162, .inl mU)), (qp, .inl (gI G, 512, .inl mP)), (qf, .inl (gI G, 60, .inl mB)), (qo, .inl (gI G, 60, .inl mR))] (fin1 (some (.int y)) [(h8, .inr (8, [.int mT, .ref qz, .ref qv, .int mV, .ref qp, .ref qf, .int mY, .ref qo, .int mO, .int mS, .int mW, .long mH])), (qz, .inl (gI G, 1027, .inl mZ)), (qv, .inl (gI G, 6162, .inl mU)), (qp, .inl (gI G, 512, .inl mP)), (qf, .inl (gI G, 60, .inl mB)), (qo, .inl (gI G, 60, .inl mR))]) 0 0 := by
  refine Ct.of (cc := cX8_toldRank) (N := 4) (ret := (some .int)) RX8 (by decide) rfl rfl hl (Nat.le_of_ble_eq_true rfl) (lv := [(0, .ref h8), (1, .int p1), (2, .int p2)]) rfl (fun X hXG C hex hnm hQ => ?_)
  subst hXG
  unfold f_X8_toldRank at hf
  refine j_aload_n C dX8_toldRank_0 rfl 0 rfl ?_
  refine j_iload_n C dX8_toldRank_1 rfl 1 rfl ?_
  obtain ⟨r2, hc2, hf⟩ := Option.bind_eq_some_iff.mp hf
  refine j_cV C (b_X8_placeOf X.1 hl h8 qz qv qp qf qo mT mZ mU mV mP mB mY mR mO mS mW mH p1 r2 hc2) k_X8_placeOf gX8_toldRank_X8_placeOf rfl (ci := 8) (q0 := 0) rfl rfl (As := [.int p1]) (rest := []) (st' := [.int r2]) (ws' := [(h8, .inr (8, [.int mT, .ref qz, .ref qv, .int mV, .ref qp, .ref qf, .int mY, .ref qo, .int mO, .int mS, .int mW, .long mH])), (qz, .inl (gI X.1, 1027, .inl mZ)), (qv, .inl (gI X.1, 6162, .inl mU)), (qp, .inl (gI X.1, 512, .inl mP)), (qf, .inl (gI X.1, 60, .inl mB)), (qo, .inl (gI X.1, 60, .inl mR))]) rfl rfl dX8_toldRank_2 [0, 1, 2, 3, 4, 5] [] [0, 1, 2, 3, 4, 5] rfl rfl rfl rfl rfl rfl ?_
  refine j_istore_n (lv' := [(3, .int r2), (0, .ref h8), (1, .int p1), (2, .int p2)]) C dX8_toldRank_5 rfl (by decide) rfl ?_
  refine j_iload_n C dX8_toldRank_6 rfl 0 rfl ?_
  refine j_iconst C (v := (-1)) dX8_toldRank_7 (by decide) ?_
  refine j_icmp_ne C (tgt := 13) dX8_toldRank_8 (by decide) (fun e8 => ?_) (fun e8 => ?_)
  · have hf := (if_neg e8).symm.trans hf
    refine j_iload_n C dX8_toldRank_13 rfl 3 rfl ?_
    refine j_if_ne C (tgt := 24) dX8_toldRank_14 (by decide) (fun e14 => ?_) (fun e14 => ?_)
    · have hf := (if_neg e14).symm.trans hf
      refine j_iload_n C dX8_toldRank_24 rfl 3 rfl ?_
      refine j_iconst C (v := 1) dX8_toldRank_25 (by decide) ?_
      refine j_icmp_ne C (tgt := 39) dX8_toldRank_26 (by decide) (fun e26 => ?_) (fun e26 => ?_)
      · have hf := (if_neg e26).symm.trans hf
        refine j_iload_n C dX8_toldRank_39 rfl 3 rfl ?_
        refine j_iconst C (v := 2) dX8_toldRank_40 (by decide) ?_
        refine j_icmp_ne C (tgt := 51) dX8_toldRank_41 (by decide) (fun e41 => ?_) (fun e41 => ?_)
        · have hf := (if_neg e41).symm.trans hf
          refine j_aload_n C dX8_toldRank_51 rfl 1 rfl ?_
          refine j_get8 C 0 rfl 1 (by decide) in_X8_toldRank_8 lk_X8_toldRank_7 rfl dX8_toldRank_52 ?_
          refine j_iconst C (v := 3) dX8_toldRank_55 (by decide) ?_
          refine j_iload_n C dX8_toldRank_56 rfl 0 rfl ?_
          refine j_iadd C dX8_toldRank_57 ?_
          obtain ⟨z58, hf⟩ := dz_in_some hf
          refine j_iald C 1 rfl z58 dX8_toldRank_58 ?_
          refine j_sipush C (v := 1000) dX8_toldRank_59 (by decide) ?_
          refine j_iadd C dX8_toldRank_62 ?_
          obtain rfl := Option.some.inj hf
          exact j_iret C hQ rfl dX8_toldRank_63 (Nat.zero_le _) (Nat.zero_le _) ⟨rfl, rfl⟩
        · have hf := (if_pos e41).symm.trans hf
          refine j_iload_n C dX8_toldRank_44 rfl 0 rfl ?_
          refine j_bipush C (v := 64) dX8_toldRank_45 (by decide) ?_
          refine j_idiv C dX8_toldRank_47 (by decide) ?_
          refine j_goto C (tgt := 63) dX8_toldRank_48 (by decide) ?_
          obtain rfl := Option.some.inj hf
          exact j_iret C hQ rfl dX8_toldRank_63 (Nat.zero_le _) (Nat.zero_le _) ⟨rfl, rfl⟩
      · have hf := (if_pos e26).symm.trans hf
        refine j_iload_n C dX8_toldRank_29 rfl 0 rfl ?_
        refine j_bipush C (v := 8) dX8_toldRank_30 (by decide) ?_
        refine j_idiv C dX8_toldRank_32 (by decide) ?_
        refine j_bipush C (v := 8) dX8_toldRank_33 (by decide) ?_
        refine j_irem C dX8_toldRank_35 (by decide) ?_
        refine j_goto C (tgt := 63) dX8_toldRank_36 (by decide) ?_
        obtain rfl := Option.some.inj hf
        exact j_iret C hQ rfl dX8_toldRank_63 (Nat.zero_le _) (Nat.zero_le _) ⟨rfl, rfl⟩
    · have hf := (if_pos e14).symm.trans hf
      refine j_iload_n C dX8_toldRank_17 rfl 0 rfl ?_
      refine j_bipush C (v := 8) dX8_toldRank_18 (by decide) ?_
      refine j_irem C dX8_toldRank_20 (by decide) ?_
      refine j_goto C (tgt := 63) dX8_toldRank_21 (by decide) ?_
      obtain rfl := Option.some.inj hf
      exact j_iret C hQ rfl dX8_toldRank_63 (Nat.zero_le _) (Nat.zero_le _) ⟨rfl, rfl⟩
  · have hf := (if_pos e8).symm.trans hf
    refine j_iconst C (v := (-1)) dX8_toldRank_11 (by decide) ?_
    obtain rfl := Option.some.inj hf
    exact j_iret C hQ rfl dX8_toldRank_12 (Nat.zero_le _) (Nat.zero_le _) ⟨rfl, rfl⟩

theorem lk_X8_ordered_25 : Cond.fieldLink RX8 25 (TX8 0).1 (TX8 0).2.1 (TX8 0).2.2.1 ∈ wsX8_ordered := by decide +kernel
theorem in_X8_ordered_8 : ∀ w ∈ wsX80, w ∈ wsX8_ordered := by decide +kernel
def f_X8_ordered_J19 (p1 : Int32) (p2 : Int32) (mZ : (Nat → Int32)) (s19_0 : Int32) : Option (Int32 × Int32) :=
  if s19_0 ≤ 0 then Option.bind (f_X8_toldRank p1 p2 mZ) (fun r36 => some ((r36, s19_0))) else some ((0, s19_0))
def f_X8_ordered_J18 (p1 : Int32) (p2 : Int32) (mZ : (Nat → Int32)) : Option (Int32 × Int32) :=
  (f_X8_ordered_J19 p1 p2 mZ 1)
def f_X8_ordered (p1 : Int32) (p2 : Int32) (mZ : (Nat → Int32)) : Option (Int32 × Int32) :=
  if p1 < 0 then (f_X8_ordered_J18 p1 p2 mZ) else if (f_X8_in p2 0 3) = 0 then (f_X8_ordered_J18 p1 p2 mZ) else (f_X8_ordered_J19 p1 p2 mZ 0)
abbrev rm_X8_ordered : Room := { frames := 7, cells := 0, slots := 0, locals := 156 }
theorem k_X8_ordered : Cf yX8_ordered wsX8_ordered rm_X8_ordered cX8_ordered 3 (some .int) 2 := ⟨⟨_, rfl⟩, by decide +kernel, by decide +kernel, by decide +kernel⟩
set_option maxRecDepth 100000 in
set_option maxHeartbeats 4000000 in
theorem b_X8_ordered (G : CG) (hl : (gL G).stackTraces = false) (h8 : Nat) (qz : Nat) (qv : Nat) (qp : Nat) (qf : Nat) (qo : Nat) (mT : Int32) (mZ : (Nat → Int32)) (mU : (Nat → Int32)) (mV : Int32) (mP : (Nat → Int32)) (mB : (Nat → Int32)) (mY : Int32) (mR : (Nat → Int32)) (mO : Int32) (mS : Int32) (mW : Int32) (mH : Int64) (p1 : Int32) (p2 : Int32) (y : Int32 × Int32) (hf : f_X8_ordered p1 p2 mZ = some y) : Ct G yX8_ordered wsX8_ordered rm_X8_ordered [.ref h8, .int p1, .int p2] [(h8, .inr (8, [.int mT, .ref qz, .ref qv, .int mV, .ref qp, .ref qf, .int mY, .ref qo, .int mO, .int mS, .int mW, .long mH])), (qz, .inl (gI G, 1027, .inl mZ)), (qv, .inl (gI G, 6162, .inl mU)), (qp, .inl (gI G, 512, .inl mP)), (qf, .inl (gI G, 60, .inl mB)), (qo, .inl (gI G, 60, .inl mR))] (fin1 (some (.int y.1)) [(h8, .inr (8, [.int y.2, .ref qz, .ref qv, .int mV, .ref qp, .ref qf, .int mY, .ref qo, .int mO, .int mS, .int mW, .long mH])), (qz, .inl (gI G, 1027, .inl mZ)), (qv, .inl (gI G, 6162, .inl mU)), (qp, .inl (gI G, 512, .inl mP)), (qf, .inl (gI G, 60, .inl mB)), (qo, .inl (gI G, 60, .inl mR))]) 0 0 := by
  refine Ct.of (cc := cX8_ordered) (N := 3) (ret := (some .int)) RX8 (by decide) rfl rfl hl (Nat.le_of_ble_eq_true rfl) (lv := [(0, .ref h8), (1, .int p1), (2, .int p2)]) rfl (fun X hXG C hex hnm hQ => ?_)
  subst hXG
  unfold f_X8_ordered at hf
  refine j_aload_n C dX8_ordered_0 rfl 0 rfl ?_
  refine j_iload_n C dX8_ordered_1 rfl 1 rfl ?_
  have k19 : ∀ (s19_0 : Int32), f_X8_ordered_J19 p1 p2 mZ s19_0 = some y → Jt X [(h8, .inr (8, [.int mT, .ref qz, .ref qv, .int mV, .ref qp, .ref qf, .int mY, .ref qo, .int mO, .int mS, .int mW, .long mH])), (qz, .inl (gI X.1, 1027, .inl mZ)), (qv, .inl (gI X.1, 6162, .inl mU)), (qp, .inl (gI X.1, 512, .inl mP)), (qf, .inl (gI X.1, 60, .inl mB)), (qo, .inl (gI X.1, 60, .inl mR))] 0 0 19 [(0, .ref h8), (1, .int p1), (2, .int p2)] [.int s19_0, .ref h8] := by
    intro s19_0 hf
    unfold f_X8_ordered_J19 at hf
    refine j_put8 (ty := .int) (ws' := [(h8, .inr (8, [.int s19_0, .ref qz, .ref qv, .int mV, .ref qp, .ref qf, .int mY, .ref qo, .int mO, .int mS, .int mW, .long mH])), (qz, .inl (gI X.1, 1027, .inl mZ)), (qv, .inl (gI X.1, 6162, .inl mU)), (qp, .inl (gI X.1, 512, .inl mP)), (qf, .inl (gI X.1, 60, .inl mB)), (qo, .inl (gI X.1, 60, .inl mR))]) C 0 rfl 0 (by decide) in_X8_ordered_8 lk_X8_ordered_25 rfl (by decide +kernel) rfl rfl (Nat.le_of_ble_eq_true rfl) rfl dX8_ordered_19 ?_
    refine j_aload_n C dX8_ordered_22 rfl 0 rfl ?_
    refine j_get8 C 0 rfl 0 (by decide) in_X8_ordered_8 lk_X8_ordered_25 rfl dX8_ordered_23 ?_
    refine j_if_le C (tgt := 33) dX8_ordered_26 (by decide) (fun e26 => ?_) (fun e26 => ?_)
    · have hf := (if_pos e26).symm.trans hf
      refine j_aload_n C dX8_ordered_33 rfl 0 rfl ?_
      refine j_iload_n C dX8_ordered_34 rfl 1 rfl ?_
      refine j_iload_n C dX8_ordered_35 rfl 2 rfl ?_
      obtain ⟨r36, hc36, hf⟩ := Option.bind_eq_some_iff.mp hf
      refine j_cV C (b_X8_toldRank X.1 hl h8 qz qv qp qf qo s19_0 mZ mU mV mP mB mY mR mO mS mW mH p1 p2 r36 hc36) k_X8_toldRank gX8_ordered_X8_toldRank rfl (ci := 8) (q0 := 0) rfl rfl (As := [.int p1, .int p2]) (rest := []) (st' := [.int r36]) (ws' := [(h8, .inr (8, [.int s19_0, .ref qz, .ref qv, .int mV, .ref qp, .ref qf, .int mY, .ref qo, .int mO, .int mS, .int mW, .long mH])), (qz, .inl (gI X.1, 1027, .inl mZ)), (qv, .inl (gI X.1, 6162, .inl mU)), (qp, .inl (gI X.1, 512, .inl mP)), (qf, .inl (gI X.1, 60, .inl mB)), (qo, .inl (gI X.1, 60, .inl mR))]) rfl rfl dX8_ordered_36 [0, 1, 2, 3, 4, 5] [] [0, 1, 2, 3, 4, 5] rfl rfl rfl rfl rfl rfl ?_
      obtain rfl := Option.some.inj hf
      exact j_iret C hQ rfl dX8_ordered_39 (Nat.zero_le _) (Nat.zero_le _) ⟨rfl, rfl⟩
    · have hf := (if_neg e26).symm.trans hf
      refine j_iconst C (v := 0) dX8_ordered_29 (by decide) ?_
      refine j_goto C (tgt := 39) dX8_ordered_30 (by decide) ?_
      obtain rfl := Option.some.inj hf
      exact j_iret C hQ rfl dX8_ordered_39 (Nat.zero_le _) (Nat.zero_le _) ⟨rfl, rfl⟩
  have k18 : f_X8_ordered_J18 p1 p2 mZ = some y → Jt X [(h8, .inr (8, [.int mT, .ref qz, .ref qv, .int mV, .ref qp, .ref qf, .int mY, .ref qo, .int mO, .int mS, .int mW, .long mH])), (qz, .inl (gI X.1, 1027, .inl mZ)), (qv, .inl (gI X.1, 6162, .inl mU)), (qp, .inl (gI X.1, 512, .inl mP)), (qf, .inl (gI X.1, 60, .inl mB)), (qo, .inl (gI X.1, 60, .inl mR))] 0 0 18 [(0, .ref h8), (1, .int p1), (2, .int p2)] [.ref h8] := by
    intro  hf
    unfold f_X8_ordered_J18 at hf
    refine j_iconst C (v := 1) dX8_ordered_18 (by decide) ?_
    refine j_loc [0, 1, 2] rfl ?_
    exact k19 1 hf
  refine j_if_lt C (tgt := 18) dX8_ordered_2 (by decide) (fun e2 => ?_) (fun e2 => ?_)
  · have hf := (if_pos e2).symm.trans hf
    refine j_loc [0, 1, 2] rfl ?_
    exact k18  hf
  · have hf := (if_neg e2).symm.trans hf
    refine j_iload_n C dX8_ordered_5 rfl 2 rfl ?_
    refine j_iconst C (v := 0) dX8_ordered_6 (by decide) ?_
    refine j_iconst C (v := 3) dX8_ordered_7 (by decide) ?_
    refine j_cS C (c_X8_in X.1 hl p2 0 3) k_X8_in gX8_ordered_X8_in (As := [.int p2, .int 0, .int 3]) (rest := [.ref h8]) (st' := [.int (f_X8_in p2 0 3), .ref h8]) (ws' := [(h8, .inr (8, [.int mT, .ref qz, .ref qv, .int mV, .ref qp, .ref qf, .int mY, .ref qo, .int mO, .int mS, .int mW, .long mH])), (qz, .inl (gI X.1, 1027, .inl mZ)), (qv, .inl (gI X.1, 6162, .inl mU)), (qp, .inl (gI X.1, 512, .inl mP)), (qf, .inl (gI X.1, 60, .inl mB)), (qo, .inl (gI X.1, 60, .inl mR))]) rfl rfl dX8_ordered_8 [] [0, 1, 2, 3, 4, 5] [0, 1, 2, 3, 4, 5] rfl rfl rfl rfl rfl rfl ?_
    refine j_if_eq C (tgt := 18) dX8_ordered_11 (by decide) (fun e11 => ?_) (fun e11 => ?_)
    · have hf := (if_pos e11).symm.trans hf
      refine j_loc [0, 1, 2] rfl ?_
      exact k18  hf
    · have hf := (if_neg e11).symm.trans hf
      refine j_iconst C (v := 0) dX8_ordered_14 (by decide) ?_
      refine j_goto C (tgt := 19) dX8_ordered_15 (by decide) ?_
      refine j_loc [0, 1, 2] rfl ?_
      exact k19 0 hf

theorem lk_X8_differenceAt_7 : Cond.fieldLink RX8 7 (TX8 1).1 (TX8 1).2.1 (TX8 1).2.2.1 ∈ wsX8_differenceAt := by decide +kernel
theorem in_X8_differenceAt_8 : ∀ w ∈ wsX80, w ∈ wsX8_differenceAt := by decide +kernel
def f_X8_differenceAt (p1 : Int32) (mZ : (Nat → Int32)) : Option (Int32) :=
  dz_in (3 + p1) 1027 (dz_in (515 + p1) 1027 (some (((mZ (Int32.toNatClampNeg (3 + p1))) - (mZ (Int32.toNatClampNeg (515 + p1)))))))
abbrev rm_X8_differenceAt : Room := { frames := 1, cells := 0, slots := 0, locals := 16 }
theorem k_X8_differenceAt : Cf yX8_differenceAt wsX8_differenceAt rm_X8_differenceAt cX8_differenceAt 2 (some .int) 1 := ⟨⟨_, rfl⟩, by decide +kernel, by decide +kernel, by decide +kernel⟩
set_option maxRecDepth 100000 in
set_option maxHeartbeats 4000000 in
theorem b_X8_differenceAt (G : CG) (hl : (gL G).stackTraces = false) (h8 : Nat) (qz : Nat) (qv : Nat) (qp : Nat) (qf : Nat) (qo : Nat) (mT : Int32) (mZ : (Nat → Int32)) (mU : (Nat → Int32)) (mV : Int32) (mP : (Nat → Int32)) (mB : (Nat → Int32)) (mY : Int32) (mR : (Nat → Int32)) (mO : Int32) (mS : Int32) (mW : Int32) (mH : Int64) (p1 : Int32) (y : Int32) (hf : f_X8_differenceAt p1 mZ = some y) : Ct G yX8_differenceAt wsX8_differenceAt rm_X8_differenceAt [.ref h8, .int p1] [(h8, .inr (8, [.int mT, .ref qz, .ref qv, .int mV, .ref qp, .ref qf, .int mY, .ref qo, .int mO, .int mS, .int mW, .long mH])), (qz, .inl (gI G, 1027, .inl mZ)), (qv, .inl (gI G, 6162, .inl mU)), (qp, .inl (gI G, 512, .inl mP)), (qf, .inl (gI G, 60, .inl mB)), (qo, .inl (gI G, 60, .inl mR))] (fin1 (some (.int y)) [(h8, .inr (8, [.int mT, .ref qz, .ref qv, .int mV, .ref qp, .ref qf, .int mY, .ref qo, .int mO, .int mS, .int mW, .long mH])), (qz, .inl (gI G, 1027, .inl mZ)), (qv, .inl (gI G, 6162, .inl mU)), (qp, .inl (gI G, 512, .inl mP)), (qf, .inl (gI G, 60, .inl mB)), (qo, .inl (gI G, 60, .inl mR))]) 0 0 := by
  refine Ct.of (cc := cX8_differenceAt) (N := 2) (ret := (some .int)) RX8 (by decide) rfl rfl hl (Nat.le_of_ble_eq_true rfl) (lv := [(0, .ref h8), (1, .int p1)]) rfl (fun X hXG C hex hnm hQ => ?_)
  subst hXG
  unfold f_X8_differenceAt at hf
  refine j_aload_n C dX8_differenceAt_0 rfl 0 rfl ?_
  refine j_get8 C 0 rfl 1 (by decide) in_X8_differenceAt_8 lk_X8_differenceAt_7 rfl dX8_differenceAt_1 ?_
  refine j_iconst C (v := 3) dX8_differenceAt_4 (by decide) ?_
  refine j_iload_n C dX8_differenceAt_5 rfl 1 rfl ?_
  refine j_iadd C dX8_differenceAt_6 ?_
  obtain ⟨z7, hf⟩ := dz_in_some hf
  refine j_iald C 1 rfl z7 dX8_differenceAt_7 ?_
  refine j_aload_n C dX8_differenceAt_8 rfl 0 rfl ?_
  refine j_get8 C 0 rfl 1 (by decide) in_X8_differenceAt_8 lk_X8_differenceAt_7 rfl dX8_differenceAt_9 ?_
  refine j_sipush C (v := 515) dX8_differenceAt_12 (by decide) ?_
  refine j_iload_n C dX8_differenceAt_15 rfl 1 rfl ?_
  refine j_iadd C dX8_differenceAt_16 ?_
  obtain ⟨z17, hf⟩ := dz_in_some hf
  refine j_iald C 1 rfl z17 dX8_differenceAt_17 ?_
  refine j_isub C dX8_differenceAt_18 ?_
  obtain rfl := Option.some.inj hf
  exact j_iret C hQ rfl dX8_differenceAt_19 (Nat.zero_le _) (Nat.zero_le _) ⟨rfl, rfl⟩

def f_X8_allDifferences_J55 (r18 : Int32) (s55_0 : Int32) (x7_2 : Int32) (x7_4 : Int32) : Option ((Int32 × Int32 × Int32) ⊕ (Int32)) :=
  some (.inl ((x7_2 + r18), s55_0, (x7_4 + 1)))
def f_X8_allDifferences_J36 (r18 : Int32) (s36_0 : Int32) (x7_2 : Int32) (x7_3 : Int32) (x7_4 : Int32) : Option ((Int32 × Int32 × Int32) ⊕ (Int32)) :=
  if s36_0 ≤ x7_3 then (f_X8_allDifferences_J55 r18 x7_3 x7_2 x7_4) else (f_X8_allDifferences_J55 r18 s36_0 x7_2 x7_4)
def f_X8_allDifferences_L7 (p1 : Int32) (mZ : (Nat → Int32)) (x7_2 : Int32) (x7_3 : Int32) (x7_4 : Int32) : Option ((Int32 × Int32 × Int32) ⊕ (Int32)) :=
  if 512 ≤ x7_4 then if p1 = 0 then some (.inr (x7_2)) else some (.inr (x7_3)) else Option.bind (f_X8_differenceAt x7_4 mZ) (fun r18 => if 0 ≤ r18 then (f_X8_allDifferences_J36 r18 r18 x7_2 x7_3 x7_4) else (f_X8_allDifferences_J36 r18 (-r18) x7_2 x7_3 x7_4))
def f_X8_allDifferences (p1 : Int32) (mZ : (Nat → Int32)) : Option (Int32) :=
  dz_it (fun s : Int32 × Int32 × Int32 => f_X8_allDifferences_L7 p1 mZ s.1 s.2.1 s.2.2) (0, 0, 0)
abbrev rm_X8_allDifferences : Room := { frames := 2, cells := 0, slots := 0, locals := 37 }
theorem k_X8_allDifferences : Cf yX8_allDifferences wsX8_allDifferences rm_X8_allDifferences cX8_allDifferences 7 (some .int) 1 := ⟨⟨_, rfl⟩, by decide +kernel, by decide +kernel, by decide +kernel⟩
set_option maxRecDepth 100000 in
set_option maxHeartbeats 4000000 in
theorem b_X8_allDifferences (G : CG) (hl : (gL G).stackTraces = false) (h8 : Nat) (qz : Nat) (qv : Nat) (qp : Nat) (qf : Nat) (qo : Nat) (mT : Int32) (mZ : (Nat → Int32)) (mU : (Nat → Int32)) (mV : Int32) (mP : (Nat → Int32)) (mB : (Nat → Int32)) (mY : Int32) (mR : (Nat → Int32)) (mO : Int32) (mS : Int32) (mW : Int32) (mH : Int64) (p1 : Int32) (y : Int32) (hf : f_X8_allDifferences p1 mZ = some y) : Ct G yX8_allDifferences wsX8_allDifferences rm_X8_allDifferences [.ref h8, .int p1] [(h8, .inr (8, [.int mT, .ref qz, .ref qv, .int mV, .ref qp, .ref qf, .int mY, .ref qo, .int mO, .int mS, .int mW, .long mH])), (qz, .inl (gI G, 1027, .inl mZ)), (qv, .inl (gI G, 6162, .inl mU)), (qp, .inl (gI G, 512, .inl mP)), (qf, .inl (gI G, 60, .inl mB)), (qo, .inl (gI G, 60, .inl mR))] (fin1 (some (.int y)) [(h8, .inr (8, [.int mT, .ref qz, .ref qv, .int mV, .ref qp, .ref qf, .int mY, .ref qo, .int mO, .int mS, .int mW, .long mH])), (qz, .inl (gI G, 1027, .inl mZ)), (qv, .inl (gI G, 6162, .inl mU)), (qp, .inl (gI G, 512, .inl mP)), (qf, .inl (gI G, 60, .inl mB)), (qo, .inl (gI G, 60, .inl mR))]) 0 0 := by
  refine Ct.of (cc := cX8_allDifferences) (N := 7) (ret := (some .int)) RX8 (by decide) rfl rfl hl (Nat.le_of_ble_eq_true rfl) (lv := [(0, .ref h8), (1, .int p1)]) rfl (fun X hXG C hex hnm hQ => ?_)
  subst hXG
  unfold f_X8_allDifferences at hf
  refine j_iconst C (v := 0) dX8_allDifferences_0 (by decide) ?_
  refine j_istore_n (lv' := [(2, .int 0), (0, .ref h8), (1, .int p1)]) C dX8_allDifferences_1 rfl (by decide) rfl ?_
  refine j_iconst C (v := 0) dX8_allDifferences_2 (by decide) ?_
  refine j_istore_n (lv' := [(3, .int 0), (2, .int 0), (0, .ref h8), (1, .int p1)]) C dX8_allDifferences_3 rfl (by decide) rfl ?_
  refine j_iconst C (v := 0) dX8_allDifferences_4 (by decide) ?_
  refine j_istore (lv' := [(4, .int 0), (3, .int 0), (2, .int 0), (0, .ref h8), (1, .int p1)]) C dX8_allDifferences_5 (by decide) rfl ?_
  have kk7 : ∀ (n : Nat) (x7_2 : Int32) (x7_3 : Int32) (x7_4 : Int32), dz_iter n (fun s : Int32 × Int32 × Int32 => f_X8_allDifferences_L7 p1 mZ s.1 s.2.1 s.2.2) (x7_2, x7_3, x7_4) = some y → Jt X [(h8, .inr (8, [.int mT, .ref qz, .ref qv, .int mV, .ref qp, .ref qf, .int mY, .ref qo, .int mO, .int mS, .int mW, .long mH])), (qz, .inl (gI X.1, 1027, .inl mZ)), (qv, .inl (gI X.1, 6162, .inl mU)), (qp, .inl (gI X.1, 512, .inl mP)), (qf, .inl (gI X.1, 60, .inl mB)), (qo, .inl (gI X.1, 60, .inl mR))] 0 0 7 [(0, .ref h8), (1, .int p1), (2, .int x7_2), (3, .int x7_3), (4, .int x7_4)] [] := by
    intro n
    induction n with
    | zero => intro x7_2 x7_3 x7_4 hit; exact absurd hit (by simp [dz_iter])
    | succ n ih7 =>
      intro x7_2 x7_3 x7_4 hit
      obtain ⟨y7, hf, hg7⟩ := dz_iter_succ hit
      replace hf : f_X8_allDifferences_L7 p1 mZ x7_2 x7_3 x7_4 = some y7 := hf
      unfold f_X8_allDifferences_L7 at hf
      refine j_iload C dX8_allDifferences_7 4 rfl ?_
      refine j_sipush C (v := 512) dX8_allDifferences_9 (by decide) ?_
      refine j_icmp_ge C (tgt := 62) dX8_allDifferences_12 (by decide) (fun e12 => ?_) (fun e12 => ?_)
      · have hf := (if_pos e12).symm.trans hf
        refine j_iload_n C dX8_allDifferences_62 rfl 1 rfl ?_
        refine j_if_eq C (tgt := 70) dX8_allDifferences_63 (by decide) (fun e63 => ?_) (fun e63 => ?_)
        · have hf := (if_pos e63).symm.trans hf
          refine j_iload_n C dX8_allDifferences_70 rfl 2 rfl ?_
          obtain rfl := Option.some.inj hf
          obtain rfl := dz_go_inr hg7
          exact j_iret C hQ rfl dX8_allDifferences_71 (Nat.zero_le _) (Nat.zero_le _) ⟨rfl, rfl⟩
        · have hf := (if_neg e63).symm.trans hf
          refine j_iload_n C dX8_allDifferences_66 rfl 3 rfl ?_
          refine j_goto C (tgt := 71) dX8_allDifferences_67 (by decide) ?_
          obtain rfl := Option.some.inj hf
          obtain rfl := dz_go_inr hg7
          exact j_iret C hQ rfl dX8_allDifferences_71 (Nat.zero_le _) (Nat.zero_le _) ⟨rfl, rfl⟩
      · have hf := (if_neg e12).symm.trans hf
        refine j_aload_n C dX8_allDifferences_15 rfl 0 rfl ?_
        refine j_iload C dX8_allDifferences_16 4 rfl ?_
        obtain ⟨r18, hc18, hf⟩ := Option.bind_eq_some_iff.mp hf
        refine j_cV C (b_X8_differenceAt X.1 hl h8 qz qv qp qf qo mT mZ mU mV mP mB mY mR mO mS mW mH x7_4 r18 hc18) k_X8_differenceAt gX8_allDifferences_X8_differenceAt rfl (ci := 8) (q0 := 0) rfl rfl (As := [.int x7_4]) (rest := []) (st' := [.int r18]) (ws' := [(h8, .inr (8, [.int mT, .ref qz, .ref qv, .int mV, .ref qp, .ref qf, .int mY, .ref qo, .int mO, .int mS, .int mW, .long mH])), (qz, .inl (gI X.1, 1027, .inl mZ)), (qv, .inl (gI X.1, 6162, .inl mU)), (qp, .inl (gI X.1, 512, .inl mP)), (qf, .inl (gI X.1, 60, .inl mB)), (qo, .inl (gI X.1, 60, .inl mR))]) rfl rfl dX8_allDifferences_18 [0, 1, 2, 3, 4, 5] [] [0, 1, 2, 3, 4, 5] rfl rfl rfl rfl rfl rfl ?_
        refine j_istore (lv' := [(5, .int r18), (0, .ref h8), (1, .int p1), (2, .int x7_2), (3, .int x7_3), (4, .int x7_4)]) C dX8_allDifferences_21 (by decide) rfl ?_
        refine j_iload C dX8_allDifferences_23 0 rfl ?_
        have k36 : ∀ (s36_0 : Int32), f_X8_allDifferences_J36 r18 s36_0 x7_2 x7_3 x7_4 = some y7 → Jt X [(h8, .inr (8, [.int mT, .ref qz, .ref qv, .int mV, .ref qp, .ref qf, .int mY, .ref qo, .int mO, .int mS, .int mW, .long mH])), (qz, .inl (gI X.1, 1027, .inl mZ)), (qv, .inl (gI X.1, 6162, .inl mU)), (qp, .inl (gI X.1, 512, .inl mP)), (qf, .inl (gI X.1, 60, .inl mB)), (qo, .inl (gI X.1, 60, .inl mR))] 0 0 36 [(0, .ref h8), (1, .int p1), (2, .int x7_2), (3, .int x7_3), (4, .int x7_4), (5, .int r18)] [.int s36_0] := by
          intro s36_0 hf
          unfold f_X8_allDifferences_J36 at hf
          refine j_istore (lv' := [(6, .int s36_0), (0, .ref h8), (1, .int p1), (2, .int x7_2), (3, .int x7_3), (4, .int x7_4), (5, .int r18)]) C dX8_allDifferences_36 (by decide) rfl ?_
          refine j_iload_n C dX8_allDifferences_38 rfl 3 rfl ?_
          refine j_iload C dX8_allDifferences_39 6 rfl ?_
          refine j_iadd C dX8_allDifferences_41 ?_
          refine j_istore_n (lv' := [(2, .int (x7_2 + r18)), (6, .int s36_0), (0, .ref h8), (1, .int p1), (3, .int x7_3), (4, .int x7_4), (5, .int r18)]) C dX8_allDifferences_42 rfl (by decide) rfl ?_
          refine j_iload C dX8_allDifferences_43 1 rfl ?_
          refine j_iload_n C dX8_allDifferences_45 rfl 4 rfl ?_
          have k55 : ∀ (s55_0 : Int32), f_X8_allDifferences_J55 r18 s55_0 x7_2 x7_4 = some y7 → Jt X [(h8, .inr (8, [.int mT, .ref qz, .ref qv, .int mV, .ref qp, .ref qf, .int mY, .ref qo, .int mO, .int mS, .int mW, .long mH])), (qz, .inl (gI X.1, 1027, .inl mZ)), (qv, .inl (gI X.1, 6162, .inl mU)), (qp, .inl (gI X.1, 512, .inl mP)), (qf, .inl (gI X.1, 60, .inl mB)), (qo, .inl (gI X.1, 60, .inl mR))] 0 0 55 [(0, .ref h8), (1, .int p1), (2, .int (x7_2 + r18)), (3, .int x7_3), (4, .int x7_4), (5, .int r18), (6, .int s36_0)] [.int s55_0] := by
            intro s55_0 hf
            unfold f_X8_allDifferences_J55 at hf
            refine j_istore_n (lv' := [(3, .int s55_0), (0, .ref h8), (1, .int p1), (2, .int (x7_2 + r18)), (4, .int x7_4), (5, .int r18), (6, .int s36_0)]) C dX8_allDifferences_55 rfl (by decide) rfl ?_
            refine j_iinc (v := (x7_4 + 1)) (lv' := [(4, .int (x7_4 + 1)), (3, .int s55_0), (0, .ref h8), (1, .int p1), (2, .int (x7_2 + r18)), (5, .int r18), (6, .int s36_0)]) C dX8_allDifferences_56 4 rfl (by first | rfl | decide) (by decide) rfl ?_
            refine j_goto C (tgt := 7) dX8_allDifferences_59 (by decide) ?_
            obtain rfl := Option.some.inj hf
            have hf := dz_go_inl hg7
            refine j_loc [2, 3, 4, 1, 0] rfl ?_
            exact ih7 (x7_2 + r18) s55_0 (x7_4 + 1) hf
          refine j_icmp_le C (tgt := 54) dX8_allDifferences_46 (by decide) (fun e46 => ?_) (fun e46 => ?_)
          · have hf := (if_pos e46).symm.trans hf
            refine j_iload_n C dX8_allDifferences_54 rfl 4 rfl ?_
            refine j_loc [2, 3, 0, 4, 5, 6, 1] rfl ?_
            exact k55 x7_3 hf
          · have hf := (if_neg e46).symm.trans hf
            refine j_iload C dX8_allDifferences_49 1 rfl ?_
            refine j_goto C (tgt := 55) dX8_allDifferences_51 (by decide) ?_
            refine j_loc [2, 3, 0, 4, 5, 6, 1] rfl ?_
            exact k55 s36_0 hf
        refine j_if_ge C (tgt := 34) dX8_allDifferences_25 (by decide) (fun e25 => ?_) (fun e25 => ?_)
        · have hf := (if_pos e25).symm.trans hf
          refine j_iload C dX8_allDifferences_34 0 rfl ?_
          refine j_loc [1, 2, 3, 4, 5, 0] rfl ?_
          exact k36 r18 hf
        · have hf := (if_neg e25).symm.trans hf
          refine j_iload C dX8_allDifferences_28 0 rfl ?_
          refine j_ineg C dX8_allDifferences_30 ?_
          refine j_goto C (tgt := 36) dX8_allDifferences_31 (by decide) ?_
          refine j_loc [1, 2, 3, 4, 5, 0] rfl ?_
          exact k36 (-r18) hf
  refine j_loc [3, 4, 2, 1, 0] rfl ?_
  exact kk7 _ 0 0 0 hf

theorem lk_X8_firstDifference_7 : Cond.fieldLink RX8 7 (TX8 1).1 (TX8 1).2.1 (TX8 1).2.2.1 ∈ wsX8_firstDifference := by decide +kernel
theorem in_X8_firstDifference_8 : ∀ w ∈ wsX80, w ∈ wsX8_firstDifference := by decide +kernel
def f_X8_firstDifference_L2 (mZ : (Nat → Int32)) (x2_1 : Int32) : Option ((Int32) ⊕ (Int32)) :=
  if 512 ≤ x2_1 then some (.inr ((-1))) else Option.bind (f_X8_differenceAt x2_1 mZ) (fun r11 => if r11 = 0 then some (.inl (x2_1 + 1)) else some (.inr ((((x2_1 - x2_1 / 8 * 8) + ((mZ 0) * ((x2_1 / 8) - (x2_1 / 8) / 8 * 8))) + ((f_X8_offsets mZ) * (x2_1 / 64))))))
def f_X8_firstDifference (mZ : (Nat → Int32)) : Option (Int32) :=
  dz_it (fun s : Int32 => f_X8_firstDifference_L2 mZ s) (0)
abbrev rm_X8_firstDifference : Room := { frames := 2, cells := 0, slots := 0, locals := 37 }
theorem k_X8_firstDifference : Cf yX8_firstDifference wsX8_firstDifference rm_X8_firstDifference cX8_firstDifference 2 (some .int) 0 := ⟨⟨_, rfl⟩, by decide +kernel, by decide +kernel, by decide +kernel⟩
set_option maxRecDepth 100000 in
set_option maxHeartbeats 4000000 in
theorem b_X8_firstDifference (G : CG) (hl : (gL G).stackTraces = false) (h8 : Nat) (qz : Nat) (qv : Nat) (qp : Nat) (qf : Nat) (qo : Nat) (mT : Int32) (mZ : (Nat → Int32)) (mU : (Nat → Int32)) (mV : Int32) (mP : (Nat → Int32)) (mB : (Nat → Int32)) (mY : Int32) (mR : (Nat → Int32)) (mO : Int32) (mS : Int32) (mW : Int32) (mH : Int64) (y : Int32) (hf : f_X8_firstDifference mZ = some y) : Ct G yX8_firstDifference wsX8_firstDifference rm_X8_firstDifference [.ref h8] [(h8, .inr (8, [.int mT, .ref qz, .ref qv, .int mV, .ref qp, .ref qf, .int mY, .ref qo, .int mO, .int mS, .int mW, .long mH])), (qz, .inl (gI G, 1027, .inl mZ)), (qv, .inl (gI G, 6162, .inl mU)), (qp, .inl (gI G, 512, .inl mP)), (qf, .inl (gI G, 60, .inl mB)), (qo, .inl (gI G, 60, .inl mR))] (fin1 (some (.int y)) [(h8, .inr (8, [.int mT, .ref qz, .ref qv, .int mV, .ref qp, .ref qf, .int mY, .ref qo, .int mO, .int mS, .int mW, .long mH])), (qz, .inl (gI G, 1027, .inl mZ)), (qv, .inl (gI G, 6162, .inl mU)), (qp, .inl (gI G, 512, .inl mP)), (qf, .inl (gI G, 60, .inl mB)), (qo, .inl (gI G, 60, .inl mR))]) 0 0 := by
  refine Ct.of (cc := cX8_firstDifference) (N := 2) (ret := (some .int)) RX8 (by decide) rfl rfl hl (Nat.le_of_ble_eq_true rfl) (lv := [(0, .ref h8)]) rfl (fun X hXG C hex hnm hQ => ?_)
  subst hXG
  unfold f_X8_firstDifference at hf
  refine j_iconst C (v := 0) dX8_firstDifference_0 (by decide) ?_
  refine j_istore_n (lv' := [(1, .int 0), (0, .ref h8)]) C dX8_firstDifference_1 rfl (by decide) rfl ?_
  have kk2 : ∀ (n : Nat) (x2_1 : Int32), dz_iter n (fun s : Int32 => f_X8_firstDifference_L2 mZ s) (x2_1) = some y → Jt X [(h8, .inr (8, [.int mT, .ref qz, .ref qv, .int mV, .ref qp, .ref qf, .int mY, .ref qo, .int mO, .int mS, .int mW, .long mH])), (qz, .inl (gI X.1, 1027, .inl mZ)), (qv, .inl (gI X.1, 6162, .inl mU)), (qp, .inl (gI X.1, 512, .inl mP)), (qf, .inl (gI X.1, 60, .inl mB)), (qo, .inl (gI X.1, 60, .inl mR))] 0 0 2 [(0, .ref h8), (1, .int x2_1)] [] := by
    intro n
    induction n with
    | zero => intro x2_1 hit; exact absurd hit (by simp [dz_iter])
    | succ n ih2 =>
      intro x2_1 hit
      obtain ⟨y2, hf, hg2⟩ := dz_iter_succ hit
      replace hf : f_X8_firstDifference_L2 mZ x2_1 = some y2 := hf
      unfold f_X8_firstDifference_L2 at hf
      refine j_iload_n C dX8_firstDifference_2 rfl 1 rfl ?_
      refine j_sipush C (v := 512) dX8_firstDifference_3 (by decide) ?_
      refine j_icmp_ge C (tgt := 53) dX8_firstDifference_6 (by decide) (fun e6 => ?_) (fun e6 => ?_)
      · have hf := (if_pos e6).symm.trans hf
        refine j_iconst C (v := (-1)) dX8_firstDifference_53 (by decide) ?_
        obtain rfl := Option.some.inj hf
        obtain rfl := dz_go_inr hg2
        exact j_iret C hQ rfl dX8_firstDifference_54 (Nat.zero_le _) (Nat.zero_le _) ⟨rfl, rfl⟩
      · have hf := (if_neg e6).symm.trans hf
        refine j_aload_n C dX8_firstDifference_9 rfl 0 rfl ?_
        refine j_iload_n C dX8_firstDifference_10 rfl 1 rfl ?_
        obtain ⟨r11, hc11, hf⟩ := Option.bind_eq_some_iff.mp hf
        refine j_cV C (b_X8_differenceAt X.1 hl h8 qz qv qp qf qo mT mZ mU mV mP mB mY mR mO mS mW mH x2_1 r11 hc11) k_X8_differenceAt gX8_firstDifference_X8_differenceAt rfl (ci := 8) (q0 := 0) rfl rfl (As := [.int x2_1]) (rest := []) (st' := [.int r11]) (ws' := [(h8, .inr (8, [.int mT, .ref qz, .ref qv, .int mV, .ref qp, .ref qf, .int mY, .ref qo, .int mO, .int mS, .int mW, .long mH])), (qz, .inl (gI X.1, 1027, .inl mZ)), (qv, .inl (gI X.1, 6162, .inl mU)), (qp, .inl (gI X.1, 512, .inl mP)), (qf, .inl (gI X.1, 60, .inl mB)), (qo, .inl (gI X.1, 60, .inl mR))]) rfl rfl dX8_firstDifference_11 [0, 1, 2, 3, 4, 5] [] [0, 1, 2, 3, 4, 5] rfl rfl rfl rfl rfl rfl ?_
        refine j_if_eq C (tgt := 47) dX8_firstDifference_14 (by decide) (fun e14 => ?_) (fun e14 => ?_)
        · have hf := (if_pos e14).symm.trans hf
          refine j_iinc (v := (x2_1 + 1)) (lv' := [(1, .int (x2_1 + 1)), (0, .ref h8)]) C dX8_firstDifference_47 1 rfl (by first | rfl | decide) (by decide) rfl ?_
          refine j_goto C (tgt := 2) dX8_firstDifference_50 (by decide) ?_
          obtain rfl := Option.some.inj hf
          have hf := dz_go_inl hg2
          refine j_loc [1, 0] rfl ?_
          exact ih2 (x2_1 + 1) hf
        · have hf := (if_neg e14).symm.trans hf
          refine j_iload_n C dX8_firstDifference_17 rfl 1 rfl ?_
          refine j_bipush C (v := 8) dX8_firstDifference_18 (by decide) ?_
          refine j_irem C dX8_firstDifference_20 (by decide) ?_
          refine j_aload_n C dX8_firstDifference_21 rfl 0 rfl ?_
          refine j_get8 C 0 rfl 1 (by decide) in_X8_firstDifference_8 lk_X8_firstDifference_7 rfl dX8_firstDifference_22 ?_
          refine j_iconst C (v := 0) dX8_firstDifference_25 (by decide) ?_
          refine j_iald C 1 rfl (by unfold vp_in; decide) dX8_firstDifference_26 ?_
          refine j_iload_n C dX8_firstDifference_27 rfl 1 rfl ?_
          refine j_bipush C (v := 8) dX8_firstDifference_28 (by decide) ?_
          refine j_idiv C dX8_firstDifference_30 (by decide) ?_
          refine j_bipush C (v := 8) dX8_firstDifference_31 (by decide) ?_
          refine j_irem C dX8_firstDifference_33 (by decide) ?_
          refine j_imul C dX8_firstDifference_34 ?_
          refine j_iadd C dX8_firstDifference_35 ?_
          refine j_aload_n C dX8_firstDifference_36 rfl 0 rfl ?_
          refine j_cV C (c_X8_offsets X.1 hl h8 qz qv qp qf qo mT mZ mU mV mP mB mY mR mO mS mW mH) k_X8_offsets gX8_firstDifference_X8_offsets rfl (ci := 8) (q0 := 0) rfl rfl (As := []) (rest := [.int ((x2_1 - x2_1 / 8 * 8) + ((mZ 0) * ((x2_1 / 8) - (x2_1 / 8) / 8 * 8)))]) (st' := [.int (f_X8_offsets mZ), .int ((x2_1 - x2_1 / 8 * 8) + ((mZ 0) * ((x2_1 / 8) - (x2_1 / 8) / 8 * 8)))]) (ws' := [(h8, .inr (8, [.int mT, .ref qz, .ref qv, .int mV, .ref qp, .ref qf, .int mY, .ref qo, .int mO, .int mS, .int mW, .long mH])), (qz, .inl (gI X.1, 1027, .inl mZ)), (qv, .inl (gI X.1, 6162, .inl mU)), (qp, .inl (gI X.1, 512, .inl mP)), (qf, .inl (gI X.1, 60, .inl mB)), (qo, .inl (gI X.1, 60, .inl mR))]) rfl rfl dX8_firstDifference_37 [0, 1, 2, 3, 4, 5] [] [0, 1, 2, 3, 4, 5] rfl rfl rfl rfl rfl rfl ?_
          refine j_iload_n C dX8_firstDifference_40 rfl 1 rfl ?_
          refine j_bipush C (v := 64) dX8_firstDifference_41 (by decide) ?_
          refine j_idiv C dX8_firstDifference_43 (by decide) ?_
          refine j_imul C dX8_firstDifference_44 ?_
          refine j_iadd C dX8_firstDifference_45 ?_
          obtain rfl := Option.some.inj hf
          obtain rfl := dz_go_inr hg2
          exact j_iret C hQ rfl dX8_firstDifference_46 (Nat.zero_le _) (Nat.zero_le _) ⟨rfl, rfl⟩
  refine j_loc [1, 0] rfl ?_
  exact kk2 _ 0 hf

def f_X8_toldDifference (p1 : Int32) (mZ : (Nat → Int32)) : Option (Int32) :=
  if p1 = 0 then Option.bind (f_X8_differences mZ) (fun r5 => some (r5)) else if p1 = 1 then Option.bind (f_X8_allDifferences 0 mZ) (fun r18 => some (r18)) else if p1 = 2 then Option.bind (f_X8_allDifferences 1 mZ) (fun r31 => some (r31)) else Option.bind (f_X8_firstDifference mZ) (fun r38 => some (r38))
abbrev rm_X8_toldDifference : Room := { frames := 3, cells := 0, slots := 0, locals := 63 }
theorem k_X8_toldDifference : Cf yX8_toldDifference wsX8_toldDifference rm_X8_toldDifference cX8_toldDifference 2 (some .int) 1 := ⟨⟨_, rfl⟩, by decide +kernel, by decide +kernel, by decide +kernel⟩
set_option maxRecDepth 100000 in
set_option maxHeartbeats 4000000 in
theorem b_X8_toldDifference (G : CG) (hl : (gL G).stackTraces = false) (h8 : Nat) (qz : Nat) (qv : Nat) (qp : Nat) (qf : Nat) (qo : Nat) (mT : Int32) (mZ : (Nat → Int32)) (mU : (Nat → Int32)) (mV : Int32) (mP : (Nat → Int32)) (mB : (Nat → Int32)) (mY : Int32) (mR : (Nat → Int32)) (mO : Int32) (mS : Int32) (mW : Int32) (mH : Int64) (p1 : Int32) (y : Int32) (hf : f_X8_toldDifference p1 mZ = some y) : Ct G yX8_toldDifference wsX8_toldDifference rm_X8_toldDifference [.ref h8, .int p1] [(h8, .inr (8, [.int mT, .ref qz, .ref qv, .int mV, .ref qp, .ref qf, .int mY, .ref qo, .int mO, .int mS, .int mW, .long mH])), (qz, .inl (gI G, 1027, .inl mZ)), (qv, .inl (gI G, 6162, .inl mU)), (qp, .inl (gI G, 512, .inl mP)), (qf, .inl (gI G, 60, .inl mB)), (qo, .inl (gI G, 60, .inl mR))] (fin1 (some (.int y)) [(h8, .inr (8, [.int mT, .ref qz, .ref qv, .int mV, .ref qp, .ref qf, .int mY, .ref qo, .int mO, .int mS, .int mW, .long mH])), (qz, .inl (gI G, 1027, .inl mZ)), (qv, .inl (gI G, 6162, .inl mU)), (qp, .inl (gI G, 512, .inl mP)), (qf, .inl (gI G, 60, .inl mB)), (qo, .inl (gI G, 60, .inl mR))]) 0 0 := by
  refine Ct.of (cc := cX8_toldDifference) (N := 2) (ret := (some .int)) RX8 (by decide) rfl rfl hl (Nat.le_of_ble_eq_true rfl) (lv := [(0, .ref h8), (1, .int p1)]) rfl (fun X hXG C hex hnm hQ => ?_)
  subst hXG
  unfold f_X8_toldDifference at hf
  refine j_iload_n C dX8_toldDifference_0 rfl 1 rfl ?_
  refine j_if_ne C (tgt := 11) dX8_toldDifference_1 (by decide) (fun e1 => ?_) (fun e1 => ?_)
  · have hf := (if_neg e1).symm.trans hf
    refine j_iload_n C dX8_toldDifference_11 rfl 1 rfl ?_
    refine j_iconst C (v := 1) dX8_toldDifference_12 (by decide) ?_
    refine j_icmp_ne C (tgt := 24) dX8_toldDifference_13 (by decide) (fun e13 => ?_) (fun e13 => ?_)
    · have hf := (if_neg e13).symm.trans hf
      refine j_iload_n C dX8_toldDifference_24 rfl 1 rfl ?_
      refine j_iconst C (v := 2) dX8_toldDifference_25 (by decide) ?_
      refine j_icmp_ne C (tgt := 37) dX8_toldDifference_26 (by decide) (fun e26 => ?_) (fun e26 => ?_)
      · have hf := (if_neg e26).symm.trans hf
        refine j_aload_n C dX8_toldDifference_37 rfl 0 rfl ?_
        obtain ⟨r38, hc38, hf⟩ := Option.bind_eq_some_iff.mp hf
        refine j_cV C (b_X8_firstDifference X.1 hl h8 qz qv qp qf qo mT mZ mU mV mP mB mY mR mO mS mW mH r38 hc38) k_X8_firstDifference gX8_toldDifference_X8_firstDifference rfl (ci := 8) (q0 := 0) rfl rfl (As := []) (rest := []) (st' := [.int r38]) (ws' := [(h8, .inr (8, [.int mT, .ref qz, .ref qv, .int mV, .ref qp, .ref qf, .int mY, .ref qo, .int mO, .int mS, .int mW, .long mH])), (qz, .inl (gI X.1, 1027, .inl mZ)), (qv, .inl (gI X.1, 6162, .inl mU)), (qp, .inl (gI X.1, 512, .inl mP)), (qf, .inl (gI X.1, 60, .inl mB)), (qo, .inl (gI X.1, 60, .inl mR))]) rfl rfl dX8_toldDifference_38 [0, 1, 2, 3, 4, 5] [] [0, 1, 2, 3, 4, 5] rfl rfl rfl rfl rfl rfl ?_
        obtain rfl := Option.some.inj hf
        exact j_iret C hQ rfl dX8_toldDifference_41 (Nat.zero_le _) (Nat.zero_le _) ⟨rfl, rfl⟩
      · have hf := (if_pos e26).symm.trans hf
        refine j_aload_n C dX8_toldDifference_29 rfl 0 rfl ?_
        refine j_iconst C (v := 1) dX8_toldDifference_30 (by decide) ?_
        obtain ⟨r31, hc31, hf⟩ := Option.bind_eq_some_iff.mp hf
        refine j_cV C (b_X8_allDifferences X.1 hl h8 qz qv qp qf qo mT mZ mU mV mP mB mY mR mO mS mW mH 1 r31 hc31) k_X8_allDifferences gX8_toldDifference_X8_allDifferences rfl (ci := 8) (q0 := 0) rfl rfl (As := [.int 1]) (rest := []) (st' := [.int r31]) (ws' := [(h8, .inr (8, [.int mT, .ref qz, .ref qv, .int mV, .ref qp, .ref qf, .int mY, .ref qo, .int mO, .int mS, .int mW, .long mH])), (qz, .inl (gI X.1, 1027, .inl mZ)), (qv, .inl (gI X.1, 6162, .inl mU)), (qp, .inl (gI X.1, 512, .inl mP)), (qf, .inl (gI X.1, 60, .inl mB)), (qo, .inl (gI X.1, 60, .inl mR))]) rfl rfl dX8_toldDifference_31 [0, 1, 2, 3, 4, 5] [] [0, 1, 2, 3, 4, 5] rfl rfl rfl rfl rfl rfl ?_
        refine j_goto C (tgt := 41) dX8_toldDifference_34 (by decide) ?_
        obtain rfl := Option.some.inj hf
        exact j_iret C hQ rfl dX8_toldDifference_41 (Nat.zero_le _) (Nat.zero_le _) ⟨rfl, rfl⟩
    · have hf := (if_pos e13).symm.trans hf
      refine j_aload_n C dX8_toldDifference_16 rfl 0 rfl ?_
      refine j_iconst C (v := 0) dX8_toldDifference_17 (by decide) ?_
      obtain ⟨r18, hc18, hf⟩ := Option.bind_eq_some_iff.mp hf
      refine j_cV C (b_X8_allDifferences X.1 hl h8 qz qv qp qf qo mT mZ mU mV mP mB mY mR mO mS mW mH 0 r18 hc18) k_X8_allDifferences gX8_toldDifference_X8_allDifferences rfl (ci := 8) (q0 := 0) rfl rfl (As := [.int 0]) (rest := []) (st' := [.int r18]) (ws' := [(h8, .inr (8, [.int mT, .ref qz, .ref qv, .int mV, .ref qp, .ref qf, .int mY, .ref qo, .int mO, .int mS, .int mW, .long mH])), (qz, .inl (gI X.1, 1027, .inl mZ)), (qv, .inl (gI X.1, 6162, .inl mU)), (qp, .inl (gI X.1, 512, .inl mP)), (qf, .inl (gI X.1, 60, .inl mB)), (qo, .inl (gI X.1, 60, .inl mR))]) rfl rfl dX8_toldDifference_18 [0, 1, 2, 3, 4, 5] [] [0, 1, 2, 3, 4, 5] rfl rfl rfl rfl rfl rfl ?_
      refine j_goto C (tgt := 41) dX8_toldDifference_21 (by decide) ?_
      obtain rfl := Option.some.inj hf
      exact j_iret C hQ rfl dX8_toldDifference_41 (Nat.zero_le _) (Nat.zero_le _) ⟨rfl, rfl⟩
  · have hf := (if_pos e1).symm.trans hf
    refine j_aload_n C dX8_toldDifference_4 rfl 0 rfl ?_
    obtain ⟨r5, hc5, hf⟩ := Option.bind_eq_some_iff.mp hf
    refine j_cV C (b_X8_differences X.1 hl h8 qz qv qp qf qo mT mZ mU mV mP mB mY mR mO mS mW mH r5 hc5) k_X8_differences gX8_toldDifference_X8_differences rfl (ci := 8) (q0 := 0) rfl rfl (As := []) (rest := []) (st' := [.int r5]) (ws' := [(h8, .inr (8, [.int mT, .ref qz, .ref qv, .int mV, .ref qp, .ref qf, .int mY, .ref qo, .int mO, .int mS, .int mW, .long mH])), (qz, .inl (gI X.1, 1027, .inl mZ)), (qv, .inl (gI X.1, 6162, .inl mU)), (qp, .inl (gI X.1, 512, .inl mP)), (qf, .inl (gI X.1, 60, .inl mB)), (qo, .inl (gI X.1, 60, .inl mR))]) rfl rfl dX8_toldDifference_5 [0, 1, 2, 3, 4, 5] [] [0, 1, 2, 3, 4, 5] rfl rfl rfl rfl rfl rfl ?_
    refine j_goto C (tgt := 41) dX8_toldDifference_8 (by decide) ?_
    obtain rfl := Option.some.inj hf
    exact j_iret C hQ rfl dX8_toldDifference_41 (Nat.zero_le _) (Nat.zero_le _) ⟨rfl, rfl⟩

theorem lk_X8_difference_25 : Cond.fieldLink RX8 25 (TX8 0).1 (TX8 0).2.1 (TX8 0).2.2.1 ∈ wsX8_difference := by decide +kernel
theorem in_X8_difference_8 : ∀ w ∈ wsX80, w ∈ wsX8_difference := by decide +kernel
def f_X8_difference_J15 (p1 : Int32) (mZ : (Nat → Int32)) (s15_0 : Int32) : Option (Int32 × Int32) :=
  if s15_0 ≤ 0 then Option.bind (f_X8_toldDifference p1 mZ) (fun r31 => some ((r31, s15_0))) else some ((0, s15_0))
def f_X8_difference (p1 : Int32) (mZ : (Nat → Int32)) : Option (Int32 × Int32) :=
  if (f_X8_in p1 0 3) = 0 then (f_X8_difference_J15 p1 mZ 1) else (f_X8_difference_J15 p1 mZ 0)
abbrev rm_X8_difference : Room := { frames := 4, cells := 0, slots := 0, locals := 84 }
theorem k_X8_difference : Cf yX8_difference wsX8_difference rm_X8_difference cX8_difference 2 (some .int) 1 := ⟨⟨_, rfl⟩, by decide +kernel, by decide +kernel, by decide +kernel⟩
set_option maxRecDepth 100000 in
set_option maxHeartbeats 4000000 in
theorem b_X8_difference (G : CG) (hl : (gL G).stackTraces = false) (h8 : Nat) (qz : Nat) (qv : Nat) (qp : Nat) (qf : Nat) (qo : Nat) (mT : Int32) (mZ : (Nat → Int32)) (mU : (Nat → Int32)) (mV : Int32) (mP : (Nat → Int32)) (mB : (Nat → Int32)) (mY : Int32) (mR : (Nat → Int32)) (mO : Int32) (mS : Int32) (mW : Int32) (mH : Int64) (p1 : Int32) (y : Int32 × Int32) (hf : f_X8_difference p1 mZ = some y) : Ct G yX8_difference wsX8_difference rm_X8_difference [.ref h8, .int p1] [(h8, .inr (8, [.int mT, .ref qz, .ref qv, .int mV, .ref qp, .ref qf, .int mY, .ref qo, .int mO, .int mS, .int mW, .long mH])), (qz, .inl (gI G, 1027, .inl mZ)), (qv, .inl (gI G, 6162, .inl mU)), (qp, .inl (gI G, 512, .inl mP)), (qf, .inl (gI G, 60, .inl mB)), (qo, .inl (gI G, 60, .inl mR))] (fin1 (some (.int y.1)) [(h8, .inr (8, [.int y.2, .ref qz, .ref qv, .int mV, .ref qp, .ref qf, .int mY, .ref qo, .int mO, .int mS, .int mW, .long mH])), (qz, .inl (gI G, 1027, .inl mZ)), (qv, .inl (gI G, 6162, .inl mU)), (qp, .inl (gI G, 512, .inl mP)), (qf, .inl (gI G, 60, .inl mB)), (qo, .inl (gI G, 60, .inl mR))]) 0 0 := by
  refine Ct.of (cc := cX8_difference) (N := 2) (ret := (some .int)) RX8 (by decide) rfl rfl hl (Nat.le_of_ble_eq_true rfl) (lv := [(0, .ref h8), (1, .int p1)]) rfl (fun X hXG C hex hnm hQ => ?_)
  subst hXG
  unfold f_X8_difference at hf
  refine j_aload_n C dX8_difference_0 rfl 0 rfl ?_
  refine j_iload_n C dX8_difference_1 rfl 1 rfl ?_
  refine j_iconst C (v := 0) dX8_difference_2 (by decide) ?_
  refine j_iconst C (v := 3) dX8_difference_3 (by decide) ?_
  refine j_cS C (c_X8_in X.1 hl p1 0 3) k_X8_in gX8_difference_X8_in (As := [.int p1, .int 0, .int 3]) (rest := [.ref h8]) (st' := [.int (f_X8_in p1 0 3), .ref h8]) (ws' := [(h8, .inr (8, [.int mT, .ref qz, .ref qv, .int mV, .ref qp, .ref qf, .int mY, .ref qo, .int mO, .int mS, .int mW, .long mH])), (qz, .inl (gI X.1, 1027, .inl mZ)), (qv, .inl (gI X.1, 6162, .inl mU)), (qp, .inl (gI X.1, 512, .inl mP)), (qf, .inl (gI X.1, 60, .inl mB)), (qo, .inl (gI X.1, 60, .inl mR))]) rfl rfl dX8_difference_4 [] [0, 1, 2, 3, 4, 5] [0, 1, 2, 3, 4, 5] rfl rfl rfl rfl rfl rfl ?_
  have k15 : ∀ (s15_0 : Int32), f_X8_difference_J15 p1 mZ s15_0 = some y → Jt X [(h8, .inr (8, [.int mT, .ref qz, .ref qv, .int mV, .ref qp, .ref qf, .int mY, .ref qo, .int mO, .int mS, .int mW, .long mH])), (qz, .inl (gI X.1, 1027, .inl mZ)), (qv, .inl (gI X.1, 6162, .inl mU)), (qp, .inl (gI X.1, 512, .inl mP)), (qf, .inl (gI X.1, 60, .inl mB)), (qo, .inl (gI X.1, 60, .inl mR))] 0 0 15 [(0, .ref h8), (1, .int p1)] [.int s15_0, .ref h8] := by
    intro s15_0 hf
    unfold f_X8_difference_J15 at hf
    refine j_put8 (ty := .int) (ws' := [(h8, .inr (8, [.int s15_0, .ref qz, .ref qv, .int mV, .ref qp, .ref qf, .int mY, .ref qo, .int mO, .int mS, .int mW, .long mH])), (qz, .inl (gI X.1, 1027, .inl mZ)), (qv, .inl (gI X.1, 6162, .inl mU)), (qp, .inl (gI X.1, 512, .inl mP)), (qf, .inl (gI X.1, 60, .inl mB)), (qo, .inl (gI X.1, 60, .inl mR))]) C 0 rfl 0 (by decide) in_X8_difference_8 lk_X8_difference_25 rfl (by decide +kernel) rfl rfl (Nat.le_of_ble_eq_true rfl) rfl dX8_difference_15 ?_
    refine j_aload_n C dX8_difference_18 rfl 0 rfl ?_
    refine j_get8 C 0 rfl 0 (by decide) in_X8_difference_8 lk_X8_difference_25 rfl dX8_difference_19 ?_
    refine j_if_le C (tgt := 29) dX8_difference_22 (by decide) (fun e22 => ?_) (fun e22 => ?_)
    · have hf := (if_pos e22).symm.trans hf
      refine j_aload_n C dX8_difference_29 rfl 0 rfl ?_
      refine j_iload_n C dX8_difference_30 rfl 1 rfl ?_
      obtain ⟨r31, hc31, hf⟩ := Option.bind_eq_some_iff.mp hf
      refine j_cV C (b_X8_toldDifference X.1 hl h8 qz qv qp qf qo s15_0 mZ mU mV mP mB mY mR mO mS mW mH p1 r31 hc31) k_X8_toldDifference gX8_difference_X8_toldDifference rfl (ci := 8) (q0 := 0) rfl rfl (As := [.int p1]) (rest := []) (st' := [.int r31]) (ws' := [(h8, .inr (8, [.int s15_0, .ref qz, .ref qv, .int mV, .ref qp, .ref qf, .int mY, .ref qo, .int mO, .int mS, .int mW, .long mH])), (qz, .inl (gI X.1, 1027, .inl mZ)), (qv, .inl (gI X.1, 6162, .inl mU)), (qp, .inl (gI X.1, 512, .inl mP)), (qf, .inl (gI X.1, 60, .inl mB)), (qo, .inl (gI X.1, 60, .inl mR))]) rfl rfl dX8_difference_31 [0, 1, 2, 3, 4, 5] [] [0, 1, 2, 3, 4, 5] rfl rfl rfl rfl rfl rfl ?_
      obtain rfl := Option.some.inj hf
      exact j_iret C hQ rfl dX8_difference_34 (Nat.zero_le _) (Nat.zero_le _) ⟨rfl, rfl⟩
    · have hf := (if_neg e22).symm.trans hf
      refine j_iconst C (v := 0) dX8_difference_25 (by decide) ?_
      refine j_goto C (tgt := 34) dX8_difference_26 (by decide) ?_
      obtain rfl := Option.some.inj hf
      exact j_iret C hQ rfl dX8_difference_34 (Nat.zero_le _) (Nat.zero_le _) ⟨rfl, rfl⟩
  refine j_if_eq C (tgt := 14) dX8_difference_7 (by decide) (fun e7 => ?_) (fun e7 => ?_)
  · have hf := (if_pos e7).symm.trans hf
    refine j_iconst C (v := 1) dX8_difference_14 (by decide) ?_
    refine j_loc [0, 1] rfl ?_
    exact k15 1 hf
  · have hf := (if_neg e7).symm.trans hf
    refine j_iconst C (v := 0) dX8_difference_10 (by decide) ?_
    refine j_goto C (tgt := 15) dX8_difference_11 (by decide) ?_
    refine j_loc [0, 1] rfl ?_
    exact k15 0 hf

theorem lk_X8_slicesOf_7 : Cond.fieldLink RX8 7 (TX8 1).1 (TX8 1).2.1 (TX8 1).2.2.1 ∈ wsX8_slicesOf := by decide +kernel
theorem in_X8_slicesOf_8 : ∀ w ∈ wsX80, w ∈ wsX8_slicesOf := by decide +kernel
def f_X8_slicesOf_J35 (s35_0 : Int32) (x4_2 : Int32) (x4_3 : Int32) : Option ((Int32 × Int32) ⊕ (Int32)) :=
  some (.inl ((x4_2 + s35_0), (x4_3 + 1)))
def f_X8_slicesOf_L4 (p1 : Int32) (mZ : (Nat → Int32)) (x4_2 : Int32) (x4_3 : Int32) : Option ((Int32 × Int32) ⊕ (Int32)) :=
  if (mZ 0) ≤ x4_3 then some (.inr (x4_2)) else Option.bind (f_X8_form (mZ 1) x4_3 mZ) (fun r23 => if r23 = p1 then (f_X8_slicesOf_J35 1 x4_2 x4_3) else (f_X8_slicesOf_J35 0 x4_2 x4_3))
def f_X8_slicesOf (p1 : Int32) (mZ : (Nat → Int32)) : Option (Int32) :=
  dz_it (fun s : Int32 × Int32 => f_X8_slicesOf_L4 p1 mZ s.1 s.2) (0, 0)
abbrev rm_X8_slicesOf : Room := { frames := 7, cells := 0, slots := 0, locals := 155 }
theorem k_X8_slicesOf : Cf yX8_slicesOf wsX8_slicesOf rm_X8_slicesOf cX8_slicesOf 4 (some .int) 1 := ⟨⟨_, rfl⟩, by decide +kernel, by decide +kernel, by decide +kernel⟩
set_option maxRecDepth 100000 in
set_option maxHeartbeats 4000000 in
theorem b_X8_slicesOf (G : CG) (hl : (gL G).stackTraces = false) (h8 : Nat) (qz : Nat) (qv : Nat) (qp : Nat) (qf : Nat) (qo : Nat) (mT : Int32) (mZ : (Nat → Int32)) (mU : (Nat → Int32)) (mV : Int32) (mP : (Nat → Int32)) (mB : (Nat → Int32)) (mY : Int32) (mR : (Nat → Int32)) (mO : Int32) (mS : Int32) (mW : Int32) (mH : Int64) (p1 : Int32) (y : Int32) (hf : f_X8_slicesOf p1 mZ = some y) : Ct G yX8_slicesOf wsX8_slicesOf rm_X8_slicesOf [.ref h8, .int p1] [(h8, .inr (8, [.int mT, .ref qz, .ref qv, .int mV, .ref qp, .ref qf, .int mY, .ref qo, .int mO, .int mS, .int mW, .long mH])), (qz, .inl (gI G, 1027, .inl mZ)), (qv, .inl (gI G, 6162, .inl mU)), (qp, .inl (gI G, 512, .inl mP)), (qf, .inl (gI G, 60, .inl mB)), (qo, .inl (gI G, 60, .inl mR))] (fin1 (some (.int y)) [(h8, .inr (8, [.int mT, .ref qz, .ref qv, .int mV, .ref qp, .ref qf, .int mY, .ref qo, .int mO, .int mS, .int mW, .long mH])), (qz, .inl (gI G, 1027, .inl mZ)), (qv, .inl (gI G, 6162, .inl mU)), (qp, .inl (gI G, 512, .inl mP)), (qf, .inl (gI G, 60, .inl mB)), (qo, .inl (gI G, 60, .inl mR))]) 0 0 := by
  refine Ct.of (cc := cX8_slicesOf) (N := 4) (ret := (some .int)) RX8 (by decide) rfl rfl hl (Nat.le_of_ble_eq_true rfl) (lv := [(0, .ref h8), (1, .int p1)]) rfl (fun X hXG C hex hnm hQ => ?_)
  subst hXG
  unfold f_X8_slicesOf at hf
  refine j_iconst C (v := 0) dX8_slicesOf_0 (by decide) ?_
  refine j_istore_n (lv' := [(2, .int 0), (0, .ref h8), (1, .int p1)]) C dX8_slicesOf_1 rfl (by decide) rfl ?_
  refine j_iconst C (v := 0) dX8_slicesOf_2 (by decide) ?_
  refine j_istore_n (lv' := [(3, .int 0), (2, .int 0), (0, .ref h8), (1, .int p1)]) C dX8_slicesOf_3 rfl (by decide) rfl ?_
  have kk4 : ∀ (n : Nat) (x4_2 : Int32) (x4_3 : Int32), dz_iter n (fun s : Int32 × Int32 => f_X8_slicesOf_L4 p1 mZ s.1 s.2) (x4_2, x4_3) = some y → Jt X [(h8, .inr (8, [.int mT, .ref qz, .ref qv, .int mV, .ref qp, .ref qf, .int mY, .ref qo, .int mO, .int mS, .int mW, .long mH])), (qz, .inl (gI X.1, 1027, .inl mZ)), (qv, .inl (gI X.1, 6162, .inl mU)), (qp, .inl (gI X.1, 512, .inl mP)), (qf, .inl (gI X.1, 60, .inl mB)), (qo, .inl (gI X.1, 60, .inl mR))] 0 0 4 [(0, .ref h8), (1, .int p1), (2, .int x4_2), (3, .int x4_3)] [] := by
    intro n
    induction n with
    | zero => intro x4_2 x4_3 hit; exact absurd hit (by simp [dz_iter])
    | succ n ih4 =>
      intro x4_2 x4_3 hit
      obtain ⟨y4, hf, hg4⟩ := dz_iter_succ hit
      replace hf : f_X8_slicesOf_L4 p1 mZ x4_2 x4_3 = some y4 := hf
      unfold f_X8_slicesOf_L4 at hf
      refine j_iload_n C dX8_slicesOf_4 rfl 3 rfl ?_
      refine j_aload_n C dX8_slicesOf_5 rfl 0 rfl ?_
      refine j_get8 C 0 rfl 1 (by decide) in_X8_slicesOf_8 lk_X8_slicesOf_7 rfl dX8_slicesOf_6 ?_
      refine j_iconst C (v := 0) dX8_slicesOf_9 (by decide) ?_
      refine j_iald C 1 rfl (by unfold vp_in; decide) dX8_slicesOf_10 ?_
      refine j_icmp_ge C (tgt := 43) dX8_slicesOf_11 (by decide) (fun e11 => ?_) (fun e11 => ?_)
      · have hf := (if_pos e11).symm.trans hf
        refine j_iload_n C dX8_slicesOf_43 rfl 2 rfl ?_
        obtain rfl := Option.some.inj hf
        obtain rfl := dz_go_inr hg4
        exact j_iret C hQ rfl dX8_slicesOf_44 (Nat.zero_le _) (Nat.zero_le _) ⟨rfl, rfl⟩
      · have hf := (if_neg e11).symm.trans hf
        refine j_iload_n C dX8_slicesOf_14 rfl 2 rfl ?_
        refine j_aload_n C dX8_slicesOf_15 rfl 0 rfl ?_
        refine j_aload_n C dX8_slicesOf_16 rfl 0 rfl ?_
        refine j_get8 C 0 rfl 1 (by decide) in_X8_slicesOf_8 lk_X8_slicesOf_7 rfl dX8_slicesOf_17 ?_
        refine j_iconst C (v := 1) dX8_slicesOf_20 (by decide) ?_
        refine j_iald C 1 rfl (by unfold vp_in; decide) dX8_slicesOf_21 ?_
        refine j_iload_n C dX8_slicesOf_22 rfl 3 rfl ?_
        obtain ⟨r23, hc23, hf⟩ := Option.bind_eq_some_iff.mp hf
        refine j_cV C (b_X8_form X.1 hl h8 qz qv qp qf qo mT mZ mU mV mP mB mY mR mO mS mW mH (mZ 1) x4_3 r23 hc23) k_X8_form gX8_slicesOf_X8_form rfl (ci := 8) (q0 := 0) rfl rfl (As := [.int (mZ 1), .int x4_3]) (rest := [.int x4_2]) (st' := [.int r23, .int x4_2]) (ws' := [(h8, .inr (8, [.int mT, .ref qz, .ref qv, .int mV, .ref qp, .ref qf, .int mY, .ref qo, .int mO, .int mS, .int mW, .long mH])), (qz, .inl (gI X.1, 1027, .inl mZ)), (qv, .inl (gI X.1, 6162, .inl mU)), (qp, .inl (gI X.1, 512, .inl mP)), (qf, .inl (gI X.1, 60, .inl mB)), (qo, .inl (gI X.1, 60, .inl mR))]) rfl rfl dX8_slicesOf_23 [0, 1, 2, 3, 4, 5] [] [0, 1, 2, 3, 4, 5] rfl rfl rfl rfl rfl rfl ?_
        refine j_iload_n C dX8_slicesOf_26 rfl 1 rfl ?_
        have k35 : ∀ (s35_0 : Int32), f_X8_slicesOf_J35 s35_0 x4_2 x4_3 = some y4 → Jt X [(h8, .inr (8, [.int mT, .ref qz, .ref qv, .int mV, .ref qp, .ref qf, .int mY, .ref qo, .int mO, .int mS, .int mW, .long mH])), (qz, .inl (gI X.1, 1027, .inl mZ)), (qv, .inl (gI X.1, 6162, .inl mU)), (qp, .inl (gI X.1, 512, .inl mP)), (qf, .inl (gI X.1, 60, .inl mB)), (qo, .inl (gI X.1, 60, .inl mR))] 0 0 35 [(0, .ref h8), (1, .int p1), (2, .int x4_2), (3, .int x4_3)] [.int s35_0, .int x4_2] := by
          intro s35_0 hf
          unfold f_X8_slicesOf_J35 at hf
          refine j_iadd C dX8_slicesOf_35 ?_
          refine j_istore_n (lv' := [(2, .int (x4_2 + s35_0)), (0, .ref h8), (1, .int p1), (3, .int x4_3)]) C dX8_slicesOf_36 rfl (by decide) rfl ?_
          refine j_iinc (v := (x4_3 + 1)) (lv' := [(3, .int (x4_3 + 1)), (2, .int (x4_2 + s35_0)), (0, .ref h8), (1, .int p1)]) C dX8_slicesOf_37 3 rfl (by first | rfl | decide) (by decide) rfl ?_
          refine j_goto C (tgt := 4) dX8_slicesOf_40 (by decide) ?_
          obtain rfl := Option.some.inj hf
          have hf := dz_go_inl hg4
          refine j_loc [2, 3, 1, 0] rfl ?_
          exact ih4 (x4_2 + s35_0) (x4_3 + 1) hf
        refine j_icmp_ne C (tgt := 34) dX8_slicesOf_27 (by decide) (fun e27 => ?_) (fun e27 => ?_)
        · have hf := (if_neg e27).symm.trans hf
          refine j_iconst C (v := 0) dX8_slicesOf_34 (by decide) ?_
          refine j_loc [0, 1, 2, 3] rfl ?_
          exact k35 0 hf
        · have hf := (if_pos e27).symm.trans hf
          refine j_iconst C (v := 1) dX8_slicesOf_30 (by decide) ?_
          refine j_goto C (tgt := 35) dX8_slicesOf_31 (by decide) ?_
          refine j_loc [0, 1, 2, 3] rfl ?_
          exact k35 1 hf
  refine j_loc [2, 3, 1, 0] rfl ?_
  exact kk4 _ 0 0 hf

theorem lk_X8_all_7 : Cond.fieldLink RX8 7 (TX8 1).1 (TX8 1).2.1 (TX8 1).2.2.1 ∈ wsX8_all := by decide +kernel
theorem in_X8_all_8 : ∀ w ∈ wsX80, w ∈ wsX8_all := by decide +kernel
def f_X8_all_J43 (s43_0 : Int32) (x4_2 : Int32) (x4_3 : Int32) : Option ((Int32 × Int32) ⊕ (Int32)) :=
  some (.inl ((x4_2 + s43_0), (x4_3 + 1)))
def f_X8_all_L4 (p1 : Int32) (mZ : (Nat → Int32)) (x4_2 : Int32) (x4_3 : Int32) : Option ((Int32 × Int32) ⊕ (Int32)) :=
  if 512 ≤ x4_3 then some (.inr (x4_2)) else if p1 = 0 then dz_in (3 + x4_3) 1027 ((f_X8_all_J43 (mZ (Int32.toNatClampNeg (3 + x4_3))) x4_2 x4_3)) else dz_in (3 + x4_3) 1027 (if (mZ (Int32.toNatClampNeg (3 + x4_3))) = 0 then (f_X8_all_J43 0 x4_2 x4_3) else (f_X8_all_J43 1 x4_2 x4_3))
def f_X8_all (p1 : Int32) (mZ : (Nat → Int32)) : Option (Int32) :=
  dz_it (fun s : Int32 × Int32 => f_X8_all_L4 p1 mZ s.1 s.2) (0, 0)
abbrev rm_X8_all : Room := { frames := 1, cells := 0, slots := 0, locals := 16 }
theorem k_X8_all : Cf yX8_all wsX8_all rm_X8_all cX8_all 4 (some .int) 1 := ⟨⟨_, rfl⟩, by decide +kernel, by decide +kernel, by decide +kernel⟩
set_option maxRecDepth 100000 in
set_option maxHeartbeats 4000000 in
theorem b_X8_all (G : CG) (hl : (gL G).stackTraces = false) (h8 : Nat) (qz : Nat) (qv : Nat) (qp : Nat) (qf : Nat) (qo : Nat) (mT : Int32) (mZ : (Nat → Int32)) (mU : (Nat → Int32)) (mV : Int32) (mP : (Nat → Int32)) (mB : (Nat → Int32)) (mY : Int32) (mR : (Nat → Int32)) (mO : Int32) (mS : Int32) (mW : Int32) (mH : Int64) (p1 : Int32) (y : Int32) (hf : f_X8_all p1 mZ = some y) : Ct G yX8_all wsX8_all rm_X8_all [.ref h8, .int p1] [(h8, .inr (8, [.int mT, .ref qz, .ref qv, .int mV, .ref qp, .ref qf, .int mY, .ref qo, .int mO, .int mS, .int mW, .long mH])), (qz, .inl (gI G, 1027, .inl mZ)), (qv, .inl (gI G, 6162, .inl mU)), (qp, .inl (gI G, 512, .inl mP)), (qf, .inl (gI G, 60, .inl mB)), (qo, .inl (gI G, 60, .inl mR))] (fin1 (some (.int y)) [(h8, .inr (8, [.int mT, .ref qz, .ref qv, .int mV, .ref qp, .ref qf, .int mY, .ref qo, .int mO, .int mS, .int mW, .long mH])), (qz, .inl (gI G, 1027, .inl mZ)), (qv, .inl (gI G, 6162, .inl mU)), (qp, .inl (gI G, 512, .inl mP)), (qf, .inl (gI G, 60, .inl mB)), (qo, .inl (gI G, 60, .inl mR))]) 0 0 := by
  refine Ct.of (cc := cX8_all) (N := 4) (ret := (some .int)) RX8 (by decide) rfl rfl hl (Nat.le_of_ble_eq_true rfl) (lv := [(0, .ref h8), (1, .int p1)]) rfl (fun X hXG C hex hnm hQ => ?_)
  subst hXG
  unfold f_X8_all at hf
  refine j_iconst C (v := 0) dX8_all_0 (by decide) ?_
  refine j_istore_n (lv' := [(2, .int 0), (0, .ref h8), (1, .int p1)]) C dX8_all_1 rfl (by decide) rfl ?_
  refine j_iconst C (v := 0) dX8_all_2 (by decide) ?_
  refine j_istore_n (lv' := [(3, .int 0), (2, .int 0), (0, .ref h8), (1, .int p1)]) C dX8_all_3 rfl (by decide) rfl ?_
  have kk4 : ∀ (n : Nat) (x4_2 : Int32) (x4_3 : Int32), dz_iter n (fun s : Int32 × Int32 => f_X8_all_L4 p1 mZ s.1 s.2) (x4_2, x4_3) = some y → Jt X [(h8, .inr (8, [.int mT, .ref qz, .ref qv, .int mV, .ref qp, .ref qf, .int mY, .ref qo, .int mO, .int mS, .int mW, .long mH])), (qz, .inl (gI X.1, 1027, .inl mZ)), (qv, .inl (gI X.1, 6162, .inl mU)), (qp, .inl (gI X.1, 512, .inl mP)), (qf, .inl (gI X.1, 60, .inl mB)), (qo, .inl (gI X.1, 60, .inl mR))] 0 0 4 [(0, .ref h8), (1, .int p1), (2, .int x4_2), (3, .int x4_3)] [] := by
    intro n
    induction n with
    | zero => intro x4_2 x4_3 hit; exact absurd hit (by simp [dz_iter])
    | succ n ih4 =>
      intro x4_2 x4_3 hit
      obtain ⟨y4, hf, hg4⟩ := dz_iter_succ hit
      replace hf : f_X8_all_L4 p1 mZ x4_2 x4_3 = some y4 := hf
      unfold f_X8_all_L4 at hf
      refine j_iload_n C dX8_all_4 rfl 3 rfl ?_
      refine j_sipush C (v := 512) dX8_all_5 (by decide) ?_
      refine j_icmp_ge C (tgt := 51) dX8_all_8 (by decide) (fun e8 => ?_) (fun e8 => ?_)
      · have hf := (if_pos e8).symm.trans hf
        refine j_iload_n C dX8_all_51 rfl 2 rfl ?_
        obtain rfl := Option.some.inj hf
        obtain rfl := dz_go_inr hg4
        exact j_iret C hQ rfl dX8_all_52 (Nat.zero_le _) (Nat.zero_le _) ⟨rfl, rfl⟩
      · have hf := (if_neg e8).symm.trans hf
        refine j_iload_n C dX8_all_11 rfl 2 rfl ?_
        refine j_iload_n C dX8_all_12 rfl 1 rfl ?_
        have k43 : ∀ (s43_0 : Int32), f_X8_all_J43 s43_0 x4_2 x4_3 = some y4 → Jt X [(h8, .inr (8, [.int mT, .ref qz, .ref qv, .int mV, .ref qp, .ref qf, .int mY, .ref qo, .int mO, .int mS, .int mW, .long mH])), (qz, .inl (gI X.1, 1027, .inl mZ)), (qv, .inl (gI X.1, 6162, .inl mU)), (qp, .inl (gI X.1, 512, .inl mP)), (qf, .inl (gI X.1, 60, .inl mB)), (qo, .inl (gI X.1, 60, .inl mR))] 0 0 43 [(0, .ref h8), (1, .int p1), (2, .int x4_2), (3, .int x4_3)] [.int s43_0, .int x4_2] := by
          intro s43_0 hf
          unfold f_X8_all_J43 at hf
          refine j_iadd C dX8_all_43 ?_
          refine j_istore_n (lv' := [(2, .int (x4_2 + s43_0)), (0, .ref h8), (1, .int p1), (3, .int x4_3)]) C dX8_all_44 rfl (by decide) rfl ?_
          refine j_iinc (v := (x4_3 + 1)) (lv' := [(3, .int (x4_3 + 1)), (2, .int (x4_2 + s43_0)), (0, .ref h8), (1, .int p1)]) C dX8_all_45 3 rfl (by first | rfl | decide) (by decide) rfl ?_
          refine j_goto C (tgt := 4) dX8_all_48 (by decide) ?_
          obtain rfl := Option.some.inj hf
          have hf := dz_go_inl hg4
          refine j_loc [2, 3, 1, 0] rfl ?_
          exact ih4 (x4_2 + s43_0) (x4_3 + 1) hf
        refine j_if_ne C (tgt := 27) dX8_all_13 (by decide) (fun e13 => ?_) (fun e13 => ?_)
        · have hf := (if_neg e13).symm.trans hf
          refine j_aload_n C dX8_all_27 rfl 0 rfl ?_
          refine j_get8 C 0 rfl 1 (by decide) in_X8_all_8 lk_X8_all_7 rfl dX8_all_28 ?_
          refine j_iconst C (v := 3) dX8_all_31 (by decide) ?_
          refine j_iload_n C dX8_all_32 rfl 3 rfl ?_
          refine j_iadd C dX8_all_33 ?_
          obtain ⟨z34, hf⟩ := dz_in_some hf
          refine j_iald C 1 rfl z34 dX8_all_34 ?_
          refine j_if_ne C (tgt := 42) dX8_all_35 (by decide) (fun e35 => ?_) (fun e35 => ?_)
          · have hf := (if_neg e35).symm.trans hf
            refine j_iconst C (v := 1) dX8_all_42 (by decide) ?_
            refine j_loc [0, 1, 2, 3] rfl ?_
            exact k43 1 hf
          · have hf := (if_pos e35).symm.trans hf
            refine j_iconst C (v := 0) dX8_all_38 (by decide) ?_
            refine j_goto C (tgt := 43) dX8_all_39 (by decide) ?_
            refine j_loc [0, 1, 2, 3] rfl ?_
            exact k43 0 hf
        · have hf := (if_pos e13).symm.trans hf
          refine j_aload_n C dX8_all_16 rfl 0 rfl ?_
          refine j_get8 C 0 rfl 1 (by decide) in_X8_all_8 lk_X8_all_7 rfl dX8_all_17 ?_
          refine j_iconst C (v := 3) dX8_all_20 (by decide) ?_
          refine j_iload_n C dX8_all_21 rfl 3 rfl ?_
          refine j_iadd C dX8_all_22 ?_
          obtain ⟨z23, hf⟩ := dz_in_some hf
          refine j_iald C 1 rfl z23 dX8_all_23 ?_
          refine j_goto C (tgt := 43) dX8_all_24 (by decide) ?_
          refine j_loc [0, 1, 2, 3] rfl ?_
          exact k43 (mZ (Int32.toNatClampNeg (3 + x4_3))) hf
  refine j_loc [2, 3, 1, 0] rfl ?_
  exact kk4 _ 0 0 hf

theorem lk_X8_counted_45 : Cond.fieldLink RX8 45 (TX8 3).1 (TX8 3).2.1 (TX8 3).2.2.1 ∈ wsX8_counted := by decide +kernel
theorem in_X8_counted_8 : ∀ w ∈ wsX80, w ∈ wsX8_counted := by decide +kernel
theorem lk_X8_counted_7 : Cond.fieldLink RX8 7 (TX8 1).1 (TX8 1).2.1 (TX8 1).2.2.1 ∈ wsX8_counted := by decide +kernel
def f_X8_counted_J73 (mZ : (Nat → Int32)) (s73_0 : Int32) : Option (Int32) :=
  Option.bind (f_X8_all s73_0 mZ) (fun r73 => some (r73))
def f_X8_counted_J62 (p1 : Int32) (mZ : (Nat → Int32)) : Option (Int32) :=
  if p1 = 2 then (f_X8_counted_J73 mZ 1) else (f_X8_counted_J73 mZ 0)
def f_X8_counted_J82 (p1 : Int32) (mZ : (Nat → Int32)) : Option (Int32) :=
  Option.bind (f_X8_slicesOf (p1 - 5) mZ) (fun r86 => some (r86))
def f_X8_counted (p1 : Int32) (mZ : (Nat → Int32)) (mV : Int32) : Option (Int32) :=
  if p1 = 0 then some ((mZ 0)) else if p1 = 1 then some ((mZ 1)) else if p1 = 2 then (f_X8_counted_J62 p1 mZ) else if p1 = 3 then (f_X8_counted_J62 p1 mZ) else if p1 = 4 then Option.bind (f_X8_room mZ) (fun r78 => some (r78)) else if p1 = 5 then (f_X8_counted_J82 p1 mZ) else if p1 = 6 then (f_X8_counted_J82 p1 mZ) else if p1 = 7 then (f_X8_counted_J82 p1 mZ) else some (mV)
abbrev rm_X8_counted : Room := { frames := 10, cells := 0, slots := 0, locals := 222 }
theorem k_X8_counted : Cf yX8_counted wsX8_counted rm_X8_counted cX8_counted 2 (some .int) 1 := ⟨⟨_, rfl⟩, by decide +kernel, by decide +kernel, by decide +kernel⟩
set_option maxRecDepth 100000 in
set_option maxHeartbeats 4000000 in
theorem b_X8_counted (G : CG) (hl : (gL G).stackTraces = false) (h8 : Nat) (qz : Nat) (qv : Nat) (qp : Nat) (qf : Nat) (qo : Nat) (mT : Int32) (mZ : (Nat → Int32)) (mU : (Nat → Int32)) (mV : Int32) (mP : (Nat → Int32)) (mB : (Nat → Int32)) (mY : Int32) (mR : (Nat → Int32)) (mO : Int32) (mS : Int32) (mW : Int32) (mH : Int64) (p1 : Int32) (y : Int32) (hf : f_X8_counted p1 mZ mV = some y) : Ct G yX8_counted wsX8_counted rm_X8_counted [.ref h8, .int p1] [(h8, .inr (8, [.int mT, .ref qz, .ref qv, .int mV, .ref qp, .ref qf, .int mY, .ref qo, .int mO, .int mS, .int mW, .long mH])), (qz, .inl (gI G, 1027, .inl mZ)), (qv, .inl (gI G, 6162, .inl mU)), (qp, .inl (gI G, 512, .inl mP)), (qf, .inl (gI G, 60, .inl mB)), (qo, .inl (gI G, 60, .inl mR))] (fin1 (some (.int y)) [(h8, .inr (8, [.int mT, .ref qz, .ref qv, .int mV, .ref qp, .ref qf, .int mY, .ref qo, .int mO, .int mS, .int mW, .long mH])), (qz, .inl (gI G, 1027, .inl mZ)), (qv, .inl (gI G, 6162, .inl mU)), (qp, .inl (gI G, 512, .inl mP)), (qf, .inl (gI G, 60, .inl mB)), (qo, .inl (gI G, 60, .inl mR))]) 0 0 := by
  refine Ct.of (cc := cX8_counted) (N := 2) (ret := (some .int)) RX8 (by decide) rfl rfl hl (Nat.le_of_ble_eq_true rfl) (lv := [(0, .ref h8), (1, .int p1)]) rfl (fun X hXG C hex hnm hQ => ?_)
  subst hXG
  unfold f_X8_counted at hf
  refine j_iload_n C dX8_counted_0 rfl 1 rfl ?_
  have k62 : f_X8_counted_J62 p1 mZ = some y → Jt X [(h8, .inr (8, [.int mT, .ref qz, .ref qv, .int mV, .ref qp, .ref qf, .int mY, .ref qo, .int mO, .int mS, .int mW, .long mH])), (qz, .inl (gI X.1, 1027, .inl mZ)), (qv, .inl (gI X.1, 6162, .inl mU)), (qp, .inl (gI X.1, 512, .inl mP)), (qf, .inl (gI X.1, 60, .inl mB)), (qo, .inl (gI X.1, 60, .inl mR))] 0 0 62 [(0, .ref h8), (1, .int p1)] [] := by
    intro  hf
    unfold f_X8_counted_J62 at hf
    refine j_aload_n C dX8_counted_62 rfl 0 rfl ?_
    refine j_iload_n C dX8_counted_63 rfl 1 rfl ?_
    refine j_iconst C (v := 2) dX8_counted_64 (by decide) ?_
    have k73 : ∀ (s73_0 : Int32), f_X8_counted_J73 mZ s73_0 = some y → Jt X [(h8, .inr (8, [.int mT, .ref qz, .ref qv, .int mV, .ref qp, .ref qf, .int mY, .ref qo, .int mO, .int mS, .int mW, .long mH])), (qz, .inl (gI X.1, 1027, .inl mZ)), (qv, .inl (gI X.1, 6162, .inl mU)), (qp, .inl (gI X.1, 512, .inl mP)), (qf, .inl (gI X.1, 60, .inl mB)), (qo, .inl (gI X.1, 60, .inl mR))] 0 0 73 [(0, .ref h8), (1, .int p1)] [.int s73_0, .ref h8] := by
      intro s73_0 hf
      unfold f_X8_counted_J73 at hf
      obtain ⟨r73, hc73, hf⟩ := Option.bind_eq_some_iff.mp hf
      refine j_cV C (b_X8_all X.1 hl h8 qz qv qp qf qo mT mZ mU mV mP mB mY mR mO mS mW mH s73_0 r73 hc73) k_X8_all gX8_counted_X8_all rfl (ci := 8) (q0 := 0) rfl rfl (As := [.int s73_0]) (rest := []) (st' := [.int r73]) (ws' := [(h8, .inr (8, [.int mT, .ref qz, .ref qv, .int mV, .ref qp, .ref qf, .int mY, .ref qo, .int mO, .int mS, .int mW, .long mH])), (qz, .inl (gI X.1, 1027, .inl mZ)), (qv, .inl (gI X.1, 6162, .inl mU)), (qp, .inl (gI X.1, 512, .inl mP)), (qf, .inl (gI X.1, 60, .inl mB)), (qo, .inl (gI X.1, 60, .inl mR))]) rfl rfl dX8_counted_73 [0, 1, 2, 3, 4, 5] [] [0, 1, 2, 3, 4, 5] rfl rfl rfl rfl rfl rfl ?_
      obtain rfl := Option.some.inj hf
      exact j_iret C hQ rfl dX8_counted_76 (Nat.zero_le _) (Nat.zero_le _) ⟨rfl, rfl⟩
    refine j_icmp_ne C (tgt := 72) dX8_counted_65 (by decide) (fun e65 => ?_) (fun e65 => ?_)
    · have hf := (if_neg e65).symm.trans hf
      refine j_iconst C (v := 0) dX8_counted_72 (by decide) ?_
      refine j_loc [0, 1] rfl ?_
      exact k73 0 hf
    · have hf := (if_pos e65).symm.trans hf
      refine j_iconst C (v := 1) dX8_counted_68 (by decide) ?_
      refine j_goto C (tgt := 73) dX8_counted_69 (by decide) ?_
      refine j_loc [0, 1] rfl ?_
      exact k73 1 hf
  have k82 : f_X8_counted_J82 p1 mZ = some y → Jt X [(h8, .inr (8, [.int mT, .ref qz, .ref qv, .int mV, .ref qp, .ref qf, .int mY, .ref qo, .int mO, .int mS, .int mW, .long mH])), (qz, .inl (gI X.1, 1027, .inl mZ)), (qv, .inl (gI X.1, 6162, .inl mU)), (qp, .inl (gI X.1, 512, .inl mP)), (qf, .inl (gI X.1, 60, .inl mB)), (qo, .inl (gI X.1, 60, .inl mR))] 0 0 82 [(0, .ref h8), (1, .int p1)] [] := by
    intro  hf
    unfold f_X8_counted_J82 at hf
    refine j_aload_n C dX8_counted_82 rfl 0 rfl ?_
    refine j_iload_n C dX8_counted_83 rfl 1 rfl ?_
    refine j_iconst C (v := 5) dX8_counted_84 (by decide) ?_
    refine j_isub C dX8_counted_85 ?_
    obtain ⟨r86, hc86, hf⟩ := Option.bind_eq_some_iff.mp hf
    refine j_cV C (b_X8_slicesOf X.1 hl h8 qz qv qp qf qo mT mZ mU mV mP mB mY mR mO mS mW mH (p1 - 5) r86 hc86) k_X8_slicesOf gX8_counted_X8_slicesOf rfl (ci := 8) (q0 := 0) rfl rfl (As := [.int (p1 - 5)]) (rest := []) (st' := [.int r86]) (ws' := [(h8, .inr (8, [.int mT, .ref qz, .ref qv, .int mV, .ref qp, .ref qf, .int mY, .ref qo, .int mO, .int mS, .int mW, .long mH])), (qz, .inl (gI X.1, 1027, .inl mZ)), (qv, .inl (gI X.1, 6162, .inl mU)), (qp, .inl (gI X.1, 512, .inl mP)), (qf, .inl (gI X.1, 60, .inl mB)), (qo, .inl (gI X.1, 60, .inl mR))]) rfl rfl dX8_counted_86 [0, 1, 2, 3, 4, 5] [] [0, 1, 2, 3, 4, 5] rfl rfl rfl rfl rfl rfl ?_
    obtain rfl := Option.some.inj hf
    exact j_iret C hQ rfl dX8_counted_89 (Nat.zero_le _) (Nat.zero_le _) ⟨rfl, rfl⟩
  by_cases e1_0 : p1 = 0
  · have hf := (if_pos e1_0).symm.trans hf
    refine j_tabIn C (off := 47) (tgt := 48) dX8_counted_1 (by rw [e1_0]; decide) (by rw [e1_0]; decide) (by rw [e1_0]; decide) (by decide) ?_
    refine j_aload_n C dX8_counted_48 rfl 0 rfl ?_
    refine j_get8 C 0 rfl 1 (by decide) in_X8_counted_8 lk_X8_counted_7 rfl dX8_counted_49 ?_
    refine j_iconst C (v := 0) dX8_counted_52 (by decide) ?_
    refine j_iald C 1 rfl (by unfold vp_in; decide) dX8_counted_53 ?_
    obtain rfl := Option.some.inj hf
    exact j_iret C hQ rfl dX8_counted_54 (Nat.zero_le _) (Nat.zero_le _) ⟨rfl, rfl⟩
  have hf := (if_neg e1_0).symm.trans hf
  by_cases e1_1 : p1 = 1
  · have hf := (if_pos e1_1).symm.trans hf
    refine j_tabIn C (off := 54) (tgt := 55) dX8_counted_1 (by rw [e1_1]; decide) (by rw [e1_1]; decide) (by rw [e1_1]; decide) (by decide) ?_
    refine j_aload_n C dX8_counted_55 rfl 0 rfl ?_
    refine j_get8 C 0 rfl 1 (by decide) in_X8_counted_8 lk_X8_counted_7 rfl dX8_counted_56 ?_
    refine j_iconst C (v := 1) dX8_counted_59 (by decide) ?_
    refine j_iald C 1 rfl (by unfold vp_in; decide) dX8_counted_60 ?_
    obtain rfl := Option.some.inj hf
    exact j_iret C hQ rfl dX8_counted_61 (Nat.zero_le _) (Nat.zero_le _) ⟨rfl, rfl⟩
  have hf := (if_neg e1_1).symm.trans hf
  by_cases e1_2 : p1 = 2
  · have hf := (if_pos e1_2).symm.trans hf
    refine j_tabIn C (off := 61) (tgt := 62) dX8_counted_1 (by rw [e1_2]; decide) (by rw [e1_2]; decide) (by rw [e1_2]; decide) (by decide) ?_
    refine j_loc [0, 1] rfl ?_
    exact k62  hf
  have hf := (if_neg e1_2).symm.trans hf
  by_cases e1_3 : p1 = 3
  · have hf := (if_pos e1_3).symm.trans hf
    refine j_tabIn C (off := 61) (tgt := 62) dX8_counted_1 (by rw [e1_3]; decide) (by rw [e1_3]; decide) (by rw [e1_3]; decide) (by decide) ?_
    refine j_loc [0, 1] rfl ?_
    exact k62  hf
  have hf := (if_neg e1_3).symm.trans hf
  by_cases e1_4 : p1 = 4
  · have hf := (if_pos e1_4).symm.trans hf
    refine j_tabIn C (off := 76) (tgt := 77) dX8_counted_1 (by rw [e1_4]; decide) (by rw [e1_4]; decide) (by rw [e1_4]; decide) (by decide) ?_
    refine j_aload_n C dX8_counted_77 rfl 0 rfl ?_
    obtain ⟨r78, hc78, hf⟩ := Option.bind_eq_some_iff.mp hf
    refine j_cV C (b_X8_room X.1 hl h8 qz qv qp qf qo mT mZ mU mV mP mB mY mR mO mS mW mH r78 hc78) k_X8_room gX8_counted_X8_room rfl (ci := 8) (q0 := 0) rfl rfl (As := []) (rest := []) (st' := [.int r78]) (ws' := [(h8, .inr (8, [.int mT, .ref qz, .ref qv, .int mV, .ref qp, .ref qf, .int mY, .ref qo, .int mO, .int mS, .int mW, .long mH])), (qz, .inl (gI X.1, 1027, .inl mZ)), (qv, .inl (gI X.1, 6162, .inl mU)), (qp, .inl (gI X.1, 512, .inl mP)), (qf, .inl (gI X.1, 60, .inl mB)), (qo, .inl (gI X.1, 60, .inl mR))]) rfl rfl dX8_counted_78 [0, 1, 2, 3, 4, 5] [] [0, 1, 2, 3, 4, 5] rfl rfl rfl rfl rfl rfl ?_
    obtain rfl := Option.some.inj hf
    exact j_iret C hQ rfl dX8_counted_81 (Nat.zero_le _) (Nat.zero_le _) ⟨rfl, rfl⟩
  have hf := (if_neg e1_4).symm.trans hf
  by_cases e1_5 : p1 = 5
  · have hf := (if_pos e1_5).symm.trans hf
    refine j_tabIn C (off := 81) (tgt := 82) dX8_counted_1 (by rw [e1_5]; decide) (by rw [e1_5]; decide) (by rw [e1_5]; decide) (by decide) ?_
    refine j_loc [0, 1] rfl ?_
    exact k82  hf
  have hf := (if_neg e1_5).symm.trans hf
  by_cases e1_6 : p1 = 6
  · have hf := (if_pos e1_6).symm.trans hf
    refine j_tabIn C (off := 81) (tgt := 82) dX8_counted_1 (by rw [e1_6]; decide) (by rw [e1_6]; decide) (by rw [e1_6]; decide) (by decide) ?_
    refine j_loc [0, 1] rfl ?_
    exact k82  hf
  have hf := (if_neg e1_6).symm.trans hf
  by_cases e1_7 : p1 = 7
  · have hf := (if_pos e1_7).symm.trans hf
    refine j_tabIn C (off := 81) (tgt := 82) dX8_counted_1 (by rw [e1_7]; decide) (by rw [e1_7]; decide) (by rw [e1_7]; decide) (by decide) ?_
    refine j_loc [0, 1] rfl ?_
    exact k82  hf
  have hf := (if_neg e1_7).symm.trans hf
  have t1_0 : p1.toInt ≠ 0 := fun h => e1_0 (Int32.toInt_inj.mp h)
  have t1_1 : p1.toInt ≠ 1 := fun h => e1_1 (Int32.toInt_inj.mp h)
  have t1_2 : p1.toInt ≠ 2 := fun h => e1_2 (Int32.toInt_inj.mp h)
  have t1_3 : p1.toInt ≠ 3 := fun h => e1_3 (Int32.toInt_inj.mp h)
  have t1_4 : p1.toInt ≠ 4 := fun h => e1_4 (Int32.toInt_inj.mp h)
  have t1_5 : p1.toInt ≠ 5 := fun h => e1_5 (Int32.toInt_inj.mp h)
  have t1_6 : p1.toInt ≠ 6 := fun h => e1_6 (Int32.toInt_inj.mp h)
  have t1_7 : p1.toInt ≠ 7 := fun h => e1_7 (Int32.toInt_inj.mp h)
  refine j_tabOut C (tgt := 90) dX8_counted_1 (by omega) (by decide) ?_
  refine j_aload_n C dX8_counted_90 rfl 0 rfl ?_
  refine j_get8 C 0 rfl 3 (by decide) in_X8_counted_8 lk_X8_counted_45 rfl dX8_counted_91 ?_
  obtain rfl := Option.some.inj hf
  exact j_iret C hQ rfl dX8_counted_94 (Nat.zero_le _) (Nat.zero_le _) ⟨rfl, rfl⟩

theorem lk_X8_count_25 : Cond.fieldLink RX8 25 (TX8 0).1 (TX8 0).2.1 (TX8 0).2.2.1 ∈ wsX8_count := by decide +kernel
theorem in_X8_count_8 : ∀ w ∈ wsX80, w ∈ wsX8_count := by decide +kernel
def f_X8_count_J16 (p1 : Int32) (mZ : (Nat → Int32)) (mV : Int32) (s16_0 : Int32) : Option (Int32 × Int32) :=
  if s16_0 ≤ 0 then Option.bind (f_X8_counted p1 mZ mV) (fun r32 => some ((r32, s16_0))) else some ((0, s16_0))
def f_X8_count (p1 : Int32) (mZ : (Nat → Int32)) (mV : Int32) : Option (Int32 × Int32) :=
  if (f_X8_in p1 0 8) = 0 then (f_X8_count_J16 p1 mZ mV 1) else (f_X8_count_J16 p1 mZ mV 0)
abbrev rm_X8_count : Room := { frames := 11, cells := 0, slots := 0, locals := 243 }
theorem k_X8_count : Cf yX8_count wsX8_count rm_X8_count cX8_count 2 (some .int) 1 := ⟨⟨_, rfl⟩, by decide +kernel, by decide +kernel, by decide +kernel⟩
set_option maxRecDepth 100000 in
set_option maxHeartbeats 4000000 in
theorem b_X8_count (G : CG) (hl : (gL G).stackTraces = false) (h8 : Nat) (qz : Nat) (qv : Nat) (qp : Nat) (qf : Nat) (qo : Nat) (mT : Int32) (mZ : (Nat → Int32)) (mU : (Nat → Int32)) (mV : Int32) (mP : (Nat → Int32)) (mB : (Nat → Int32)) (mY : Int32) (mR : (Nat → Int32)) (mO : Int32) (mS : Int32) (mW : Int32) (mH : Int64) (p1 : Int32) (y : Int32 × Int32) (hf : f_X8_count p1 mZ mV = some y) : Ct G yX8_count wsX8_count rm_X8_count [.ref h8, .int p1] [(h8, .inr (8, [.int mT, .ref qz, .ref qv, .int mV, .ref qp, .ref qf, .int mY, .ref qo, .int mO, .int mS, .int mW, .long mH])), (qz, .inl (gI G, 1027, .inl mZ)), (qv, .inl (gI G, 6162, .inl mU)), (qp, .inl (gI G, 512, .inl mP)), (qf, .inl (gI G, 60, .inl mB)), (qo, .inl (gI G, 60, .inl mR))] (fin1 (some (.int y.1)) [(h8, .inr (8, [.int y.2, .ref qz, .ref qv, .int mV, .ref qp, .ref qf, .int mY, .ref qo, .int mO, .int mS, .int mW, .long mH])), (qz, .inl (gI G, 1027, .inl mZ)), (qv, .inl (gI G, 6162, .inl mU)), (qp, .inl (gI G, 512, .inl mP)), (qf, .inl (gI G, 60, .inl mB)), (qo, .inl (gI G, 60, .inl mR))]) 0 0 := by
  refine Ct.of (cc := cX8_count) (N := 2) (ret := (some .int)) RX8 (by decide) rfl rfl hl (Nat.le_of_ble_eq_true rfl) (lv := [(0, .ref h8), (1, .int p1)]) rfl (fun X hXG C hex hnm hQ => ?_)
  subst hXG
  unfold f_X8_count at hf
  refine j_aload_n C dX8_count_0 rfl 0 rfl ?_
  refine j_iload_n C dX8_count_1 rfl 1 rfl ?_
  refine j_iconst C (v := 0) dX8_count_2 (by decide) ?_
  refine j_bipush C (v := 8) dX8_count_3 (by decide) ?_
  refine j_cS C (c_X8_in X.1 hl p1 0 8) k_X8_in gX8_count_X8_in (As := [.int p1, .int 0, .int 8]) (rest := [.ref h8]) (st' := [.int (f_X8_in p1 0 8), .ref h8]) (ws' := [(h8, .inr (8, [.int mT, .ref qz, .ref qv, .int mV, .ref qp, .ref qf, .int mY, .ref qo, .int mO, .int mS, .int mW, .long mH])), (qz, .inl (gI X.1, 1027, .inl mZ)), (qv, .inl (gI X.1, 6162, .inl mU)), (qp, .inl (gI X.1, 512, .inl mP)), (qf, .inl (gI X.1, 60, .inl mB)), (qo, .inl (gI X.1, 60, .inl mR))]) rfl rfl dX8_count_5 [] [0, 1, 2, 3, 4, 5] [0, 1, 2, 3, 4, 5] rfl rfl rfl rfl rfl rfl ?_
  have k16 : ∀ (s16_0 : Int32), f_X8_count_J16 p1 mZ mV s16_0 = some y → Jt X [(h8, .inr (8, [.int mT, .ref qz, .ref qv, .int mV, .ref qp, .ref qf, .int mY, .ref qo, .int mO, .int mS, .int mW, .long mH])), (qz, .inl (gI X.1, 1027, .inl mZ)), (qv, .inl (gI X.1, 6162, .inl mU)), (qp, .inl (gI X.1, 512, .inl mP)), (qf, .inl (gI X.1, 60, .inl mB)), (qo, .inl (gI X.1, 60, .inl mR))] 0 0 16 [(0, .ref h8), (1, .int p1)] [.int s16_0, .ref h8] := by
    intro s16_0 hf
    unfold f_X8_count_J16 at hf
    refine j_put8 (ty := .int) (ws' := [(h8, .inr (8, [.int s16_0, .ref qz, .ref qv, .int mV, .ref qp, .ref qf, .int mY, .ref qo, .int mO, .int mS, .int mW, .long mH])), (qz, .inl (gI X.1, 1027, .inl mZ)), (qv, .inl (gI X.1, 6162, .inl mU)), (qp, .inl (gI X.1, 512, .inl mP)), (qf, .inl (gI X.1, 60, .inl mB)), (qo, .inl (gI X.1, 60, .inl mR))]) C 0 rfl 0 (by decide) in_X8_count_8 lk_X8_count_25 rfl (by decide +kernel) rfl rfl (Nat.le_of_ble_eq_true rfl) rfl dX8_count_16 ?_
    refine j_aload_n C dX8_count_19 rfl 0 rfl ?_
    refine j_get8 C 0 rfl 0 (by decide) in_X8_count_8 lk_X8_count_25 rfl dX8_count_20 ?_
    refine j_if_le C (tgt := 30) dX8_count_23 (by decide) (fun e23 => ?_) (fun e23 => ?_)
    · have hf := (if_pos e23).symm.trans hf
      refine j_aload_n C dX8_count_30 rfl 0 rfl ?_
      refine j_iload_n C dX8_count_31 rfl 1 rfl ?_
      obtain ⟨r32, hc32, hf⟩ := Option.bind_eq_some_iff.mp hf
      refine j_cV C (b_X8_counted X.1 hl h8 qz qv qp qf qo s16_0 mZ mU mV mP mB mY mR mO mS mW mH p1 r32 hc32) k_X8_counted gX8_count_X8_counted rfl (ci := 8) (q0 := 0) rfl rfl (As := [.int p1]) (rest := []) (st' := [.int r32]) (ws' := [(h8, .inr (8, [.int s16_0, .ref qz, .ref qv, .int mV, .ref qp, .ref qf, .int mY, .ref qo, .int mO, .int mS, .int mW, .long mH])), (qz, .inl (gI X.1, 1027, .inl mZ)), (qv, .inl (gI X.1, 6162, .inl mU)), (qp, .inl (gI X.1, 512, .inl mP)), (qf, .inl (gI X.1, 60, .inl mB)), (qo, .inl (gI X.1, 60, .inl mR))]) rfl rfl dX8_count_32 [0, 1, 2, 3, 4, 5] [] [0, 1, 2, 3, 4, 5] rfl rfl rfl rfl rfl rfl ?_
      obtain rfl := Option.some.inj hf
      exact j_iret C hQ rfl dX8_count_35 (Nat.zero_le _) (Nat.zero_le _) ⟨rfl, rfl⟩
    · have hf := (if_neg e23).symm.trans hf
      refine j_iconst C (v := 0) dX8_count_26 (by decide) ?_
      refine j_goto C (tgt := 35) dX8_count_27 (by decide) ?_
      obtain rfl := Option.some.inj hf
      exact j_iret C hQ rfl dX8_count_35 (Nat.zero_le _) (Nat.zero_le _) ⟨rfl, rfl⟩
  refine j_if_eq C (tgt := 15) dX8_count_8 (by decide) (fun e8 => ?_) (fun e8 => ?_)
  · have hf := (if_pos e8).symm.trans hf
    refine j_iconst C (v := 1) dX8_count_15 (by decide) ?_
    refine j_loc [0, 1] rfl ?_
    exact k16 1 hf
  · have hf := (if_neg e8).symm.trans hf
    refine j_iconst C (v := 0) dX8_count_11 (by decide) ?_
    refine j_goto C (tgt := 16) dX8_count_12 (by decide) ?_
    refine j_loc [0, 1] rfl ?_
    exact k16 0 hf

theorem lk_X8_ifKept_25 : Cond.fieldLink RX8 25 (TX8 0).1 (TX8 0).2.1 (TX8 0).2.2.1 ∈ wsX8_ifKept := by decide +kernel
theorem in_X8_ifKept_8 : ∀ w ∈ wsX80, w ∈ wsX8_ifKept := by decide +kernel
def f_X8_ifKept_J13 (p1 : Int32) (mZ : (Nat → Int32)) (s13_0 : Int32) : Option (Int32 × Int32) :=
  if s13_0 ≤ 0 then Option.bind (f_X8_roomBy p1 mZ) (fun r29 => some ((r29, s13_0))) else some ((0, s13_0))
def f_X8_ifKept (p1 : Int32) (mZ : (Nat → Int32)) : Option (Int32 × Int32) :=
  if (f_X8_isAxis p1) = 0 then (f_X8_ifKept_J13 p1 mZ 1) else (f_X8_ifKept_J13 p1 mZ 0)
abbrev rm_X8_ifKept : Room := { frames := 9, cells := 0, slots := 0, locals := 202 }
theorem k_X8_ifKept : Cf yX8_ifKept wsX8_ifKept rm_X8_ifKept cX8_ifKept 2 (some .int) 1 := ⟨⟨_, rfl⟩, by decide +kernel, by decide +kernel, by decide +kernel⟩
set_option maxRecDepth 100000 in
set_option maxHeartbeats 4000000 in
theorem b_X8_ifKept (G : CG) (hl : (gL G).stackTraces = false) (h8 : Nat) (qz : Nat) (qv : Nat) (qp : Nat) (qf : Nat) (qo : Nat) (mT : Int32) (mZ : (Nat → Int32)) (mU : (Nat → Int32)) (mV : Int32) (mP : (Nat → Int32)) (mB : (Nat → Int32)) (mY : Int32) (mR : (Nat → Int32)) (mO : Int32) (mS : Int32) (mW : Int32) (mH : Int64) (p1 : Int32) (y : Int32 × Int32) (hf : f_X8_ifKept p1 mZ = some y) : Ct G yX8_ifKept wsX8_ifKept rm_X8_ifKept [.ref h8, .int p1] [(h8, .inr (8, [.int mT, .ref qz, .ref qv, .int mV, .ref qp, .ref qf, .int mY, .ref qo, .int mO, .int mS, .int mW, .long mH])), (qz, .inl (gI G, 1027, .inl mZ)), (qv, .inl (gI G, 6162, .inl mU)), (qp, .inl (gI G, 512, .inl mP)), (qf, .inl (gI G, 60, .inl mB)), (qo, .inl (gI G, 60, .inl mR))] (fin1 (some (.int y.1)) [(h8, .inr (8, [.int y.2, .ref qz, .ref qv, .int mV, .ref qp, .ref qf, .int mY, .ref qo, .int mO, .int mS, .int mW, .long mH])), (qz, .inl (gI G, 1027, .inl mZ)), (qv, .inl (gI G, 6162, .inl mU)), (qp, .inl (gI G, 512, .inl mP)), (qf, .inl (gI G, 60, .inl mB)), (qo, .inl (gI G, 60, .inl mR))]) 0 0 := by
  refine Ct.of (cc := cX8_ifKept) (N := 2) (ret := (some .int)) RX8 (by decide) rfl rfl hl (Nat.le_of_ble_eq_true rfl) (lv := [(0, .ref h8), (1, .int p1)]) rfl (fun X hXG C hex hnm hQ => ?_)
  subst hXG
  unfold f_X8_ifKept at hf
  refine j_aload_n C dX8_ifKept_0 rfl 0 rfl ?_
  refine j_iload_n C dX8_ifKept_1 rfl 1 rfl ?_
  refine j_cS C (c_X8_isAxis X.1 hl p1) k_X8_isAxis gX8_ifKept_X8_isAxis (As := [.int p1]) (rest := [.ref h8]) (st' := [.int (f_X8_isAxis p1), .ref h8]) (ws' := [(h8, .inr (8, [.int mT, .ref qz, .ref qv, .int mV, .ref qp, .ref qf, .int mY, .ref qo, .int mO, .int mS, .int mW, .long mH])), (qz, .inl (gI X.1, 1027, .inl mZ)), (qv, .inl (gI X.1, 6162, .inl mU)), (qp, .inl (gI X.1, 512, .inl mP)), (qf, .inl (gI X.1, 60, .inl mB)), (qo, .inl (gI X.1, 60, .inl mR))]) rfl rfl dX8_ifKept_2 [] [0, 1, 2, 3, 4, 5] [0, 1, 2, 3, 4, 5] rfl rfl rfl rfl rfl rfl ?_
  have k13 : ∀ (s13_0 : Int32), f_X8_ifKept_J13 p1 mZ s13_0 = some y → Jt X [(h8, .inr (8, [.int mT, .ref qz, .ref qv, .int mV, .ref qp, .ref qf, .int mY, .ref qo, .int mO, .int mS, .int mW, .long mH])), (qz, .inl (gI X.1, 1027, .inl mZ)), (qv, .inl (gI X.1, 6162, .inl mU)), (qp, .inl (gI X.1, 512, .inl mP)), (qf, .inl (gI X.1, 60, .inl mB)), (qo, .inl (gI X.1, 60, .inl mR))] 0 0 13 [(0, .ref h8), (1, .int p1)] [.int s13_0, .ref h8] := by
    intro s13_0 hf
    unfold f_X8_ifKept_J13 at hf
    refine j_put8 (ty := .int) (ws' := [(h8, .inr (8, [.int s13_0, .ref qz, .ref qv, .int mV, .ref qp, .ref qf, .int mY, .ref qo, .int mO, .int mS, .int mW, .long mH])), (qz, .inl (gI X.1, 1027, .inl mZ)), (qv, .inl (gI X.1, 6162, .inl mU)), (qp, .inl (gI X.1, 512, .inl mP)), (qf, .inl (gI X.1, 60, .inl mB)), (qo, .inl (gI X.1, 60, .inl mR))]) C 0 rfl 0 (by decide) in_X8_ifKept_8 lk_X8_ifKept_25 rfl (by decide +kernel) rfl rfl (Nat.le_of_ble_eq_true rfl) rfl dX8_ifKept_13 ?_
    refine j_aload_n C dX8_ifKept_16 rfl 0 rfl ?_
    refine j_get8 C 0 rfl 0 (by decide) in_X8_ifKept_8 lk_X8_ifKept_25 rfl dX8_ifKept_17 ?_
    refine j_if_le C (tgt := 27) dX8_ifKept_20 (by decide) (fun e20 => ?_) (fun e20 => ?_)
    · have hf := (if_pos e20).symm.trans hf
      refine j_aload_n C dX8_ifKept_27 rfl 0 rfl ?_
      refine j_iload_n C dX8_ifKept_28 rfl 1 rfl ?_
      obtain ⟨r29, hc29, hf⟩ := Option.bind_eq_some_iff.mp hf
      refine j_cV C (b_X8_roomBy X.1 hl h8 qz qv qp qf qo s13_0 mZ mU mV mP mB mY mR mO mS mW mH p1 r29 hc29) k_X8_roomBy gX8_ifKept_X8_roomBy rfl (ci := 8) (q0 := 0) rfl rfl (As := [.int p1]) (rest := []) (st' := [.int r29]) (ws' := [(h8, .inr (8, [.int s13_0, .ref qz, .ref qv, .int mV, .ref qp, .ref qf, .int mY, .ref qo, .int mO, .int mS, .int mW, .long mH])), (qz, .inl (gI X.1, 1027, .inl mZ)), (qv, .inl (gI X.1, 6162, .inl mU)), (qp, .inl (gI X.1, 512, .inl mP)), (qf, .inl (gI X.1, 60, .inl mB)), (qo, .inl (gI X.1, 60, .inl mR))]) rfl rfl dX8_ifKept_29 [0, 1, 2, 3, 4, 5] [] [0, 1, 2, 3, 4, 5] rfl rfl rfl rfl rfl rfl ?_
      obtain rfl := Option.some.inj hf
      exact j_iret C hQ rfl dX8_ifKept_32 (Nat.zero_le _) (Nat.zero_le _) ⟨rfl, rfl⟩
    · have hf := (if_neg e20).symm.trans hf
      refine j_iconst C (v := 0) dX8_ifKept_23 (by decide) ?_
      refine j_goto C (tgt := 32) dX8_ifKept_24 (by decide) ?_
      obtain rfl := Option.some.inj hf
      exact j_iret C hQ rfl dX8_ifKept_32 (Nat.zero_le _) (Nat.zero_le _) ⟨rfl, rfl⟩
  refine j_if_eq C (tgt := 12) dX8_ifKept_5 (by decide) (fun e5 => ?_) (fun e5 => ?_)
  · have hf := (if_pos e5).symm.trans hf
    refine j_iconst C (v := 1) dX8_ifKept_12 (by decide) ?_
    refine j_loc [0, 1] rfl ?_
    exact k13 1 hf
  · have hf := (if_neg e5).symm.trans hf
    refine j_iconst C (v := 0) dX8_ifKept_8 (by decide) ?_
    refine j_goto C (tgt := 13) dX8_ifKept_9 (by decide) ?_
    refine j_loc [0, 1] rfl ?_
    exact k13 0 hf

theorem lk_X8_wouldPut_7 : Cond.fieldLink RX8 7 (TX8 1).1 (TX8 1).2.1 (TX8 1).2.2.1 ∈ wsX8_wouldPut := by decide +kernel
theorem in_X8_wouldPut_8 : ∀ w ∈ wsX80, w ∈ wsX8_wouldPut := by decide +kernel
def f_X8_wouldPut_J84 (p1 : Int32) (p2 : Int32) (p3 : Int32) (p4 : Int32) (mZ : (Nat → Int32)) (s84_0 : Int32) : Option (Int32 × (Nat → Int32)) :=
  dz_in (3 + (f_X8_place p1 p2 p3)) 1027 (some ((s84_0, (upd (upd mZ (Int32.toNatClampNeg (3 + (f_X8_place p1 p2 p3))) p4) (Int32.toNatClampNeg (3 + (f_X8_place p1 p2 p3))) (mZ (Int32.toNatClampNeg (3 + (f_X8_place p1 p2 p3))))))))
def f_X8_wouldPut_J58 (p1 : Int32) (p2 : Int32) (p3 : Int32) (p4 : Int32) (p5 : Int32) (mZ : (Nat → Int32)) (s58_0 : Int32) : Option (Int32 × (Nat → Int32)) :=
  if p5 = 0 then Option.bind (f_X8_room (upd mZ (Int32.toNatClampNeg (3 + (f_X8_place p1 p2 p3))) p4)) (fun r66 => (f_X8_wouldPut_J84 p1 p2 p3 p4 mZ r66)) else Option.bind (f_X8_form ((upd mZ (Int32.toNatClampNeg (3 + (f_X8_place p1 p2 p3))) p4) 1) s58_0 (upd mZ (Int32.toNatClampNeg (3 + (f_X8_place p1 p2 p3))) p4)) (fun r81 => (f_X8_wouldPut_J84 p1 p2 p3 p4 mZ r81))
def f_X8_wouldPut (p1 : Int32) (p2 : Int32) (p3 : Int32) (p4 : Int32) (p5 : Int32) (mZ : (Nat → Int32)) : Option (Int32 × (Nat → Int32)) :=
  dz_in (3 + (f_X8_place p1 p2 p3)) 1027 (dz_in (3 + (f_X8_place p1 p2 p3)) 1027 (if ((upd mZ (Int32.toNatClampNeg (3 + (f_X8_place p1 p2 p3))) p4) 1) = 0 then (f_X8_wouldPut_J58 p1 p2 p3 p4 p5 mZ p1) else if ((upd mZ (Int32.toNatClampNeg (3 + (f_X8_place p1 p2 p3))) p4) 1) = 1 then (f_X8_wouldPut_J58 p1 p2 p3 p4 p5 mZ p2) else (f_X8_wouldPut_J58 p1 p2 p3 p4 p5 mZ p3)))
abbrev rm_X8_wouldPut : Room := { frames := 10, cells := 0, slots := 0, locals := 222 }
theorem k_X8_wouldPut : Cf yX8_wouldPut wsX8_wouldPut rm_X8_wouldPut cX8_wouldPut 10 (some .int) 5 := ⟨⟨_, rfl⟩, by decide +kernel, by decide +kernel, by decide +kernel⟩
set_option maxRecDepth 100000 in
set_option maxHeartbeats 4000000 in
theorem b_X8_wouldPut (G : CG) (hl : (gL G).stackTraces = false) (h8 : Nat) (qz : Nat) (qv : Nat) (qp : Nat) (qf : Nat) (qo : Nat) (mT : Int32) (mZ : (Nat → Int32)) (mU : (Nat → Int32)) (mV : Int32) (mP : (Nat → Int32)) (mB : (Nat → Int32)) (mY : Int32) (mR : (Nat → Int32)) (mO : Int32) (mS : Int32) (mW : Int32) (mH : Int64) (p1 : Int32) (p2 : Int32) (p3 : Int32) (p4 : Int32) (p5 : Int32) (y : Int32 × (Nat → Int32)) (hf : f_X8_wouldPut p1 p2 p3 p4 p5 mZ = some y) : Ct G yX8_wouldPut wsX8_wouldPut rm_X8_wouldPut [.ref h8, .int p1, .int p2, .int p3, .int p4, .int p5] [(h8, .inr (8, [.int mT, .ref qz, .ref qv, .int mV, .ref qp, .ref qf, .int mY, .ref qo, .int mO, .int mS, .int mW, .long mH])), (qz, .inl (gI G, 1027, .inl mZ)), (qv, .inl (gI G, 6162, .inl mU)), (qp, .inl (gI G, 512, .inl mP)), (qf, .inl (gI G, 60, .inl mB)), (qo, .inl (gI G, 60, .inl mR))] (fin1 (some (.int y.1)) [(h8, .inr (8, [.int mT, .ref qz, .ref qv, .int mV, .ref qp, .ref qf, .int mY, .ref qo, .int mO, .int mS, .int mW, .long mH])), (qz, .inl (gI G, 1027, .inl y.2)), (qv, .inl (gI G, 6162, .inl mU)), (qp, .inl (gI G, 512, .inl mP)), (qf, .inl (gI G, 60, .inl mB)), (qo, .inl (gI G, 60, .inl mR))]) 0 0 := by
  refine Ct.of (cc := cX8_wouldPut) (N := 10) (ret := (some .int)) RX8 (by decide) rfl rfl hl (Nat.le_of_ble_eq_true rfl) (lv := [(0, .ref h8), (1, .int p1), (2, .int p2), (3, .int p3), (4, .int p4), (5, .int p5)]) rfl (fun X hXG C hex hnm hQ => ?_)
  subst hXG
  unfold f_X8_wouldPut at hf
  refine j_iload_n C dX8_wouldPut_0 rfl 1 rfl ?_
  refine j_iload_n C dX8_wouldPut_1 rfl 2 rfl ?_
  refine j_iload_n C dX8_wouldPut_2 rfl 3 rfl ?_
  refine j_cS C (c_X8_place X.1 hl p1 p2 p3) k_X8_place gX8_wouldPut_X8_place (As := [.int p1, .int p2, .int p3]) (rest := []) (st' := [.int (f_X8_place p1 p2 p3)]) (ws' := [(h8, .inr (8, [.int mT, .ref qz, .ref qv, .int mV, .ref qp, .ref qf, .int mY, .ref qo, .int mO, .int mS, .int mW, .long mH])), (qz, .inl (gI X.1, 1027, .inl mZ)), (qv, .inl (gI X.1, 6162, .inl mU)), (qp, .inl (gI X.1, 512, .inl mP)), (qf, .inl (gI X.1, 60, .inl mB)), (qo, .inl (gI X.1, 60, .inl mR))]) rfl rfl dX8_wouldPut_3 [] [0, 1, 2, 3, 4, 5] [0, 1, 2, 3, 4, 5] rfl rfl rfl rfl rfl rfl ?_
  refine j_istore (lv' := [(6, .int (f_X8_place p1 p2 p3)), (0, .ref h8), (1, .int p1), (2, .int p2), (3, .int p3), (4, .int p4), (5, .int p5)]) C dX8_wouldPut_6 (by decide) rfl ?_
  refine j_aload_n C dX8_wouldPut_8 rfl 1 rfl ?_
  refine j_get8 C 0 rfl 1 (by decide) in_X8_wouldPut_8 lk_X8_wouldPut_7 rfl dX8_wouldPut_9 ?_
  refine j_iconst C (v := 3) dX8_wouldPut_12 (by decide) ?_
  refine j_iload C dX8_wouldPut_13 0 rfl ?_
  refine j_iadd C dX8_wouldPut_15 ?_
  obtain ⟨z16, hf⟩ := dz_in_some hf
  refine j_iald C 1 rfl z16 dX8_wouldPut_16 ?_
  refine j_istore (lv' := [(7, .int (mZ (Int32.toNatClampNeg (3 + (f_X8_place p1 p2 p3))))), (6, .int (f_X8_place p1 p2 p3)), (0, .ref h8), (1, .int p1), (2, .int p2), (3, .int p3), (4, .int p4), (5, .int p5)]) C dX8_wouldPut_17 (by decide) rfl ?_
  refine j_aload_n C dX8_wouldPut_19 rfl 2 rfl ?_
  refine j_get8 C 0 rfl 1 (by decide) in_X8_wouldPut_8 lk_X8_wouldPut_7 rfl dX8_wouldPut_20 ?_
  refine j_iconst C (v := 3) dX8_wouldPut_23 (by decide) ?_
  refine j_iload C dX8_wouldPut_24 1 rfl ?_
  refine j_iadd C dX8_wouldPut_26 ?_
  refine j_iload C dX8_wouldPut_27 6 rfl ?_
  obtain ⟨z29, hf⟩ := dz_in_some hf
  refine j_iast (ws' := [(h8, .inr (8, [.int mT, .ref qz, .ref qv, .int mV, .ref qp, .ref qf, .int mY, .ref qo, .int mO, .int mS, .int mW, .long mH])), (qz, .inl (gI X.1, 1027, .inl (upd mZ (Int32.toNatClampNeg (3 + (f_X8_place p1 p2 p3))) p4))), (qv, .inl (gI X.1, 6162, .inl mU)), (qp, .inl (gI X.1, 512, .inl mP)), (qf, .inl (gI X.1, 60, .inl mB)), (qo, .inl (gI X.1, 60, .inl mR))]) C 1 rfl z29 rfl dX8_wouldPut_29 ?_
  refine j_aload_n C dX8_wouldPut_30 rfl 2 rfl ?_
  refine j_get8 C 0 rfl 1 (by decide) in_X8_wouldPut_8 lk_X8_wouldPut_7 rfl dX8_wouldPut_31 ?_
  refine j_iconst C (v := 1) dX8_wouldPut_34 (by decide) ?_
  refine j_iald C 1 rfl (by unfold vp_in; decide) dX8_wouldPut_35 ?_
  have k58 : ∀ (s58_0 : Int32), f_X8_wouldPut_J58 p1 p2 p3 p4 p5 mZ s58_0 = some y → Jt X [(h8, .inr (8, [.int mT, .ref qz, .ref qv, .int mV, .ref qp, .ref qf, .int mY, .ref qo, .int mO, .int mS, .int mW, .long mH])), (qz, .inl (gI X.1, 1027, .inl (upd mZ (Int32.toNatClampNeg (3 + (f_X8_place p1 p2 p3))) p4))), (qv, .inl (gI X.1, 6162, .inl mU)), (qp, .inl (gI X.1, 512, .inl mP)), (qf, .inl (gI X.1, 60, .inl mB)), (qo, .inl (gI X.1, 60, .inl mR))] 0 0 58 [(0, .ref h8), (1, .int p1), (2, .int p2), (3, .int p3), (4, .int p4), (5, .int p5), (6, .int (f_X8_place p1 p2 p3)), (7, .int (mZ (Int32.toNatClampNeg (3 + (f_X8_place p1 p2 p3)))))] [.int s58_0] := by
    intro s58_0 hf
    unfold f_X8_wouldPut_J58 at hf
    refine j_istore (lv' := [(8, .int s58_0), (0, .ref h8), (1, .int p1), (2, .int p2), (3, .int p3), (4, .int p4), (5, .int p5), (6, .int (f_X8_place p1 p2 p3)), (7, .int (mZ (Int32.toNatClampNeg (3 + (f_X8_place p1 p2 p3)))))]) C dX8_wouldPut_58 (by decide) rfl ?_
    refine j_iload C dX8_wouldPut_60 6 rfl ?_
    have k84 : ∀ (s84_0 : Int32), f_X8_wouldPut_J84 p1 p2 p3 p4 mZ s84_0 = some y → Jt X [(h8, .inr (8, [.int mT, .ref qz, .ref qv, .int mV, .ref qp, .ref qf, .int mY, .ref qo, .int mO, .int mS, .int mW, .long mH])), (qz, .inl (gI X.1, 1027, .inl (upd mZ (Int32.toNatClampNeg (3 + (f_X8_place p1 p2 p3))) p4))), (qv, .inl (gI X.1, 6162, .inl mU)), (qp, .inl (gI X.1, 512, .inl mP)), (qf, .inl (gI X.1, 60, .inl mB)), (qo, .inl (gI X.1, 60, .inl mR))] 0 0 84 [(0, .ref h8), (1, .int p1), (2, .int p2), (3, .int p3), (4, .int p4), (5, .int p5), (6, .int (f_X8_place p1 p2 p3)), (7, .int (mZ (Int32.toNatClampNeg (3 + (f_X8_place p1 p2 p3))))), (8, .int s58_0)] [.int s84_0] := by
      intro s84_0 hf
      unfold f_X8_wouldPut_J84 at hf
      refine j_istore (lv' := [(9, .int s84_0), (0, .ref h8), (1, .int p1), (2, .int p2), (3, .int p3), (4, .int p4), (5, .int p5), (6, .int (f_X8_place p1 p2 p3)), (7, .int (mZ (Int32.toNatClampNeg (3 + (f_X8_place p1 p2 p3))))), (8, .int s58_0)]) C dX8_wouldPut_84 (by decide) rfl ?_
      refine j_aload_n C dX8_wouldPut_86 rfl 1 rfl ?_
      refine j_get8 C 0 rfl 1 (by decide) in_X8_wouldPut_8 lk_X8_wouldPut_7 rfl dX8_wouldPut_87 ?_
      refine j_iconst C (v := 3) dX8_wouldPut_90 (by decide) ?_
      refine j_iload C dX8_wouldPut_91 7 rfl ?_
      refine j_iadd C dX8_wouldPut_93 ?_
      refine j_iload C dX8_wouldPut_94 8 rfl ?_
      obtain ⟨z96, hf⟩ := dz_in_some hf
      refine j_iast (ws' := [(h8, .inr (8, [.int mT, .ref qz, .ref qv, .int mV, .ref qp, .ref qf, .int mY, .ref qo, .int mO, .int mS, .int mW, .long mH])), (qz, .inl (gI X.1, 1027, .inl (upd (upd mZ (Int32.toNatClampNeg (3 + (f_X8_place p1 p2 p3))) p4) (Int32.toNatClampNeg (3 + (f_X8_place p1 p2 p3))) (mZ (Int32.toNatClampNeg (3 + (f_X8_place p1 p2 p3))))))), (qv, .inl (gI X.1, 6162, .inl mU)), (qp, .inl (gI X.1, 512, .inl mP)), (qf, .inl (gI X.1, 60, .inl mB)), (qo, .inl (gI X.1, 60, .inl mR))]) C 1 rfl z96 rfl dX8_wouldPut_96 ?_
      refine j_iload C dX8_wouldPut_97 0 rfl ?_
      obtain rfl := Option.some.inj hf
      exact j_iret C hQ rfl dX8_wouldPut_99 (Nat.zero_le _) (Nat.zero_le _) ⟨rfl, rfl⟩
    refine j_if_ne C (tgt := 72) dX8_wouldPut_62 (by decide) (fun e62 => ?_) (fun e62 => ?_)
    · have hf := (if_neg e62).symm.trans hf
      refine j_aload_n C dX8_wouldPut_72 rfl 1 rfl ?_
      refine j_aload_n C dX8_wouldPut_73 rfl 1 rfl ?_
      refine j_get8 C 0 rfl 1 (by decide) in_X8_wouldPut_8 lk_X8_wouldPut_7 rfl dX8_wouldPut_74 ?_
      refine j_iconst C (v := 1) dX8_wouldPut_77 (by decide) ?_
      refine j_iald C 1 rfl (by unfold vp_in; decide) dX8_wouldPut_78 ?_
      refine j_iload C dX8_wouldPut_79 0 rfl ?_
      obtain ⟨r81, hc81, hf⟩ := Option.bind_eq_some_iff.mp hf
      refine j_cV C (b_X8_form X.1 hl h8 qz qv qp qf qo mT (upd mZ (Int32.toNatClampNeg (3 + (f_X8_place p1 p2 p3))) p4) mU mV mP mB mY mR mO mS mW mH ((upd mZ (Int32.toNatClampNeg (3 + (f_X8_place p1 p2 p3))) p4) 1) s58_0 r81 hc81) k_X8_form gX8_wouldPut_X8_form rfl (ci := 8) (q0 := 0) rfl rfl (As := [.int ((upd mZ (Int32.toNatClampNeg (3 + (f_X8_place p1 p2 p3))) p4) 1), .int s58_0]) (rest := []) (st' := [.int r81]) (ws' := [(h8, .inr (8, [.int mT, .ref qz, .ref qv, .int mV, .ref qp, .ref qf, .int mY, .ref qo, .int mO, .int mS, .int mW, .long mH])), (qz, .inl (gI X.1, 1027, .inl (upd mZ (Int32.toNatClampNeg (3 + (f_X8_place p1 p2 p3))) p4))), (qv, .inl (gI X.1, 6162, .inl mU)), (qp, .inl (gI X.1, 512, .inl mP)), (qf, .inl (gI X.1, 60, .inl mB)), (qo, .inl (gI X.1, 60, .inl mR))]) rfl rfl dX8_wouldPut_81 [0, 1, 2, 3, 4, 5] [] [0, 1, 2, 3, 4, 5] rfl rfl rfl rfl rfl rfl ?_
      refine j_loc [1, 2, 3, 4, 5, 6, 7, 8, 0] rfl ?_
      exact k84 r81 hf
    · have hf := (if_pos e62).symm.trans hf
      refine j_aload_n C dX8_wouldPut_65 rfl 1 rfl ?_
      obtain ⟨r66, hc66, hf⟩ := Option.bind_eq_some_iff.mp hf
      refine j_cV C (b_X8_room X.1 hl h8 qz qv qp qf qo mT (upd mZ (Int32.toNatClampNeg (3 + (f_X8_place p1 p2 p3))) p4) mU mV mP mB mY mR mO mS mW mH r66 hc66) k_X8_room gX8_wouldPut_X8_room rfl (ci := 8) (q0 := 0) rfl rfl (As := []) (rest := []) (st' := [.int r66]) (ws' := [(h8, .inr (8, [.int mT, .ref qz, .ref qv, .int mV, .ref qp, .ref qf, .int mY, .ref qo, .int mO, .int mS, .int mW, .long mH])), (qz, .inl (gI X.1, 1027, .inl (upd mZ (Int32.toNatClampNeg (3 + (f_X8_place p1 p2 p3))) p4))), (qv, .inl (gI X.1, 6162, .inl mU)), (qp, .inl (gI X.1, 512, .inl mP)), (qf, .inl (gI X.1, 60, .inl mB)), (qo, .inl (gI X.1, 60, .inl mR))]) rfl rfl dX8_wouldPut_66 [0, 1, 2, 3, 4, 5] [] [0, 1, 2, 3, 4, 5] rfl rfl rfl rfl rfl rfl ?_
      refine j_goto C (tgt := 84) dX8_wouldPut_69 (by decide) ?_
      refine j_loc [1, 2, 3, 4, 5, 6, 7, 8, 0] rfl ?_
      exact k84 r66 hf
  refine j_if_ne C (tgt := 43) dX8_wouldPut_36 (by decide) (fun e36 => ?_) (fun e36 => ?_)
  · have hf := (if_neg e36).symm.trans hf
    refine j_aload_n C dX8_wouldPut_43 rfl 2 rfl ?_
    refine j_get8 C 0 rfl 1 (by decide) in_X8_wouldPut_8 lk_X8_wouldPut_7 rfl dX8_wouldPut_44 ?_
    refine j_iconst C (v := 1) dX8_wouldPut_47 (by decide) ?_
    refine j_iald C 1 rfl (by unfold vp_in; decide) dX8_wouldPut_48 ?_
    refine j_iconst C (v := 1) dX8_wouldPut_49 (by decide) ?_
    refine j_icmp_ne C (tgt := 57) dX8_wouldPut_50 (by decide) (fun e50 => ?_) (fun e50 => ?_)
    · have hf := (if_neg e50).symm.trans hf
      refine j_iload_n C dX8_wouldPut_57 rfl 5 rfl ?_
      refine j_loc [2, 3, 4, 5, 6, 7, 1, 0] rfl ?_
      exact k58 p3 hf
    · have hf := (if_pos e50).symm.trans hf
      refine j_iload_n C dX8_wouldPut_53 rfl 4 rfl ?_
      refine j_goto C (tgt := 58) dX8_wouldPut_54 (by decide) ?_
      refine j_loc [2, 3, 4, 5, 6, 7, 1, 0] rfl ?_
      exact k58 p2 hf
  · have hf := (if_pos e36).symm.trans hf
    refine j_iload_n C dX8_wouldPut_39 rfl 3 rfl ?_
    refine j_goto C (tgt := 58) dX8_wouldPut_40 (by decide) ?_
    refine j_loc [2, 3, 4, 5, 6, 7, 1, 0] rfl ?_
    exact k58 p1 hf

end
