noncomputable section
theorem lk_X8_putAside_16 : Cond.fieldLink RX8 16 (TX8 4).1 (TX8 4).2.1 (TX8 4).2.2.1 ∈ wsX8_putAside := by decide +kernel
theorem in_X8_putAside_8 : ∀ w ∈ wsX80, w ∈ wsX8_putAside := by decide +kernel
theorem lk_X8_putAside_7 : Cond.fieldLink RX8 7 (TX8 1).1 (TX8 1).2.1 (TX8 1).2.2.1 ∈ wsX8_putAside := by decide +kernel
def f_X8_putAside_L2 (mZ : (Nat → Int32)) (x2_1 : Int32) (mP_2 : (Nat → Int32)) : Option ((Int32 × (Nat → Int32)) ⊕ ((Nat → Int32))) :=
  if 512 ≤ x2_1 then some (.inr (mP_2)) else dz_in (3 + x2_1) 1027 (dz_in x2_1 512 (some (.inl ((x2_1 + 1), (upd mP_2 (Int32.toNatClampNeg x2_1) (mZ (Int32.toNatClampNeg (3 + x2_1))))))))
def f_X8_putAside (mZ : (Nat → Int32)) (mP : (Nat → Int32)) : Option ((Nat → Int32)) :=
  dz_it (fun s : Int32 × (Nat → Int32) => f_X8_putAside_L2 mZ s.1 s.2) (0, mP)
abbrev rm_X8_putAside : Room := { frames := 1, cells := 0, slots := 0, locals := 16 }
theorem k_X8_putAside : Cf yX8_putAside wsX8_putAside rm_X8_putAside cX8_putAside 2 none 0 := ⟨⟨_, rfl⟩, by decide +kernel, by decide +kernel, by decide +kernel⟩
set_option maxRecDepth 100000 in
set_option maxHeartbeats 4000000 in
theorem b_X8_putAside (G : CG) (hl : (gL G).stackTraces = false) (h8 : Nat) (qz : Nat) (qv : Nat) (qp : Nat) (qf : Nat) (qo : Nat) (mT : Int32) (mZ : (Nat → Int32)) (mU : (Nat → Int32)) (mV : Int32) (mP : (Nat → Int32)) (mB : (Nat → Int32)) (mY : Int32) (mR : (Nat → Int32)) (mO : Int32) (mS : Int32) (mW : Int32) (mH : Int64) (y : (Nat → Int32)) (hf : f_X8_putAside mZ mP = some y) : Ct G yX8_putAside wsX8_putAside rm_X8_putAside [.ref h8] [(h8, .inr (8, [.int mT, .ref qz, .ref qv, .int mV, .ref qp, .ref qf, .int mY, .ref qo, .int mO, .int mS, .int mW, .long mH])), (qz, .inl (gI G, 1027, .inl mZ)), (qv, .inl (gI G, 6162, .inl mU)), (qp, .inl (gI G, 512, .inl mP)), (qf, .inl (gI G, 60, .inl mB)), (qo, .inl (gI G, 60, .inl mR))] (fin1 none [(h8, .inr (8, [.int mT, .ref qz, .ref qv, .int mV, .ref qp, .ref qf, .int mY, .ref qo, .int mO, .int mS, .int mW, .long mH])), (qz, .inl (gI G, 1027, .inl mZ)), (qv, .inl (gI G, 6162, .inl mU)), (qp, .inl (gI G, 512, .inl y)), (qf, .inl (gI G, 60, .inl mB)), (qo, .inl (gI G, 60, .inl mR))]) 0 0 := by
  refine Ct.of (cc := cX8_putAside) (N := 2) (ret := none) RX8 (by decide) rfl rfl hl (Nat.le_of_ble_eq_true rfl) (lv := [(0, .ref h8)]) rfl (fun X hXG C hex hnm hQ => ?_)
  subst hXG
  unfold f_X8_putAside at hf
  refine j_iconst C (v := 0) dX8_putAside_0 (by decide) ?_
  refine j_istore_n (lv' := [(1, .int 0), (0, .ref h8)]) C dX8_putAside_1 rfl (by decide) rfl ?_
  have kk2 : ∀ (n : Nat) (x2_1 : Int32) (mP_2 : (Nat → Int32)), dz_iter n (fun s : Int32 × (Nat → Int32) => f_X8_putAside_L2 mZ s.1 s.2) (x2_1, mP_2) = some y → Jt X [(h8, .inr (8, [.int mT, .ref qz, .ref qv, .int mV, .ref qp, .ref qf, .int mY, .ref qo, .int mO, .int mS, .int mW, .long mH])), (qz, .inl (gI X.1, 1027, .inl mZ)), (qv, .inl (gI X.1, 6162, .inl mU)), (qp, .inl (gI X.1, 512, .inl mP_2)), (qf, .inl (gI X.1, 60, .inl mB)), (qo, .inl (gI X.1, 60, .inl mR))] 0 0 2 [(0, .ref h8), (1, .int x2_1)] [] := by
    intro n
    induction n with
    | zero => intro x2_1 mP_2 hit; exact absurd hit (by simp [dz_iter])
    | succ n ih2 =>
      intro x2_1 mP_2 hit
      obtain ⟨y2, hf, hg2⟩ := dz_iter_succ hit
      replace hf : f_X8_putAside_L2 mZ x2_1 mP_2 = some y2 := hf
      unfold f_X8_putAside_L2 at hf
      refine j_iload_n C dX8_putAside_2 rfl 1 rfl ?_
      refine j_sipush C (v := 512) dX8_putAside_3 (by decide) ?_
      refine j_icmp_ge C (tgt := 29) dX8_putAside_6 (by decide) (fun e6 => ?_) (fun e6 => ?_)
      · have hf := (if_pos e6).symm.trans hf
        obtain rfl := Option.some.inj hf
        obtain rfl := dz_go_inr hg2
        exact j_vret C hQ rfl dX8_putAside_29 (Nat.zero_le _) (Nat.zero_le _) ⟨rfl, rfl⟩
      · have hf := (if_neg e6).symm.trans hf
        refine j_aload_n C dX8_putAside_9 rfl 0 rfl ?_
        refine j_get8 C 0 rfl 4 (by decide) in_X8_putAside_8 lk_X8_putAside_16 rfl dX8_putAside_10 ?_
        refine j_iload_n C dX8_putAside_13 rfl 1 rfl ?_
        refine j_aload_n C dX8_putAside_14 rfl 0 rfl ?_
        refine j_get8 C 0 rfl 1 (by decide) in_X8_putAside_8 lk_X8_putAside_7 rfl dX8_putAside_15 ?_
        refine j_iconst C (v := 3) dX8_putAside_18 (by decide) ?_
        refine j_iload_n C dX8_putAside_19 rfl 1 rfl ?_
        refine j_iadd C dX8_putAside_20 ?_
        obtain ⟨z21, hf⟩ := dz_in_some hf
        refine j_iald C 1 rfl z21 dX8_putAside_21 ?_
        obtain ⟨z22, hf⟩ := dz_in_some hf
        refine j_iast (ws' := [(h8, .inr (8, [.int mT, .ref qz, .ref qv, .int mV, .ref qp, .ref qf, .int mY, .ref qo, .int mO, .int mS, .int mW, .long mH])), (qz, .inl (gI X.1, 1027, .inl mZ)), (qv, .inl (gI X.1, 6162, .inl mU)), (qp, .inl (gI X.1, 512, .inl (upd mP_2 (Int32.toNatClampNeg x2_1) (mZ (Int32.toNatClampNeg (3 + x2_1)))))), (qf, .inl (gI X.1, 60, .inl mB)), (qo, .inl (gI X.1, 60, .inl mR))]) C 3 rfl z22 rfl dX8_putAside_22 ?_
        refine j_iinc (v := (x2_1 + 1)) (lv' := [(1, .int (x2_1 + 1)), (0, .ref h8)]) C dX8_putAside_23 1 rfl (by first | rfl | decide) (by decide) rfl ?_
        refine j_goto C (tgt := 2) dX8_putAside_26 (by decide) ?_
        obtain rfl := Option.some.inj hf
        have hf := dz_go_inl hg2
        refine j_loc [1, 0] rfl ?_
        exact ih2 (x2_1 + 1) (upd mP_2 (Int32.toNatClampNeg x2_1) (mZ (Int32.toNatClampNeg (3 + x2_1)))) hf
  refine j_loc [1, 0] rfl ?_
  exact kk2 _ 0 mP hf

theorem lk_X8_others_7 : Cond.fieldLink RX8 7 (TX8 1).1 (TX8 1).2.1 (TX8 1).2.2.1 ∈ wsX8_others := by decide +kernel
theorem in_X8_others_8 : ∀ w ∈ wsX80, w ∈ wsX8_others := by decide +kernel
theorem lk_X8_others_16 : Cond.fieldLink RX8 16 (TX8 4).1 (TX8 4).2.1 (TX8 4).2.2.1 ∈ wsX8_others := by decide +kernel
def f_X8_others_J34 (s34_0 : Int32) (x4_1 : Int32) (x4_2 : Int32) : Option ((Int32 × Int32) ⊕ (Int32)) :=
  some (.inl ((x4_1 + s34_0), (x4_2 + 1)))
def f_X8_others_L4 (mZ : (Nat → Int32)) (mP : (Nat → Int32)) (x4_1 : Int32) (x4_2 : Int32) : Option ((Int32 × Int32) ⊕ (Int32)) :=
  if 512 ≤ x4_2 then some (.inr (x4_1)) else dz_in (3 + x4_2) 1027 (dz_in x4_2 512 (if (mZ (Int32.toNatClampNeg (3 + x4_2))) = (mP (Int32.toNatClampNeg x4_2)) then (f_X8_others_J34 0 x4_1 x4_2) else (f_X8_others_J34 1 x4_1 x4_2)))
def f_X8_others (mZ : (Nat → Int32)) (mP : (Nat → Int32)) : Option (Int32) :=
  dz_it (fun s : Int32 × Int32 => f_X8_others_L4 mZ mP s.1 s.2) (0, 0)
abbrev rm_X8_others : Room := { frames := 1, cells := 0, slots := 0, locals := 16 }
theorem k_X8_others : Cf yX8_others wsX8_others rm_X8_others cX8_others 3 (some .int) 0 := ⟨⟨_, rfl⟩, by decide +kernel, by decide +kernel, by decide +kernel⟩
set_option maxRecDepth 100000 in
set_option maxHeartbeats 4000000 in
theorem b_X8_others (G : CG) (hl : (gL G).stackTraces = false) (h8 : Nat) (qz : Nat) (qv : Nat) (qp : Nat) (qf : Nat) (qo : Nat) (mT : Int32) (mZ : (Nat → Int32)) (mU : (Nat → Int32)) (mV : Int32) (mP : (Nat → Int32)) (mB : (Nat → Int32)) (mY : Int32) (mR : (Nat → Int32)) (mO : Int32) (mS : Int32) (mW : Int32) (mH : Int64) (y : Int32) (hf : f_X8_others mZ mP = some y) : Ct G yX8_others wsX8_others rm_X8_others [.ref h8] [(h8, .inr (8, [.int mT, .ref qz, .ref qv, .int mV, .ref qp, .ref qf, .int mY, .ref qo, .int mO, .int mS, .int mW, .long mH])), (qz, .inl (gI G, 1027, .inl mZ)), (qv, .inl (gI G, 6162, .inl mU)), (qp, .inl (gI G, 512, .inl mP)), (qf, .inl (gI G, 60, .inl mB)), (qo, .inl (gI G, 60, .inl mR))] (fin1 (some (.int y)) [(h8, .inr (8, [.int mT, .ref qz, .ref qv, .int mV, .ref qp, .ref qf, .int mY, .ref qo, .int mO, .int mS, .int mW, .long mH])), (qz, .inl (gI G, 1027, .inl mZ)), (qv, .inl (gI G, 6162, .inl mU)), (qp, .inl (gI G, 512, .inl mP)), (qf, .inl (gI G, 60, .inl mB)), (qo, .inl (gI G, 60, .inl mR))]) 0 0 := by
  refine Ct.of (cc := cX8_others) (N := 3) (ret := (some .int)) RX8 (by decide) rfl rfl hl (Nat.le_of_ble_eq_true rfl) (lv := [(0, .ref h8)]) rfl (fun X hXG C hex hnm hQ => ?_)
  subst hXG
  unfold f_X8_others at hf
  refine j_iconst C (v := 0) dX8_others_0 (by decide) ?_
  refine j_istore_n (lv' := [(1, .int 0), (0, .ref h8)]) C dX8_others_1 rfl (by decide) rfl ?_
  refine j_iconst C (v := 0) dX8_others_2 (by decide) ?_
  refine j_istore_n (lv' := [(2, .int 0), (1, .int 0), (0, .ref h8)]) C dX8_others_3 rfl (by decide) rfl ?_
  have kk4 : ∀ (n : Nat) (x4_1 : Int32) (x4_2 : Int32), dz_iter n (fun s : Int32 × Int32 => f_X8_others_L4 mZ mP s.1 s.2) (x4_1, x4_2) = some y → Jt X [(h8, .inr (8, [.int mT, .ref qz, .ref qv, .int mV, .ref qp, .ref qf, .int mY, .ref qo, .int mO, .int mS, .int mW, .long mH])), (qz, .inl (gI X.1, 1027, .inl mZ)), (qv, .inl (gI X.1, 6162, .inl mU)), (qp, .inl (gI X.1, 512, .inl mP)), (qf, .inl (gI X.1, 60, .inl mB)), (qo, .inl (gI X.1, 60, .inl mR))] 0 0 4 [(0, .ref h8), (1, .int x4_1), (2, .int x4_2)] [] := by
    intro n
    induction n with
    | zero => intro x4_1 x4_2 hit; exact absurd hit (by simp [dz_iter])
    | succ n ih4 =>
      intro x4_1 x4_2 hit
      obtain ⟨y4, hf, hg4⟩ := dz_iter_succ hit
      replace hf : f_X8_others_L4 mZ mP x4_1 x4_2 = some y4 := hf
      unfold f_X8_others_L4 at hf
      refine j_iload_n C dX8_others_4 rfl 2 rfl ?_
      refine j_sipush C (v := 512) dX8_others_5 (by decide) ?_
      refine j_icmp_ge C (tgt := 42) dX8_others_8 (by decide) (fun e8 => ?_) (fun e8 => ?_)
      · have hf := (if_pos e8).symm.trans hf
        refine j_iload_n C dX8_others_42 rfl 1 rfl ?_
        obtain rfl := Option.some.inj hf
        obtain rfl := dz_go_inr hg4
        exact j_iret C hQ rfl dX8_others_43 (Nat.zero_le _) (Nat.zero_le _) ⟨rfl, rfl⟩
      · have hf := (if_neg e8).symm.trans hf
        refine j_iload_n C dX8_others_11 rfl 1 rfl ?_
        refine j_aload_n C dX8_others_12 rfl 0 rfl ?_
        refine j_get8 C 0 rfl 1 (by decide) in_X8_others_8 lk_X8_others_7 rfl dX8_others_13 ?_
        refine j_iconst C (v := 3) dX8_others_16 (by decide) ?_
        refine j_iload_n C dX8_others_17 rfl 2 rfl ?_
        refine j_iadd C dX8_others_18 ?_
        obtain ⟨z19, hf⟩ := dz_in_some hf
        refine j_iald C 1 rfl z19 dX8_others_19 ?_
        refine j_aload_n C dX8_others_20 rfl 0 rfl ?_
        refine j_get8 C 0 rfl 4 (by decide) in_X8_others_8 lk_X8_others_16 rfl dX8_others_21 ?_
        refine j_iload_n C dX8_others_24 rfl 2 rfl ?_
        obtain ⟨z25, hf⟩ := dz_in_some hf
        refine j_iald C 3 rfl z25 dX8_others_25 ?_
        have k34 : ∀ (s34_0 : Int32), f_X8_others_J34 s34_0 x4_1 x4_2 = some y4 → Jt X [(h8, .inr (8, [.int mT, .ref qz, .ref qv, .int mV, .ref qp, .ref qf, .int mY, .ref qo, .int mO, .int mS, .int mW, .long mH])), (qz, .inl (gI X.1, 1027, .inl mZ)), (qv, .inl (gI X.1, 6162, .inl mU)), (qp, .inl (gI X.1, 512, .inl mP)), (qf, .inl (gI X.1, 60, .inl mB)), (qo, .inl (gI X.1, 60, .inl mR))] 0 0 34 [(0, .ref h8), (1, .int x4_1), (2, .int x4_2)] [.int s34_0, .int x4_1] := by
          intro s34_0 hf
          unfold f_X8_others_J34 at hf
          refine j_iadd C dX8_others_34 ?_
          refine j_istore_n (lv' := [(1, .int (x4_1 + s34_0)), (0, .ref h8), (2, .int x4_2)]) C dX8_others_35 rfl (by decide) rfl ?_
          refine j_iinc (v := (x4_2 + 1)) (lv' := [(2, .int (x4_2 + 1)), (1, .int (x4_1 + s34_0)), (0, .ref h8)]) C dX8_others_36 2 rfl (by first | rfl | decide) (by decide) rfl ?_
          refine j_goto C (tgt := 4) dX8_others_39 (by decide) ?_
          obtain rfl := Option.some.inj hf
          have hf := dz_go_inl hg4
          refine j_loc [2, 1, 0] rfl ?_
          exact ih4 (x4_1 + s34_0) (x4_2 + 1) hf
        refine j_icmp_ne C (tgt := 33) dX8_others_26 (by decide) (fun e26 => ?_) (fun e26 => ?_)
        · have hf := (if_neg e26).symm.trans hf
          refine j_iconst C (v := 1) dX8_others_33 (by decide) ?_
          refine j_loc [0, 1, 2] rfl ?_
          exact k34 1 hf
        · have hf := (if_pos e26).symm.trans hf
          refine j_iconst C (v := 0) dX8_others_29 (by decide) ?_
          refine j_goto C (tgt := 34) dX8_others_30 (by decide) ?_
          refine j_loc [0, 1, 2] rfl ?_
          exact k34 0 hf
  refine j_loc [2, 1, 0] rfl ?_
  exact kk4 _ 0 0 hf

theorem lk_X8_shift_25 : Cond.fieldLink RX8 25 (TX8 0).1 (TX8 0).2.1 (TX8 0).2.2.1 ∈ wsX8_shift := by decide +kernel
theorem in_X8_shift_8 : ∀ w ∈ wsX80, w ∈ wsX8_shift := by decide +kernel
theorem lk_X8_shift_7 : Cond.fieldLink RX8 7 (TX8 1).1 (TX8 1).2.1 (TX8 1).2.2.1 ∈ wsX8_shift := by decide +kernel
theorem lk_X8_shift_16 : Cond.fieldLink RX8 16 (TX8 4).1 (TX8 4).2.1 (TX8 4).2.2.1 ∈ wsX8_shift := by decide +kernel
def f_X8_shift_L42 (p1 : Int32) (mZ : (Nat → Int32)) (r26 : (Nat → Int32) × Int32) (r30 : (Nat → Int32)) (s13_0 : Int32) (x42_3 : Int32) (mZ_42 : (Nat → Int32)) : Option ((Int32 × (Nat → Int32)) ⊕ (Int32 × Int32 × (Nat → Int32) × (Nat → Int32) × Int32 × (Nat → Int32))) :=
  if (((mZ 0) * (mZ 0)) * (mZ 0)) ≤ x42_3 then Option.bind (f_X8_others mZ_42 r30) (fun r113 => some (.inr ((r113, s13_0, mZ_42, r26.1, r26.2, r30)))) else dz_nz ((mZ 0) * (mZ 0)) (dz_nz (mZ 0) (dz_nz (mZ 0) (dz_nz (mZ 0) (dz_nz (mZ 0) (dz_in (f_X8_placeBy p1 (x42_3 / ((mZ 0) * (mZ 0))) (x42_3 - x42_3 / (mZ 0) * (mZ 0)) ((x42_3 / (mZ 0)) - (x42_3 / (mZ 0)) / (mZ 0) * (mZ 0))) 512 (dz_in (3 + (f_X8_placeBy p1 (((x42_3 / ((mZ 0) * (mZ 0))) + 1) - ((x42_3 / ((mZ 0) * (mZ 0))) + 1) / (mZ 0) * (mZ 0)) (x42_3 - x42_3 / (mZ 0) * (mZ 0)) ((x42_3 / (mZ 0)) - (x42_3 / (mZ 0)) / (mZ 0) * (mZ 0)))) 1027 (some (.inl ((x42_3 + 1), (upd mZ_42 (Int32.toNatClampNeg (3 + (f_X8_placeBy p1 (((x42_3 / ((mZ 0) * (mZ 0))) + 1) - ((x42_3 / ((mZ 0) * (mZ 0))) + 1) / (mZ 0) * (mZ 0)) (x42_3 - x42_3 / (mZ 0) * (mZ 0)) ((x42_3 / (mZ 0)) - (x42_3 / (mZ 0)) / (mZ 0) * (mZ 0))))) (r30 (Int32.toNatClampNeg (f_X8_placeBy p1 (x42_3 / ((mZ 0) * (mZ 0))) (x42_3 - x42_3 / (mZ 0) * (mZ 0)) ((x42_3 / (mZ 0)) - (x42_3 / (mZ 0)) / (mZ 0) * (mZ 0)))))))))))))))
def f_X8_shift_J13 (p1 : Int32) (mZ : (Nat → Int32)) (mU : (Nat → Int32)) (mV : Int32) (mP : (Nat → Int32)) (s13_0 : Int32) : Option (Int32 × Int32 × (Nat → Int32) × (Nat → Int32) × Int32 × (Nat → Int32)) :=
  if s13_0 ≤ 0 then Option.bind (f_X8_save mZ mU mV) (fun r26 => Option.bind (f_X8_putAside mZ mP) (fun r30 => dz_it (fun s : Int32 × (Nat → Int32) => f_X8_shift_L42 p1 mZ r26 r30 s13_0 s.1 s.2) (0, mZ))) else some ((0, s13_0, mZ, mU, mV, mP))
def f_X8_shift (p1 : Int32) (mZ : (Nat → Int32)) (mU : (Nat → Int32)) (mV : Int32) (mP : (Nat → Int32)) : Option (Int32 × Int32 × (Nat → Int32) × (Nat → Int32) × Int32 × (Nat → Int32)) :=
  if (f_X8_isAxis p1) = 0 then (f_X8_shift_J13 p1 mZ mU mV mP 1) else (f_X8_shift_J13 p1 mZ mU mV mP 0)
abbrev rm_X8_shift : Room := { frames := 3, cells := 0, slots := 0, locals := 61 }
theorem k_X8_shift : Cf yX8_shift wsX8_shift rm_X8_shift cX8_shift 7 (some .int) 1 := ⟨⟨_, rfl⟩, by decide +kernel, by decide +kernel, by decide +kernel⟩
set_option maxRecDepth 100000 in
set_option maxHeartbeats 4000000 in
theorem b_X8_shift (G : CG) (hl : (gL G).stackTraces = false) (h8 : Nat) (qz : Nat) (qv : Nat) (qp : Nat) (qf : Nat) (qo : Nat) (mT : Int32) (mZ : (Nat → Int32)) (mU : (Nat → Int32)) (mV : Int32) (mP : (Nat → Int32)) (mB : (Nat → Int32)) (mY : Int32) (mR : (Nat → Int32)) (mO : Int32) (mS : Int32) (mW : Int32) (mH : Int64) (p1 : Int32) (y : Int32 × Int32 × (Nat → Int32) × (Nat → Int32) × Int32 × (Nat → Int32)) (hf : f_X8_shift p1 mZ mU mV mP = some y) : Ct G yX8_shift wsX8_shift rm_X8_shift [.ref h8, .int p1] [(h8, .inr (8, [.int mT, .ref qz, .ref qv, .int mV, .ref qp, .ref qf, .int mY, .ref qo, .int mO, .int mS, .int mW, .long mH])), (qz, .inl (gI G, 1027, .inl mZ)), (qv, .inl (gI G, 6162, .inl mU)), (qp, .inl (gI G, 512, .inl mP)), (qf, .inl (gI G, 60, .inl mB)), (qo, .inl (gI G, 60, .inl mR))] (fin1 (some (.int y.1)) [(h8, .inr (8, [.int y.2.1, .ref qz, .ref qv, .int y.2.2.2.2.1, .ref qp, .ref qf, .int mY, .ref qo, .int mO, .int mS, .int mW, .long mH])), (qz, .inl (gI G, 1027, .inl y.2.2.1)), (qv, .inl (gI G, 6162, .inl y.2.2.2.1)), (qp, .inl (gI G, 512, .inl y.2.2.2.2.2)), (qf, .inl (gI G, 60, .inl mB)), (qo, .inl (gI G, 60, .inl mR))]) 0 0 := by
  refine Ct.of (cc := cX8_shift) (N := 7) (ret := (some .int)) RX8 (by decide) rfl rfl hl (Nat.le_of_ble_eq_true rfl) (lv := [(0, .ref h8), (1, .int p1)]) rfl (fun X hXG C hex hnm hQ => ?_)
  subst hXG
  unfold f_X8_shift at hf
  refine j_aload_n C dX8_shift_0 rfl 0 rfl ?_
  refine j_iload_n C dX8_shift_1 rfl 1 rfl ?_
  refine j_cS C (c_X8_isAxis X.1 hl p1) k_X8_isAxis gX8_shift_X8_isAxis (As := [.int p1]) (rest := [.ref h8]) (st' := [.int (f_X8_isAxis p1), .ref h8]) (ws' := [(h8, .inr (8, [.int mT, .ref qz, .ref qv, .int mV, .ref qp, .ref qf, .int mY, .ref qo, .int mO, .int mS, .int mW, .long mH])), (qz, .inl (gI X.1, 1027, .inl mZ)), (qv, .inl (gI X.1, 6162, .inl mU)), (qp, .inl (gI X.1, 512, .inl mP)), (qf, .inl (gI X.1, 60, .inl mB)), (qo, .inl (gI X.1, 60, .inl mR))]) rfl rfl dX8_shift_2 [] [0, 1, 2, 3, 4, 5] [0, 1, 2, 3, 4, 5] rfl rfl rfl rfl rfl rfl ?_
  have k13 : ∀ (s13_0 : Int32), f_X8_shift_J13 p1 mZ mU mV mP s13_0 = some y → Jt X [(h8, .inr (8, [.int mT, .ref qz, .ref qv, .int mV, .ref qp, .ref qf, .int mY, .ref qo, .int mO, .int mS, .int mW, .long mH])), (qz, .inl (gI X.1, 1027, .inl mZ)), (qv, .inl (gI X.1, 6162, .inl mU)), (qp, .inl (gI X.1, 512, .inl mP)), (qf, .inl (gI X.1, 60, .inl mB)), (qo, .inl (gI X.1, 60, .inl mR))] 0 0 13 [(0, .ref h8), (1, .int p1)] [.int s13_0, .ref h8] := by
    intro s13_0 hf
    unfold f_X8_shift_J13 at hf
    refine j_put8 (ty := .int) (ws' := [(h8, .inr (8, [.int s13_0, .ref qz, .ref qv, .int mV, .ref qp, .ref qf, .int mY, .ref qo, .int mO, .int mS, .int mW, .long mH])), (qz, .inl (gI X.1, 1027, .inl mZ)), (qv, .inl (gI X.1, 6162, .inl mU)), (qp, .inl (gI X.1, 512, .inl mP)), (qf, .inl (gI X.1, 60, .inl mB)), (qo, .inl (gI X.1, 60, .inl mR))]) C 0 rfl 0 (by decide) in_X8_shift_8 lk_X8_shift_25 rfl (by decide +kernel) rfl rfl (Nat.le_of_ble_eq_true rfl) rfl dX8_shift_13 ?_
    refine j_aload_n C dX8_shift_16 rfl 0 rfl ?_
    refine j_get8 C 0 rfl 0 (by decide) in_X8_shift_8 lk_X8_shift_25 rfl dX8_shift_17 ?_
    refine j_if_le C (tgt := 25) dX8_shift_20 (by decide) (fun e20 => ?_) (fun e20 => ?_)
    · have hf := (if_pos e20).symm.trans hf
      refine j_aload_n C dX8_shift_25 rfl 0 rfl ?_
      obtain ⟨r26, hc26, hf⟩ := Option.bind_eq_some_iff.mp hf
      refine j_cV C (b_X8_save X.1 hl h8 qz qv qp qf qo s13_0 mZ mU mV mP mB mY mR mO mS mW mH r26 hc26) k_X8_save gX8_shift_X8_save rfl (ci := 8) (q0 := 0) rfl rfl (As := []) (rest := []) (st' := []) (ws' := [(h8, .inr (8, [.int s13_0, .ref qz, .ref qv, .int r26.2, .ref qp, .ref qf, .int mY, .ref qo, .int mO, .int mS, .int mW, .long mH])), (qz, .inl (gI X.1, 1027, .inl mZ)), (qv, .inl (gI X.1, 6162, .inl r26.1)), (qp, .inl (gI X.1, 512, .inl mP)), (qf, .inl (gI X.1, 60, .inl mB)), (qo, .inl (gI X.1, 60, .inl mR))]) rfl rfl dX8_shift_26 [0, 1, 2, 3, 4, 5] [] [0, 1, 2, 3, 4, 5] rfl rfl rfl rfl rfl rfl ?_
      refine j_aload_n C dX8_shift_29 rfl 0 rfl ?_
      obtain ⟨r30, hc30, hf⟩ := Option.bind_eq_some_iff.mp hf
      refine j_cV C (b_X8_putAside X.1 hl h8 qz qv qp qf qo s13_0 mZ r26.1 r26.2 mP mB mY mR mO mS mW mH r30 hc30) k_X8_putAside gX8_shift_X8_putAside rfl (ci := 8) (q0 := 0) rfl rfl (As := []) (rest := []) (st' := []) (ws' := [(h8, .inr (8, [.int s13_0, .ref qz, .ref qv, .int r26.2, .ref qp, .ref qf, .int mY, .ref qo, .int mO, .int mS, .int mW, .long mH])), (qz, .inl (gI X.1, 1027, .inl mZ)), (qv, .inl (gI X.1, 6162, .inl r26.1)), (qp, .inl (gI X.1, 512, .inl r30)), (qf, .inl (gI X.1, 60, .inl mB)), (qo, .inl (gI X.1, 60, .inl mR))]) rfl rfl dX8_shift_30 [0, 1, 2, 3, 4, 5] [] [0, 1, 2, 3, 4, 5] rfl rfl rfl rfl rfl rfl ?_
      refine j_aload_n C dX8_shift_33 rfl 0 rfl ?_
      refine j_get8 C 0 rfl 1 (by decide) in_X8_shift_8 lk_X8_shift_7 rfl dX8_shift_34 ?_
      refine j_iconst C (v := 0) dX8_shift_37 (by decide) ?_
      refine j_iald C 1 rfl (by unfold vp_in; decide) dX8_shift_38 ?_
      refine j_istore_n (lv' := [(2, .int (mZ 0)), (0, .ref h8), (1, .int p1)]) C dX8_shift_39 rfl (by decide) rfl ?_
      refine j_iconst C (v := 0) dX8_shift_40 (by decide) ?_
      refine j_istore_n (lv' := [(3, .int 0), (2, .int (mZ 0)), (0, .ref h8), (1, .int p1)]) C dX8_shift_41 rfl (by decide) rfl ?_
      have kk42 : ∀ (n : Nat) (x42_3 : Int32) (mZ_42 : (Nat → Int32)), dz_iter n (fun s : Int32 × (Nat → Int32) => f_X8_shift_L42 p1 mZ r26 r30 s13_0 s.1 s.2) (x42_3, mZ_42) = some y → Jt X [(h8, .inr (8, [.int s13_0, .ref qz, .ref qv, .int r26.2, .ref qp, .ref qf, .int mY, .ref qo, .int mO, .int mS, .int mW, .long mH])), (qz, .inl (gI X.1, 1027, .inl mZ_42)), (qv, .inl (gI X.1, 6162, .inl r26.1)), (qp, .inl (gI X.1, 512, .inl r30)), (qf, .inl (gI X.1, 60, .inl mB)), (qo, .inl (gI X.1, 60, .inl mR))] 0 0 42 [(0, .ref h8), (1, .int p1), (2, .int (mZ 0)), (3, .int x42_3)] [] := by
        intro n
        induction n with
        | zero => intro x42_3 mZ_42 hit; exact absurd hit (by simp [dz_iter])
        | succ n ih42 =>
          intro x42_3 mZ_42 hit
          obtain ⟨y42, hf, hg42⟩ := dz_iter_succ hit
          replace hf : f_X8_shift_L42 p1 mZ r26 r30 s13_0 x42_3 mZ_42 = some y42 := hf
          unfold f_X8_shift_L42 at hf
          refine j_iload_n C dX8_shift_42 rfl 3 rfl ?_
          refine j_iload_n C dX8_shift_43 rfl 2 rfl ?_
          refine j_iload_n C dX8_shift_44 rfl 2 rfl ?_
          refine j_imul C dX8_shift_45 ?_
          refine j_iload_n C dX8_shift_46 rfl 2 rfl ?_
          refine j_imul C dX8_shift_47 ?_
          refine j_icmp_ge C (tgt := 112) dX8_shift_48 (by decide) (fun e48 => ?_) (fun e48 => ?_)
          · have hf := (if_pos e48).symm.trans hf
            refine j_aload_n C dX8_shift_112 rfl 0 rfl ?_
            obtain ⟨r113, hc113, hf⟩ := Option.bind_eq_some_iff.mp hf
            refine j_cV C (b_X8_others X.1 hl h8 qz qv qp qf qo s13_0 mZ_42 r26.1 r26.2 r30 mB mY mR mO mS mW mH r113 hc113) k_X8_others gX8_shift_X8_others rfl (ci := 8) (q0 := 0) rfl rfl (As := []) (rest := []) (st' := [.int r113]) (ws' := [(h8, .inr (8, [.int s13_0, .ref qz, .ref qv, .int r26.2, .ref qp, .ref qf, .int mY, .ref qo, .int mO, .int mS, .int mW, .long mH])), (qz, .inl (gI X.1, 1027, .inl mZ_42)), (qv, .inl (gI X.1, 6162, .inl r26.1)), (qp, .inl (gI X.1, 512, .inl r30)), (qf, .inl (gI X.1, 60, .inl mB)), (qo, .inl (gI X.1, 60, .inl mR))]) rfl rfl dX8_shift_113 [0, 1, 2, 3, 4, 5] [] [0, 1, 2, 3, 4, 5] rfl rfl rfl rfl rfl rfl ?_
            obtain rfl := Option.some.inj hf
            obtain rfl := dz_go_inr hg42
            exact j_iret C hQ rfl dX8_shift_116 (Nat.zero_le _) (Nat.zero_le _) ⟨rfl, rfl⟩
          · have hf := (if_neg e48).symm.trans hf
            refine j_iload_n C dX8_shift_51 rfl 3 rfl ?_
            refine j_iload_n C dX8_shift_52 rfl 2 rfl ?_
            refine j_iload_n C dX8_shift_53 rfl 2 rfl ?_
            refine j_imul C dX8_shift_54 ?_
            obtain ⟨z55, hf⟩ := dz_nz_some hf
            refine j_idiv C dX8_shift_55 z55 ?_
            refine j_istore (lv' := [(4, .int (x42_3 / ((mZ 0) * (mZ 0)))), (0, .ref h8), (1, .int p1), (2, .int (mZ 0)), (3, .int x42_3)]) C dX8_shift_56 (by decide) rfl ?_
            refine j_iload_n C dX8_shift_58 rfl 4 rfl ?_
            refine j_iload_n C dX8_shift_59 rfl 3 rfl ?_
            obtain ⟨z60, hf⟩ := dz_nz_some hf
            refine j_irem C dX8_shift_60 z60 ?_
            refine j_istore (lv' := [(5, .int (x42_3 - x42_3 / (mZ 0) * (mZ 0))), (4, .int (x42_3 / ((mZ 0) * (mZ 0)))), (0, .ref h8), (1, .int p1), (2, .int (mZ 0)), (3, .int x42_3)]) C dX8_shift_61 (by decide) rfl ?_
            refine j_iload_n C dX8_shift_63 rfl 5 rfl ?_
            refine j_iload_n C dX8_shift_64 rfl 4 rfl ?_
            obtain ⟨z65, hf⟩ := dz_nz_some hf
            refine j_idiv C dX8_shift_65 z65 ?_
            refine j_iload_n C dX8_shift_66 rfl 4 rfl ?_
            obtain ⟨z67, hf⟩ := dz_nz_some hf
            refine j_irem C dX8_shift_67 z67 ?_
            refine j_istore (lv' := [(6, .int ((x42_3 / (mZ 0)) - (x42_3 / (mZ 0)) / (mZ 0) * (mZ 0))), (5, .int (x42_3 - x42_3 / (mZ 0) * (mZ 0))), (4, .int (x42_3 / ((mZ 0) * (mZ 0)))), (0, .ref h8), (1, .int p1), (2, .int (mZ 0)), (3, .int x42_3)]) C dX8_shift_68 (by decide) rfl ?_
            refine j_aload_n C dX8_shift_70 rfl 3 rfl ?_
            refine j_get8 C 0 rfl 1 (by decide) in_X8_shift_8 lk_X8_shift_7 rfl dX8_shift_71 ?_
            refine j_iconst C (v := 3) dX8_shift_74 (by decide) ?_
            refine j_iload_n C dX8_shift_75 rfl 4 rfl ?_
            refine j_iload C dX8_shift_76 2 rfl ?_
            refine j_iconst C (v := 1) dX8_shift_78 (by decide) ?_
            refine j_iadd C dX8_shift_79 ?_
            refine j_iload_n C dX8_shift_80 rfl 5 rfl ?_
            obtain ⟨z81, hf⟩ := dz_nz_some hf
            refine j_irem C dX8_shift_81 z81 ?_
            refine j_iload C dX8_shift_82 1 rfl ?_
            refine j_iload C dX8_shift_84 0 rfl ?_
            refine j_cS C (c_X8_placeBy X.1 hl p1 (((x42_3 / ((mZ 0) * (mZ 0))) + 1) - ((x42_3 / ((mZ 0) * (mZ 0))) + 1) / (mZ 0) * (mZ 0)) (x42_3 - x42_3 / (mZ 0) * (mZ 0)) ((x42_3 / (mZ 0)) - (x42_3 / (mZ 0)) / (mZ 0) * (mZ 0))) k_X8_placeBy gX8_shift_X8_placeBy (As := [.int p1, .int (((x42_3 / ((mZ 0) * (mZ 0))) + 1) - ((x42_3 / ((mZ 0) * (mZ 0))) + 1) / (mZ 0) * (mZ 0)), .int (x42_3 - x42_3 / (mZ 0) * (mZ 0)), .int ((x42_3 / (mZ 0)) - (x42_3 / (mZ 0)) / (mZ 0) * (mZ 0))]) (rest := [.int 3, .ref qz]) (st' := [.int (f_X8_placeBy p1 (((x42_3 / ((mZ 0) * (mZ 0))) + 1) - ((x42_3 / ((mZ 0) * (mZ 0))) + 1) / (mZ 0) * (mZ 0)) (x42_3 - x42_3 / (mZ 0) * (mZ 0)) ((x42_3 / (mZ 0)) - (x42_3 / (mZ 0)) / (mZ 0) * (mZ 0))), .int 3, .ref qz]) (ws' := [(h8, .inr (8, [.int s13_0, .ref qz, .ref qv, .int r26.2, .ref qp, .ref qf, .int mY, .ref qo, .int mO, .int mS, .int mW, .long mH])), (qz, .inl (gI X.1, 1027, .inl mZ_42)), (qv, .inl (gI X.1, 6162, .inl r26.1)), (qp, .inl (gI X.1, 512, .inl r30)), (qf, .inl (gI X.1, 60, .inl mB)), (qo, .inl (gI X.1, 60, .inl mR))]) rfl rfl dX8_shift_86 [] [0, 1, 2, 3, 4, 5] [0, 1, 2, 3, 4, 5] rfl rfl rfl rfl rfl rfl ?_
            refine j_iadd C dX8_shift_89 ?_
            refine j_aload_n C dX8_shift_90 rfl 3 rfl ?_
            refine j_get8 C 0 rfl 4 (by decide) in_X8_shift_8 lk_X8_shift_16 rfl dX8_shift_91 ?_
            refine j_iload_n C dX8_shift_94 rfl 4 rfl ?_
            refine j_iload C dX8_shift_95 2 rfl ?_
            refine j_iload C dX8_shift_97 1 rfl ?_
            refine j_iload C dX8_shift_99 0 rfl ?_
            refine j_cS C (c_X8_placeBy X.1 hl p1 (x42_3 / ((mZ 0) * (mZ 0))) (x42_3 - x42_3 / (mZ 0) * (mZ 0)) ((x42_3 / (mZ 0)) - (x42_3 / (mZ 0)) / (mZ 0) * (mZ 0))) k_X8_placeBy gX8_shift_X8_placeBy (As := [.int p1, .int (x42_3 / ((mZ 0) * (mZ 0))), .int (x42_3 - x42_3 / (mZ 0) * (mZ 0)), .int ((x42_3 / (mZ 0)) - (x42_3 / (mZ 0)) / (mZ 0) * (mZ 0))]) (rest := [.ref qp, .int (3 + (f_X8_placeBy p1 (((x42_3 / ((mZ 0) * (mZ 0))) + 1) - ((x42_3 / ((mZ 0) * (mZ 0))) + 1) / (mZ 0) * (mZ 0)) (x42_3 - x42_3 / (mZ 0) * (mZ 0)) ((x42_3 / (mZ 0)) - (x42_3 / (mZ 0)) / (mZ 0) * (mZ 0)))), .ref qz]) (st' := [.int (f_X8_placeBy p1 (x42_3 / ((mZ 0) * (mZ 0))) (x42_3 - x42_3 / (mZ 0) * (mZ 0)) ((x42_3 / (mZ 0)) - (x42_3 / (mZ 0)) / (mZ 0) * (mZ 0))), .ref qp, .int (3 + (f_X8_placeBy p1 (((x42_3 / ((mZ 0) * (mZ 0))) + 1) - ((x42_3 / ((mZ 0) * (mZ 0))) + 1) / (mZ 0) * (mZ 0)) (x42_3 - x42_3 / (mZ 0) * (mZ 0)) ((x42_3 / (mZ 0)) - (x42_3 / (mZ 0)) / (mZ 0) * (mZ 0)))), .ref qz]) (ws' := [(h8, .inr (8, [.int s13_0, .ref qz, .ref qv, .int r26.2, .ref qp, .ref qf, .int mY, .ref qo, .int mO, .int mS, .int mW, .long mH])), (qz, .inl (gI X.1, 1027, .inl mZ_42)), (qv, .inl (gI X.1, 6162, .inl r26.1)), (qp, .inl (gI X.1, 512, .inl r30)), (qf, .inl (gI X.1, 60, .inl mB)), (qo, .inl (gI X.1, 60, .inl mR))]) rfl rfl dX8_shift_101 [] [0, 1, 2, 3, 4, 5] [0, 1, 2, 3, 4, 5] rfl rfl rfl rfl rfl rfl ?_
            obtain ⟨z104, hf⟩ := dz_in_some hf
            refine j_iald C 3 rfl z104 dX8_shift_104 ?_
            obtain ⟨z105, hf⟩ := dz_in_some hf
            refine j_iast (ws' := [(h8, .inr (8, [.int s13_0, .ref qz, .ref qv, .int r26.2, .ref qp, .ref qf, .int mY, .ref qo, .int mO, .int mS, .int mW, .long mH])), (qz, .inl (gI X.1, 1027, .inl (upd mZ_42 (Int32.toNatClampNeg (3 + (f_X8_placeBy p1 (((x42_3 / ((mZ 0) * (mZ 0))) + 1) - ((x42_3 / ((mZ 0) * (mZ 0))) + 1) / (mZ 0) * (mZ 0)) (x42_3 - x42_3 / (mZ 0) * (mZ 0)) ((x42_3 / (mZ 0)) - (x42_3 / (mZ 0)) / (mZ 0) * (mZ 0))))) (r30 (Int32.toNatClampNeg (f_X8_placeBy p1 (x42_3 / ((mZ 0) * (mZ 0))) (x42_3 - x42_3 / (mZ 0) * (mZ 0)) ((x42_3 / (mZ 0)) - (x42_3 / (mZ 0)) / (mZ 0) * (mZ 0)))))))), (qv, .inl (gI X.1, 6162, .inl r26.1)), (qp, .inl (gI X.1, 512, .inl r30)), (qf, .inl (gI X.1, 60, .inl mB)), (qo, .inl (gI X.1, 60, .inl mR))]) C 1 rfl z105 rfl dX8_shift_105 ?_
            refine j_iinc (v := (x42_3 + 1)) (lv' := [(3, .int (x42_3 + 1)), (6, .int ((x42_3 / (mZ 0)) - (x42_3 / (mZ 0)) / (mZ 0) * (mZ 0))), (5, .int (x42_3 - x42_3 / (mZ 0) * (mZ 0))), (4, .int (x42_3 / ((mZ 0) * (mZ 0)))), (0, .ref h8), (1, .int p1), (2, .int (mZ 0))]) C dX8_shift_106 6 rfl (by first | rfl | decide) (by decide) rfl ?_
            refine j_goto C (tgt := 42) dX8_shift_109 (by decide) ?_
            obtain rfl := Option.some.inj hf
            have hf := dz_go_inl hg42
            refine j_loc [4, 5, 6, 0] rfl ?_
            exact ih42 (x42_3 + 1) (upd mZ_42 (Int32.toNatClampNeg (3 + (f_X8_placeBy p1 (((x42_3 / ((mZ 0) * (mZ 0))) + 1) - ((x42_3 / ((mZ 0) * (mZ 0))) + 1) / (mZ 0) * (mZ 0)) (x42_3 - x42_3 / (mZ 0) * (mZ 0)) ((x42_3 / (mZ 0)) - (x42_3 / (mZ 0)) / (mZ 0) * (mZ 0))))) (r30 (Int32.toNatClampNeg (f_X8_placeBy p1 (x42_3 / ((mZ 0) * (mZ 0))) (x42_3 - x42_3 / (mZ 0) * (mZ 0)) ((x42_3 / (mZ 0)) - (x42_3 / (mZ 0)) / (mZ 0) * (mZ 0)))))) hf
      refine j_loc [2, 3, 1, 0] rfl ?_
      exact kk42 _ 0 mZ hf
    · have hf := (if_neg e20).symm.trans hf
      refine j_iconst C (v := 0) dX8_shift_23 (by decide) ?_
      obtain rfl := Option.some.inj hf
      exact j_iret C hQ rfl dX8_shift_24 (Nat.zero_le _) (Nat.zero_le _) ⟨rfl, rfl⟩
  refine j_if_eq C (tgt := 12) dX8_shift_5 (by decide) (fun e5 => ?_) (fun e5 => ?_)
  · have hf := (if_pos e5).symm.trans hf
    refine j_iconst C (v := 1) dX8_shift_12 (by decide) ?_
    refine j_loc [0, 1] rfl ?_
    exact k13 1 hf
  · have hf := (if_neg e5).symm.trans hf
    refine j_iconst C (v := 0) dX8_shift_8 (by decide) ?_
    refine j_goto C (tgt := 13) dX8_shift_9 (by decide) ?_
    refine j_loc [0, 1] rfl ?_
    exact k13 0 hf

theorem lk_X8_turn_25 : Cond.fieldLink RX8 25 (TX8 0).1 (TX8 0).2.1 (TX8 0).2.2.1 ∈ wsX8_turn := by decide +kernel
theorem in_X8_turn_8 : ∀ w ∈ wsX80, w ∈ wsX8_turn := by decide +kernel
theorem lk_X8_turn_7 : Cond.fieldLink RX8 7 (TX8 1).1 (TX8 1).2.1 (TX8 1).2.2.1 ∈ wsX8_turn := by decide +kernel
theorem lk_X8_turn_16 : Cond.fieldLink RX8 16 (TX8 4).1 (TX8 4).2.1 (TX8 4).2.2.1 ∈ wsX8_turn := by decide +kernel
def f_X8_turn_L22 (mZ : (Nat → Int32)) (r10 : (Nat → Int32)) (r6 : (Nat → Int32) × Int32) (x22_2 : Int32) (mZ_22 : (Nat → Int32)) : Option ((Int32 × (Nat → Int32)) ⊕ (Int32 × Int32 × (Nat → Int32) × (Nat → Int32) × Int32 × (Nat → Int32))) :=
  if (((mZ 0) * (mZ 0)) * (mZ 0)) ≤ x22_2 then Option.bind (f_X8_room mZ_22) (fun r84 => some (.inr ((r84, 0, mZ_22, r6.1, r6.2, r10)))) else dz_nz (mZ 0) (dz_nz (mZ 0) (dz_nz (mZ 0) (dz_nz ((mZ 0) * (mZ 0)) (dz_in (f_X8_place (x22_2 - x22_2 / (mZ 0) * (mZ 0)) ((x22_2 / (mZ 0)) - (x22_2 / (mZ 0)) / (mZ 0) * (mZ 0)) (x22_2 / ((mZ 0) * (mZ 0)))) 512 (dz_in (3 + (f_X8_place (x22_2 / ((mZ 0) * (mZ 0))) (x22_2 - x22_2 / (mZ 0) * (mZ 0)) ((x22_2 / (mZ 0)) - (x22_2 / (mZ 0)) / (mZ 0) * (mZ 0)))) 1027 (some (.inl ((x22_2 + 1), (upd mZ_22 (Int32.toNatClampNeg (3 + (f_X8_place (x22_2 / ((mZ 0) * (mZ 0))) (x22_2 - x22_2 / (mZ 0) * (mZ 0)) ((x22_2 / (mZ 0)) - (x22_2 / (mZ 0)) / (mZ 0) * (mZ 0))))) (r10 (Int32.toNatClampNeg (f_X8_place (x22_2 - x22_2 / (mZ 0) * (mZ 0)) ((x22_2 / (mZ 0)) - (x22_2 / (mZ 0)) / (mZ 0) * (mZ 0)) (x22_2 / ((mZ 0) * (mZ 0)))))))))))))))
def f_X8_turn (mZ : (Nat → Int32)) (mU : (Nat → Int32)) (mV : Int32) (mP : (Nat → Int32)) : Option (Int32 × Int32 × (Nat → Int32) × (Nat → Int32) × Int32 × (Nat → Int32)) :=
  Option.bind (f_X8_save mZ mU mV) (fun r6 => Option.bind (f_X8_putAside mZ mP) (fun r10 => dz_it (fun s : Int32 × (Nat → Int32) => f_X8_turn_L22 mZ r10 r6 s.1 s.2) (0, mZ)))
abbrev rm_X8_turn : Room := { frames := 10, cells := 0, slots := 0, locals := 222 }
theorem k_X8_turn : Cf yX8_turn wsX8_turn rm_X8_turn cX8_turn 6 (some .int) 0 := ⟨⟨_, rfl⟩, by decide +kernel, by decide +kernel, by decide +kernel⟩
set_option maxRecDepth 100000 in
set_option maxHeartbeats 4000000 in
theorem b_X8_turn (G : CG) (hl : (gL G).stackTraces = false) (h8 : Nat) (qz : Nat) (qv : Nat) (qp : Nat) (qf : Nat) (qo : Nat) (mT : Int32) (mZ : (Nat → Int32)) (mU : (Nat → Int32)) (mV : Int32) (mP : (Nat → Int32)) (mB : (Nat → Int32)) (mY : Int32) (mR : (Nat → Int32)) (mO : Int32) (mS : Int32) (mW : Int32) (mH : Int64) (y : Int32 × Int32 × (Nat → Int32) × (Nat → Int32) × Int32 × (Nat → Int32)) (hf : f_X8_turn mZ mU mV mP = some y) : Ct G yX8_turn wsX8_turn rm_X8_turn [.ref h8] [(h8, .inr (8, [.int mT, .ref qz, .ref qv, .int mV, .ref qp, .ref qf, .int mY, .ref qo, .int mO, .int mS, .int mW, .long mH])), (qz, .inl (gI G, 1027, .inl mZ)), (qv, .inl (gI G, 6162, .inl mU)), (qp, .inl (gI G, 512, .inl mP)), (qf, .inl (gI G, 60, .inl mB)), (qo, .inl (gI G, 60, .inl mR))] (fin1 (some (.int y.1)) [(h8, .inr (8, [.int y.2.1, .ref qz, .ref qv, .int y.2.2.2.2.1, .ref qp, .ref qf, .int mY, .ref qo, .int mO, .int mS, .int mW, .long mH])), (qz, .inl (gI G, 1027, .inl y.2.2.1)), (qv, .inl (gI G, 6162, .inl y.2.2.2.1)), (qp, .inl (gI G, 512, .inl y.2.2.2.2.2)), (qf, .inl (gI G, 60, .inl mB)), (qo, .inl (gI G, 60, .inl mR))]) 0 0 := by
  refine Ct.of (cc := cX8_turn) (N := 6) (ret := (some .int)) RX8 (by decide) rfl rfl hl (Nat.le_of_ble_eq_true rfl) (lv := [(0, .ref h8)]) rfl (fun X hXG C hex hnm hQ => ?_)
  subst hXG
  unfold f_X8_turn at hf
  refine j_aload_n C dX8_turn_0 rfl 0 rfl ?_
  refine j_iconst C (v := 0) dX8_turn_1 (by decide) ?_
  refine j_put8 (ty := .int) (ws' := [(h8, .inr (8, [.int 0, .ref qz, .ref qv, .int mV, .ref qp, .ref qf, .int mY, .ref qo, .int mO, .int mS, .int mW, .long mH])), (qz, .inl (gI X.1, 1027, .inl mZ)), (qv, .inl (gI X.1, 6162, .inl mU)), (qp, .inl (gI X.1, 512, .inl mP)), (qf, .inl (gI X.1, 60, .inl mB)), (qo, .inl (gI X.1, 60, .inl mR))]) C 0 rfl 0 (by decide) in_X8_turn_8 lk_X8_turn_25 rfl (by decide +kernel) rfl rfl (Nat.le_of_ble_eq_true rfl) rfl dX8_turn_2 ?_
  refine j_aload_n C dX8_turn_5 rfl 0 rfl ?_
  obtain ⟨r6, hc6, hf⟩ := Option.bind_eq_some_iff.mp hf
  refine j_cV C (b_X8_save X.1 hl h8 qz qv qp qf qo 0 mZ mU mV mP mB mY mR mO mS mW mH r6 hc6) k_X8_save gX8_turn_X8_save rfl (ci := 8) (q0 := 0) rfl rfl (As := []) (rest := []) (st' := []) (ws' := [(h8, .inr (8, [.int 0, .ref qz, .ref qv, .int r6.2, .ref qp, .ref qf, .int mY, .ref qo, .int mO, .int mS, .int mW, .long mH])), (qz, .inl (gI X.1, 1027, .inl mZ)), (qv, .inl (gI X.1, 6162, .inl r6.1)), (qp, .inl (gI X.1, 512, .inl mP)), (qf, .inl (gI X.1, 60, .inl mB)), (qo, .inl (gI X.1, 60, .inl mR))]) rfl rfl dX8_turn_6 [0, 1, 2, 3, 4, 5] [] [0, 1, 2, 3, 4, 5] rfl rfl rfl rfl rfl rfl ?_
  refine j_aload_n C dX8_turn_9 rfl 0 rfl ?_
  obtain ⟨r10, hc10, hf⟩ := Option.bind_eq_some_iff.mp hf
  refine j_cV C (b_X8_putAside X.1 hl h8 qz qv qp qf qo 0 mZ r6.1 r6.2 mP mB mY mR mO mS mW mH r10 hc10) k_X8_putAside gX8_turn_X8_putAside rfl (ci := 8) (q0 := 0) rfl rfl (As := []) (rest := []) (st' := []) (ws' := [(h8, .inr (8, [.int 0, .ref qz, .ref qv, .int r6.2, .ref qp, .ref qf, .int mY, .ref qo, .int mO, .int mS, .int mW, .long mH])), (qz, .inl (gI X.1, 1027, .inl mZ)), (qv, .inl (gI X.1, 6162, .inl r6.1)), (qp, .inl (gI X.1, 512, .inl r10)), (qf, .inl (gI X.1, 60, .inl mB)), (qo, .inl (gI X.1, 60, .inl mR))]) rfl rfl dX8_turn_10 [0, 1, 2, 3, 4, 5] [] [0, 1, 2, 3, 4, 5] rfl rfl rfl rfl rfl rfl ?_
  refine j_aload_n C dX8_turn_13 rfl 0 rfl ?_
  refine j_get8 C 0 rfl 1 (by decide) in_X8_turn_8 lk_X8_turn_7 rfl dX8_turn_14 ?_
  refine j_iconst C (v := 0) dX8_turn_17 (by decide) ?_
  refine j_iald C 1 rfl (by unfold vp_in; decide) dX8_turn_18 ?_
  refine j_istore_n (lv' := [(1, .int (mZ 0)), (0, .ref h8)]) C dX8_turn_19 rfl (by decide) rfl ?_
  refine j_iconst C (v := 0) dX8_turn_20 (by decide) ?_
  refine j_istore_n (lv' := [(2, .int 0), (1, .int (mZ 0)), (0, .ref h8)]) C dX8_turn_21 rfl (by decide) rfl ?_
  have kk22 : ∀ (n : Nat) (x22_2 : Int32) (mZ_22 : (Nat → Int32)), dz_iter n (fun s : Int32 × (Nat → Int32) => f_X8_turn_L22 mZ r10 r6 s.1 s.2) (x22_2, mZ_22) = some y → Jt X [(h8, .inr (8, [.int 0, .ref qz, .ref qv, .int r6.2, .ref qp, .ref qf, .int mY, .ref qo, .int mO, .int mS, .int mW, .long mH])), (qz, .inl (gI X.1, 1027, .inl mZ_22)), (qv, .inl (gI X.1, 6162, .inl r6.1)), (qp, .inl (gI X.1, 512, .inl r10)), (qf, .inl (gI X.1, 60, .inl mB)), (qo, .inl (gI X.1, 60, .inl mR))] 0 0 22 [(0, .ref h8), (1, .int (mZ 0)), (2, .int x22_2)] [] := by
    intro n
    induction n with
    | zero => intro x22_2 mZ_22 hit; exact absurd hit (by simp [dz_iter])
    | succ n ih22 =>
      intro x22_2 mZ_22 hit
      obtain ⟨y22, hf, hg22⟩ := dz_iter_succ hit
      replace hf : f_X8_turn_L22 mZ r10 r6 x22_2 mZ_22 = some y22 := hf
      unfold f_X8_turn_L22 at hf
      refine j_iload_n C dX8_turn_22 rfl 2 rfl ?_
      refine j_iload_n C dX8_turn_23 rfl 1 rfl ?_
      refine j_iload_n C dX8_turn_24 rfl 1 rfl ?_
      refine j_imul C dX8_turn_25 ?_
      refine j_iload_n C dX8_turn_26 rfl 1 rfl ?_
      refine j_imul C dX8_turn_27 ?_
      refine j_icmp_ge C (tgt := 83) dX8_turn_28 (by decide) (fun e28 => ?_) (fun e28 => ?_)
      · have hf := (if_pos e28).symm.trans hf
        refine j_aload_n C dX8_turn_83 rfl 0 rfl ?_
        obtain ⟨r84, hc84, hf⟩ := Option.bind_eq_some_iff.mp hf
        refine j_cV C (b_X8_room X.1 hl h8 qz qv qp qf qo 0 mZ_22 r6.1 r6.2 r10 mB mY mR mO mS mW mH r84 hc84) k_X8_room gX8_turn_X8_room rfl (ci := 8) (q0 := 0) rfl rfl (As := []) (rest := []) (st' := [.int r84]) (ws' := [(h8, .inr (8, [.int 0, .ref qz, .ref qv, .int r6.2, .ref qp, .ref qf, .int mY, .ref qo, .int mO, .int mS, .int mW, .long mH])), (qz, .inl (gI X.1, 1027, .inl mZ_22)), (qv, .inl (gI X.1, 6162, .inl r6.1)), (qp, .inl (gI X.1, 512, .inl r10)), (qf, .inl (gI X.1, 60, .inl mB)), (qo, .inl (gI X.1, 60, .inl mR))]) rfl rfl dX8_turn_84 [0, 1, 2, 3, 4, 5] [] [0, 1, 2, 3, 4, 5] rfl rfl rfl rfl rfl rfl ?_
        obtain rfl := Option.some.inj hf
        obtain rfl := dz_go_inr hg22
        exact j_iret C hQ rfl dX8_turn_87 (Nat.zero_le _) (Nat.zero_le _) ⟨rfl, rfl⟩
      · have hf := (if_neg e28).symm.trans hf
        refine j_iload_n C dX8_turn_31 rfl 2 rfl ?_
        refine j_iload_n C dX8_turn_32 rfl 1 rfl ?_
        obtain ⟨z33, hf⟩ := dz_nz_some hf
        refine j_irem C dX8_turn_33 z33 ?_
        refine j_istore_n (lv' := [(3, .int (x22_2 - x22_2 / (mZ 0) * (mZ 0))), (0, .ref h8), (1, .int (mZ 0)), (2, .int x22_2)]) C dX8_turn_34 rfl (by decide) rfl ?_
        refine j_iload_n C dX8_turn_35 rfl 3 rfl ?_
        refine j_iload_n C dX8_turn_36 rfl 2 rfl ?_
        obtain ⟨z37, hf⟩ := dz_nz_some hf
        refine j_idiv C dX8_turn_37 z37 ?_
        refine j_iload_n C dX8_turn_38 rfl 2 rfl ?_
        obtain ⟨z39, hf⟩ := dz_nz_some hf
        refine j_irem C dX8_turn_39 z39 ?_
        refine j_istore (lv' := [(4, .int ((x22_2 / (mZ 0)) - (x22_2 / (mZ 0)) / (mZ 0) * (mZ 0))), (3, .int (x22_2 - x22_2 / (mZ 0) * (mZ 0))), (0, .ref h8), (1, .int (mZ 0)), (2, .int x22_2)]) C dX8_turn_40 (by decide) rfl ?_
        refine j_iload_n C dX8_turn_42 rfl 4 rfl ?_
        refine j_iload_n C dX8_turn_43 rfl 3 rfl ?_
        refine j_iload_n C dX8_turn_44 rfl 3 rfl ?_
        refine j_imul C dX8_turn_45 ?_
        obtain ⟨z46, hf⟩ := dz_nz_some hf
        refine j_idiv C dX8_turn_46 z46 ?_
        refine j_istore (lv' := [(5, .int (x22_2 / ((mZ 0) * (mZ 0)))), (4, .int ((x22_2 / (mZ 0)) - (x22_2 / (mZ 0)) / (mZ 0) * (mZ 0))), (3, .int (x22_2 - x22_2 / (mZ 0) * (mZ 0))), (0, .ref h8), (1, .int (mZ 0)), (2, .int x22_2)]) C dX8_turn_47 (by decide) rfl ?_
        refine j_aload_n C dX8_turn_49 rfl 3 rfl ?_
        refine j_get8 C 0 rfl 1 (by decide) in_X8_turn_8 lk_X8_turn_7 rfl dX8_turn_50 ?_
        refine j_iconst C (v := 3) dX8_turn_53 (by decide) ?_
        refine j_iload C dX8_turn_54 0 rfl ?_
        refine j_iload_n C dX8_turn_56 rfl 2 rfl ?_
        refine j_iload C dX8_turn_57 1 rfl ?_
        refine j_cS C (c_X8_place X.1 hl (x22_2 / ((mZ 0) * (mZ 0))) (x22_2 - x22_2 / (mZ 0) * (mZ 0)) ((x22_2 / (mZ 0)) - (x22_2 / (mZ 0)) / (mZ 0) * (mZ 0))) k_X8_place gX8_turn_X8_place (As := [.int (x22_2 / ((mZ 0) * (mZ 0))), .int (x22_2 - x22_2 / (mZ 0) * (mZ 0)), .int ((x22_2 / (mZ 0)) - (x22_2 / (mZ 0)) / (mZ 0) * (mZ 0))]) (rest := [.int 3, .ref qz]) (st' := [.int (f_X8_place (x22_2 / ((mZ 0) * (mZ 0))) (x22_2 - x22_2 / (mZ 0) * (mZ 0)) ((x22_2 / (mZ 0)) - (x22_2 / (mZ 0)) / (mZ 0) * (mZ 0))), .int 3, .ref qz]) (ws' := [(h8, .inr (8, [.int 0, .ref qz, .ref qv, .int r6.2, .ref qp, .ref qf, .int mY, .ref qo, .int mO, .int mS, .int mW, .long mH])), (qz, .inl (gI X.1, 1027, .inl mZ_22)), (qv, .inl (gI X.1, 6162, .inl r6.1)), (qp, .inl (gI X.1, 512, .inl r10)), (qf, .inl (gI X.1, 60, .inl mB)), (qo, .inl (gI X.1, 60, .inl mR))]) rfl rfl dX8_turn_59 [] [0, 1, 2, 3, 4, 5] [0, 1, 2, 3, 4, 5] rfl rfl rfl rfl rfl rfl ?_
        refine j_iadd C dX8_turn_62 ?_
        refine j_aload_n C dX8_turn_63 rfl 3 rfl ?_
        refine j_get8 C 0 rfl 4 (by decide) in_X8_turn_8 lk_X8_turn_16 rfl dX8_turn_64 ?_
        refine j_iload_n C dX8_turn_67 rfl 2 rfl ?_
        refine j_iload C dX8_turn_68 1 rfl ?_
        refine j_iload C dX8_turn_70 0 rfl ?_
        refine j_cS C (c_X8_place X.1 hl (x22_2 - x22_2 / (mZ 0) * (mZ 0)) ((x22_2 / (mZ 0)) - (x22_2 / (mZ 0)) / (mZ 0) * (mZ 0)) (x22_2 / ((mZ 0) * (mZ 0)))) k_X8_place gX8_turn_X8_place (As := [.int (x22_2 - x22_2 / (mZ 0) * (mZ 0)), .int ((x22_2 / (mZ 0)) - (x22_2 / (mZ 0)) / (mZ 0) * (mZ 0)), .int (x22_2 / ((mZ 0) * (mZ 0)))]) (rest := [.ref qp, .int (3 + (f_X8_place (x22_2 / ((mZ 0) * (mZ 0))) (x22_2 - x22_2 / (mZ 0) * (mZ 0)) ((x22_2 / (mZ 0)) - (x22_2 / (mZ 0)) / (mZ 0) * (mZ 0)))), .ref qz]) (st' := [.int (f_X8_place (x22_2 - x22_2 / (mZ 0) * (mZ 0)) ((x22_2 / (mZ 0)) - (x22_2 / (mZ 0)) / (mZ 0) * (mZ 0)) (x22_2 / ((mZ 0) * (mZ 0)))), .ref qp, .int (3 + (f_X8_place (x22_2 / ((mZ 0) * (mZ 0))) (x22_2 - x22_2 / (mZ 0) * (mZ 0)) ((x22_2 / (mZ 0)) - (x22_2 / (mZ 0)) / (mZ 0) * (mZ 0)))), .ref qz]) (ws' := [(h8, .inr (8, [.int 0, .ref qz, .ref qv, .int r6.2, .ref qp, .ref qf, .int mY, .ref qo, .int mO, .int mS, .int mW, .long mH])), (qz, .inl (gI X.1, 1027, .inl mZ_22)), (qv, .inl (gI X.1, 6162, .inl r6.1)), (qp, .inl (gI X.1, 512, .inl r10)), (qf, .inl (gI X.1, 60, .inl mB)), (qo, .inl (gI X.1, 60, .inl mR))]) rfl rfl dX8_turn_72 [] [0, 1, 2, 3, 4, 5] [0, 1, 2, 3, 4, 5] rfl rfl rfl rfl rfl rfl ?_
        obtain ⟨z75, hf⟩ := dz_in_some hf
        refine j_iald C 3 rfl z75 dX8_turn_75 ?_
        obtain ⟨z76, hf⟩ := dz_in_some hf
        refine j_iast (ws' := [(h8, .inr (8, [.int 0, .ref qz, .ref qv, .int r6.2, .ref qp, .ref qf, .int mY, .ref qo, .int mO, .int mS, .int mW, .long mH])), (qz, .inl (gI X.1, 1027, .inl (upd mZ_22 (Int32.toNatClampNeg (3 + (f_X8_place (x22_2 / ((mZ 0) * (mZ 0))) (x22_2 - x22_2 / (mZ 0) * (mZ 0)) ((x22_2 / (mZ 0)) - (x22_2 / (mZ 0)) / (mZ 0) * (mZ 0))))) (r10 (Int32.toNatClampNeg (f_X8_place (x22_2 - x22_2 / (mZ 0) * (mZ 0)) ((x22_2 / (mZ 0)) - (x22_2 / (mZ 0)) / (mZ 0) * (mZ 0)) (x22_2 / ((mZ 0) * (mZ 0))))))))), (qv, .inl (gI X.1, 6162, .inl r6.1)), (qp, .inl (gI X.1, 512, .inl r10)), (qf, .inl (gI X.1, 60, .inl mB)), (qo, .inl (gI X.1, 60, .inl mR))]) C 1 rfl z76 rfl dX8_turn_76 ?_
        refine j_iinc (v := (x22_2 + 1)) (lv' := [(2, .int (x22_2 + 1)), (5, .int (x22_2 / ((mZ 0) * (mZ 0)))), (4, .int ((x22_2 / (mZ 0)) - (x22_2 / (mZ 0)) / (mZ 0) * (mZ 0))), (3, .int (x22_2 - x22_2 / (mZ 0) * (mZ 0))), (0, .ref h8), (1, .int (mZ 0))]) C dX8_turn_77 5 rfl (by first | rfl | decide) (by decide) rfl ?_
        refine j_goto C (tgt := 22) dX8_turn_80 (by decide) ?_
        obtain rfl := Option.some.inj hf
        have hf := dz_go_inl hg22
        refine j_loc [4, 5, 0] rfl ?_
        exact ih22 (x22_2 + 1) (upd mZ_22 (Int32.toNatClampNeg (3 + (f_X8_place (x22_2 / ((mZ 0) * (mZ 0))) (x22_2 - x22_2 / (mZ 0) * (mZ 0)) ((x22_2 / (mZ 0)) - (x22_2 / (mZ 0)) / (mZ 0) * (mZ 0))))) (r10 (Int32.toNatClampNeg (f_X8_place (x22_2 - x22_2 / (mZ 0) * (mZ 0)) ((x22_2 / (mZ 0)) - (x22_2 / (mZ 0)) / (mZ 0) * (mZ 0)) (x22_2 / ((mZ 0) * (mZ 0))))))) hf
  refine j_loc [2, 1, 0] rfl ?_
  exact kk22 _ 0 mZ hf

theorem lk_X8_keep_25 : Cond.fieldLink RX8 25 (TX8 0).1 (TX8 0).2.1 (TX8 0).2.2.1 ∈ wsX8_keep := by decide +kernel
theorem in_X8_keep_8 : ∀ w ∈ wsX80, w ∈ wsX8_keep := by decide +kernel
theorem lk_X8_keep_7 : Cond.fieldLink RX8 7 (TX8 1).1 (TX8 1).2.1 (TX8 1).2.2.1 ∈ wsX8_keep := by decide +kernel
def f_X8_keep_J13 (p1 : Int32) (mZ : (Nat → Int32)) (mU : (Nat → Int32)) (mV : Int32) (s13_0 : Int32) : Option (Int32 × Int32 × (Nat → Int32) × (Nat → Int32) × Int32) :=
  if s13_0 ≤ 0 then Option.bind (f_X8_save mZ mU mV) (fun r26 => Option.bind (f_X8_room (upd mZ 1 p1)) (fun r37 => some ((r37, s13_0, (upd mZ 1 p1), r26.1, r26.2)))) else some ((0, s13_0, mZ, mU, mV))
def f_X8_keep (p1 : Int32) (mZ : (Nat → Int32)) (mU : (Nat → Int32)) (mV : Int32) : Option (Int32 × Int32 × (Nat → Int32) × (Nat → Int32) × Int32) :=
  if (f_X8_isAxis p1) = 0 then (f_X8_keep_J13 p1 mZ mU mV 1) else (f_X8_keep_J13 p1 mZ mU mV 0)
abbrev rm_X8_keep : Room := { frames := 10, cells := 0, slots := 0, locals := 222 }
theorem k_X8_keep : Cf yX8_keep wsX8_keep rm_X8_keep cX8_keep 2 (some .int) 1 := ⟨⟨_, rfl⟩, by decide +kernel, by decide +kernel, by decide +kernel⟩
set_option maxRecDepth 100000 in
set_option maxHeartbeats 4000000 in
theorem b_X8_keep (G : CG) (hl : (gL G).stackTraces = false) (h8 : Nat) (qz : Nat) (qv : Nat) (qp : Nat) (qf : Nat) (qo : Nat) (mT : Int32) (mZ : (Nat → Int32)) (mU : (Nat → Int32)) (mV : Int32) (mP : (Nat → Int32)) (mB : (Nat → Int32)) (mY : Int32) (mR : (Nat → Int32)) (mO : Int32) (mS : Int32) (mW : Int32) (mH : Int64) (p1 : Int32) (y : Int32 × Int32 × (Nat → Int32) × (Nat → Int32) × Int32) (hf : f_X8_keep p1 mZ mU mV = some y) : Ct G yX8_keep wsX8_keep rm_X8_keep [.ref h8, .int p1] [(h8, .inr (8, [.int mT, .ref qz, .ref qv, .int mV, .ref qp, .ref qf, .int mY, .ref qo, .int mO, .int mS, .int mW, .long mH])), (qz, .inl (gI G, 1027, .inl mZ)), (qv, .inl (gI G, 6162, .inl mU)), (qp, .inl (gI G, 512, .inl mP)), (qf, .inl (gI G, 60, .inl mB)), (qo, .inl (gI G, 60, .inl mR))] (fin1 (some (.int y.1)) [(h8, .inr (8, [.int y.2.1, .ref qz, .ref qv, .int y.2.2.2.2, .ref qp, .ref qf, .int mY, .ref qo, .int mO, .int mS, .int mW, .long mH])), (qz, .inl (gI G, 1027, .inl y.2.2.1)), (qv, .inl (gI G, 6162, .inl y.2.2.2.1)), (qp, .inl (gI G, 512, .inl mP)), (qf, .inl (gI G, 60, .inl mB)), (qo, .inl (gI G, 60, .inl mR))]) 0 0 := by
  refine Ct.of (cc := cX8_keep) (N := 2) (ret := (some .int)) RX8 (by decide) rfl rfl hl (Nat.le_of_ble_eq_true rfl) (lv := [(0, .ref h8), (1, .int p1)]) rfl (fun X hXG C hex hnm hQ => ?_)
  subst hXG
  unfold f_X8_keep at hf
  refine j_aload_n C dX8_keep_0 rfl 0 rfl ?_
  refine j_iload_n C dX8_keep_1 rfl 1 rfl ?_
  refine j_cS C (c_X8_isAxis X.1 hl p1) k_X8_isAxis gX8_keep_X8_isAxis (As := [.int p1]) (rest := [.ref h8]) (st' := [.int (f_X8_isAxis p1), .ref h8]) (ws' := [(h8, .inr (8, [.int mT, .ref qz, .ref qv, .int mV, .ref qp, .ref qf, .int mY, .ref qo, .int mO, .int mS, .int mW, .long mH])), (qz, .inl (gI X.1, 1027, .inl mZ)), (qv, .inl (gI X.1, 6162, .inl mU)), (qp, .inl (gI X.1, 512, .inl mP)), (qf, .inl (gI X.1, 60, .inl mB)), (qo, .inl (gI X.1, 60, .inl mR))]) rfl rfl dX8_keep_2 [] [0, 1, 2, 3, 4, 5] [0, 1, 2, 3, 4, 5] rfl rfl rfl rfl rfl rfl ?_
  have k13 : ∀ (s13_0 : Int32), f_X8_keep_J13 p1 mZ mU mV s13_0 = some y → Jt X [(h8, .inr (8, [.int mT, .ref qz, .ref qv, .int mV, .ref qp, .ref qf, .int mY, .ref qo, .int mO, .int mS, .int mW, .long mH])), (qz, .inl (gI X.1, 1027, .inl mZ)), (qv, .inl (gI X.1, 6162, .inl mU)), (qp, .inl (gI X.1, 512, .inl mP)), (qf, .inl (gI X.1, 60, .inl mB)), (qo, .inl (gI X.1, 60, .inl mR))] 0 0 13 [(0, .ref h8), (1, .int p1)] [.int s13_0, .ref h8] := by
    intro s13_0 hf
    unfold f_X8_keep_J13 at hf
    refine j_put8 (ty := .int) (ws' := [(h8, .inr (8, [.int s13_0, .ref qz, .ref qv, .int mV, .ref qp, .ref qf, .int mY, .ref qo, .int mO, .int mS, .int mW, .long mH])), (qz, .inl (gI X.1, 1027, .inl mZ)), (qv, .inl (gI X.1, 6162, .inl mU)), (qp, .inl (gI X.1, 512, .inl mP)), (qf, .inl (gI X.1, 60, .inl mB)), (qo, .inl (gI X.1, 60, .inl mR))]) C 0 rfl 0 (by decide) in_X8_keep_8 lk_X8_keep_25 rfl (by decide +kernel) rfl rfl (Nat.le_of_ble_eq_true rfl) rfl dX8_keep_13 ?_
    refine j_aload_n C dX8_keep_16 rfl 0 rfl ?_
    refine j_get8 C 0 rfl 0 (by decide) in_X8_keep_8 lk_X8_keep_25 rfl dX8_keep_17 ?_
    refine j_if_le C (tgt := 25) dX8_keep_20 (by decide) (fun e20 => ?_) (fun e20 => ?_)
    · have hf := (if_pos e20).symm.trans hf
      refine j_aload_n C dX8_keep_25 rfl 0 rfl ?_
      obtain ⟨r26, hc26, hf⟩ := Option.bind_eq_some_iff.mp hf
      refine j_cV C (b_X8_save X.1 hl h8 qz qv qp qf qo s13_0 mZ mU mV mP mB mY mR mO mS mW mH r26 hc26) k_X8_save gX8_keep_X8_save rfl (ci := 8) (q0 := 0) rfl rfl (As := []) (rest := []) (st' := []) (ws' := [(h8, .inr (8, [.int s13_0, .ref qz, .ref qv, .int r26.2, .ref qp, .ref qf, .int mY, .ref qo, .int mO, .int mS, .int mW, .long mH])), (qz, .inl (gI X.1, 1027, .inl mZ)), (qv, .inl (gI X.1, 6162, .inl r26.1)), (qp, .inl (gI X.1, 512, .inl mP)), (qf, .inl (gI X.1, 60, .inl mB)), (qo, .inl (gI X.1, 60, .inl mR))]) rfl rfl dX8_keep_26 [0, 1, 2, 3, 4, 5] [] [0, 1, 2, 3, 4, 5] rfl rfl rfl rfl rfl rfl ?_
      refine j_aload_n C dX8_keep_29 rfl 0 rfl ?_
      refine j_get8 C 0 rfl 1 (by decide) in_X8_keep_8 lk_X8_keep_7 rfl dX8_keep_30 ?_
      refine j_iconst C (v := 1) dX8_keep_33 (by decide) ?_
      refine j_iload_n C dX8_keep_34 rfl 1 rfl ?_
      refine j_iast (ws' := [(h8, .inr (8, [.int s13_0, .ref qz, .ref qv, .int r26.2, .ref qp, .ref qf, .int mY, .ref qo, .int mO, .int mS, .int mW, .long mH])), (qz, .inl (gI X.1, 1027, .inl (upd mZ 1 p1))), (qv, .inl (gI X.1, 6162, .inl r26.1)), (qp, .inl (gI X.1, 512, .inl mP)), (qf, .inl (gI X.1, 60, .inl mB)), (qo, .inl (gI X.1, 60, .inl mR))]) C 1 rfl (by unfold vp_in; decide) rfl dX8_keep_35 ?_
      refine j_aload_n C dX8_keep_36 rfl 0 rfl ?_
      obtain ⟨r37, hc37, hf⟩ := Option.bind_eq_some_iff.mp hf
      refine j_cV C (b_X8_room X.1 hl h8 qz qv qp qf qo s13_0 (upd mZ 1 p1) r26.1 r26.2 mP mB mY mR mO mS mW mH r37 hc37) k_X8_room gX8_keep_X8_room rfl (ci := 8) (q0 := 0) rfl rfl (As := []) (rest := []) (st' := [.int r37]) (ws' := [(h8, .inr (8, [.int s13_0, .ref qz, .ref qv, .int r26.2, .ref qp, .ref qf, .int mY, .ref qo, .int mO, .int mS, .int mW, .long mH])), (qz, .inl (gI X.1, 1027, .inl (upd mZ 1 p1))), (qv, .inl (gI X.1, 6162, .inl r26.1)), (qp, .inl (gI X.1, 512, .inl mP)), (qf, .inl (gI X.1, 60, .inl mB)), (qo, .inl (gI X.1, 60, .inl mR))]) rfl rfl dX8_keep_37 [0, 1, 2, 3, 4, 5] [] [0, 1, 2, 3, 4, 5] rfl rfl rfl rfl rfl rfl ?_
      obtain rfl := Option.some.inj hf
      exact j_iret C hQ rfl dX8_keep_40 (Nat.zero_le _) (Nat.zero_le _) ⟨rfl, rfl⟩
    · have hf := (if_neg e20).symm.trans hf
      refine j_iconst C (v := 0) dX8_keep_23 (by decide) ?_
      obtain rfl := Option.some.inj hf
      exact j_iret C hQ rfl dX8_keep_24 (Nat.zero_le _) (Nat.zero_le _) ⟨rfl, rfl⟩
  refine j_if_eq C (tgt := 12) dX8_keep_5 (by decide) (fun e5 => ?_) (fun e5 => ?_)
  · have hf := (if_pos e5).symm.trans hf
    refine j_iconst C (v := 1) dX8_keep_12 (by decide) ?_
    refine j_loc [0, 1] rfl ?_
    exact k13 1 hf
  · have hf := (if_neg e5).symm.trans hf
    refine j_iconst C (v := 0) dX8_keep_8 (by decide) ?_
    refine j_goto C (tgt := 13) dX8_keep_9 (by decide) ?_
    refine j_loc [0, 1] rfl ?_
    exact k13 0 hf

theorem lk_X8_differences_7 : Cond.fieldLink RX8 7 (TX8 1).1 (TX8 1).2.1 (TX8 1).2.2.1 ∈ wsX8_differences := by decide +kernel
theorem in_X8_differences_8 : ∀ w ∈ wsX80, w ∈ wsX8_differences := by decide +kernel
def f_X8_differences_J38 (s38_0 : Int32) (x4_1 : Int32) (x4_2 : Int32) : Option ((Int32 × Int32) ⊕ (Int32)) :=
  some (.inl ((x4_1 + s38_0), (x4_2 + 1)))
def f_X8_differences_L4 (mZ : (Nat → Int32)) (x4_1 : Int32) (x4_2 : Int32) : Option ((Int32 × Int32) ⊕ (Int32)) :=
  if 512 ≤ x4_2 then some (.inr (x4_1)) else dz_in (3 + x4_2) 1027 (dz_in (515 + x4_2) 1027 (if (mZ (Int32.toNatClampNeg (3 + x4_2))) = (mZ (Int32.toNatClampNeg (515 + x4_2))) then (f_X8_differences_J38 0 x4_1 x4_2) else (f_X8_differences_J38 1 x4_1 x4_2)))
def f_X8_differences (mZ : (Nat → Int32)) : Option (Int32) :=
  dz_it (fun s : Int32 × Int32 => f_X8_differences_L4 mZ s.1 s.2) (0, 0)
abbrev rm_X8_differences : Room := { frames := 1, cells := 0, slots := 0, locals := 16 }
theorem k_X8_differences : Cf yX8_differences wsX8_differences rm_X8_differences cX8_differences 3 (some .int) 0 := ⟨⟨_, rfl⟩, by decide +kernel, by decide +kernel, by decide +kernel⟩
set_option maxRecDepth 100000 in
set_option maxHeartbeats 4000000 in
theorem b_X8_differences (G : CG) (hl : (gL G).stackTraces = false) (h8 : Nat) (qz : Nat) (qv : Nat) (qp : Nat) (qf : Nat) (qo : Nat) (mT : Int32) (mZ : (Nat → Int32)) (mU : (Nat → Int32)) (mV : Int32) (mP : (Nat → Int32)) (mB : (Nat → Int32)) (mY : Int32) (mR : (Nat → Int32)) (mO : Int32) (mS : Int32) (mW : Int32) (mH : Int64) (y : Int32) (hf : f_X8_differences mZ = some y) : Ct G yX8_differences wsX8_differences rm_X8_differences [.ref h8] [(h8, .inr (8, [.int mT, .ref qz, .ref qv, .int mV, .ref qp, .ref qf, .int mY, .ref qo, .int mO, .int mS, .int mW, .long mH])), (qz, .inl (gI G, 1027, .inl mZ)), (qv, .inl (gI G, 6162, .inl mU)), (qp, .inl (gI G, 512, .inl mP)), (qf, .inl (gI G, 60, .inl mB)), (qo, .inl (gI G, 60, .inl mR))] (fin1 (some (.int y)) [(h8, .inr (8, [.int mT, .ref qz, .ref qv, .int mV, .ref qp, .ref qf, .int mY, .ref qo, .int mO, .int mS, .int mW, .long mH])), (qz, .inl (gI G, 1027, .inl mZ)), (qv, .inl (gI G, 6162, .inl mU)), (qp, .inl (gI G, 512, .inl mP)), (qf, .inl (gI G, 60, .inl mB)), (qo, .inl (gI G, 60, .inl mR))]) 0 0 := by
  refine Ct.of (cc := cX8_differences) (N := 3) (ret := (some .int)) RX8 (by decide) rfl rfl hl (Nat.le_of_ble_eq_true rfl) (lv := [(0, .ref h8)]) rfl (fun X hXG C hex hnm hQ => ?_)
  subst hXG
  unfold f_X8_differences at hf
  refine j_iconst C (v := 0) dX8_differences_0 (by decide) ?_
  refine j_istore_n (lv' := [(1, .int 0), (0, .ref h8)]) C dX8_differences_1 rfl (by decide) rfl ?_
  refine j_iconst C (v := 0) dX8_differences_2 (by decide) ?_
  refine j_istore_n (lv' := [(2, .int 0), (1, .int 0), (0, .ref h8)]) C dX8_differences_3 rfl (by decide) rfl ?_
  have kk4 : ∀ (n : Nat) (x4_1 : Int32) (x4_2 : Int32), dz_iter n (fun s : Int32 × Int32 => f_X8_differences_L4 mZ s.1 s.2) (x4_1, x4_2) = some y → Jt X [(h8, .inr (8, [.int mT, .ref qz, .ref qv, .int mV, .ref qp, .ref qf, .int mY, .ref qo, .int mO, .int mS, .int mW, .long mH])), (qz, .inl (gI X.1, 1027, .inl mZ)), (qv, .inl (gI X.1, 6162, .inl mU)), (qp, .inl (gI X.1, 512, .inl mP)), (qf, .inl (gI X.1, 60, .inl mB)), (qo, .inl (gI X.1, 60, .inl mR))] 0 0 4 [(0, .ref h8), (1, .int x4_1), (2, .int x4_2)] [] := by
    intro n
    induction n with
    | zero => intro x4_1 x4_2 hit; exact absurd hit (by simp [dz_iter])
    | succ n ih4 =>
      intro x4_1 x4_2 hit
      obtain ⟨y4, hf, hg4⟩ := dz_iter_succ hit
      replace hf : f_X8_differences_L4 mZ x4_1 x4_2 = some y4 := hf
      unfold f_X8_differences_L4 at hf
      refine j_iload_n C dX8_differences_4 rfl 2 rfl ?_
      refine j_sipush C (v := 512) dX8_differences_5 (by decide) ?_
      refine j_icmp_ge C (tgt := 46) dX8_differences_8 (by decide) (fun e8 => ?_) (fun e8 => ?_)
      · have hf := (if_pos e8).symm.trans hf
        refine j_iload_n C dX8_differences_46 rfl 1 rfl ?_
        obtain rfl := Option.some.inj hf
        obtain rfl := dz_go_inr hg4
        exact j_iret C hQ rfl dX8_differences_47 (Nat.zero_le _) (Nat.zero_le _) ⟨rfl, rfl⟩
      · have hf := (if_neg e8).symm.trans hf
        refine j_iload_n C dX8_differences_11 rfl 1 rfl ?_
        refine j_aload_n C dX8_differences_12 rfl 0 rfl ?_
        refine j_get8 C 0 rfl 1 (by decide) in_X8_differences_8 lk_X8_differences_7 rfl dX8_differences_13 ?_
        refine j_iconst C (v := 3) dX8_differences_16 (by decide) ?_
        refine j_iload_n C dX8_differences_17 rfl 2 rfl ?_
        refine j_iadd C dX8_differences_18 ?_
        obtain ⟨z19, hf⟩ := dz_in_some hf
        refine j_iald C 1 rfl z19 dX8_differences_19 ?_
        refine j_aload_n C dX8_differences_20 rfl 0 rfl ?_
        refine j_get8 C 0 rfl 1 (by decide) in_X8_differences_8 lk_X8_differences_7 rfl dX8_differences_21 ?_
        refine j_sipush C (v := 515) dX8_differences_24 (by decide) ?_
        refine j_iload_n C dX8_differences_27 rfl 2 rfl ?_
        refine j_iadd C dX8_differences_28 ?_
        obtain ⟨z29, hf⟩ := dz_in_some hf
        refine j_iald C 1 rfl z29 dX8_differences_29 ?_
        have k38 : ∀ (s38_0 : Int32), f_X8_differences_J38 s38_0 x4_1 x4_2 = some y4 → Jt X [(h8, .inr (8, [.int mT, .ref qz, .ref qv, .int mV, .ref qp, .ref qf, .int mY, .ref qo, .int mO, .int mS, .int mW, .long mH])), (qz, .inl (gI X.1, 1027, .inl mZ)), (qv, .inl (gI X.1, 6162, .inl mU)), (qp, .inl (gI X.1, 512, .inl mP)), (qf, .inl (gI X.1, 60, .inl mB)), (qo, .inl (gI X.1, 60, .inl mR))] 0 0 38 [(0, .ref h8), (1, .int x4_1), (2, .int x4_2)] [.int s38_0, .int x4_1] := by
          intro s38_0 hf
          unfold f_X8_differences_J38 at hf
          refine j_iadd C dX8_differences_38 ?_
          refine j_istore_n (lv' := [(1, .int (x4_1 + s38_0)), (0, .ref h8), (2, .int x4_2)]) C dX8_differences_39 rfl (by decide) rfl ?_
          refine j_iinc (v := (x4_2 + 1)) (lv' := [(2, .int (x4_2 + 1)), (1, .int (x4_1 + s38_0)), (0, .ref h8)]) C dX8_differences_40 2 rfl (by first | rfl | decide) (by decide) rfl ?_
          refine j_goto C (tgt := 4) dX8_differences_43 (by decide) ?_
          obtain rfl := Option.some.inj hf
          have hf := dz_go_inl hg4
          refine j_loc [2, 1, 0] rfl ?_
          exact ih4 (x4_1 + s38_0) (x4_2 + 1) hf
        refine j_icmp_ne C (tgt := 37) dX8_differences_30 (by decide) (fun e30 => ?_) (fun e30 => ?_)
        · have hf := (if_neg e30).symm.trans hf
          refine j_iconst C (v := 1) dX8_differences_37 (by decide) ?_
          refine j_loc [0, 1, 2] rfl ?_
          exact k38 1 hf
        · have hf := (if_pos e30).symm.trans hf
          refine j_iconst C (v := 0) dX8_differences_33 (by decide) ?_
          refine j_goto C (tgt := 38) dX8_differences_34 (by decide) ?_
          refine j_loc [0, 1, 2] rfl ?_
          exact k38 0 hf
  refine j_loc [2, 1, 0] rfl ?_
  exact kk4 _ 0 0 hf

theorem lk_X8_mark_25 : Cond.fieldLink RX8 25 (TX8 0).1 (TX8 0).2.1 (TX8 0).2.2.1 ∈ wsX8_mark := by decide +kernel
theorem in_X8_mark_8 : ∀ w ∈ wsX80, w ∈ wsX8_mark := by decide +kernel
theorem lk_X8_mark_7 : Cond.fieldLink RX8 7 (TX8 1).1 (TX8 1).2.1 (TX8 1).2.2.1 ∈ wsX8_mark := by decide +kernel
def f_X8_mark_L16 (r10 : Int32) (r6 : (Nat → Int32) × Int32) (x16_2 : Int32) (mZ_16 : (Nat → Int32)) : Option ((Int32 × (Nat → Int32)) ⊕ (Int32 × Int32 × (Nat → Int32) × (Nat → Int32) × Int32)) :=
  if 512 ≤ x16_2 then some (.inr ((r10, 0, mZ_16, r6.1, r6.2))) else dz_in (3 + x16_2) 1027 (dz_in (515 + x16_2) 1027 (some (.inl ((x16_2 + 1), (upd mZ_16 (Int32.toNatClampNeg (515 + x16_2)) (mZ_16 (Int32.toNatClampNeg (3 + x16_2))))))))
def f_X8_mark (mZ : (Nat → Int32)) (mU : (Nat → Int32)) (mV : Int32) : Option (Int32 × Int32 × (Nat → Int32) × (Nat → Int32) × Int32) :=
  Option.bind (f_X8_save mZ mU mV) (fun r6 => Option.bind (f_X8_differences mZ) (fun r10 => dz_it (fun s : Int32 × (Nat → Int32) => f_X8_mark_L16 r10 r6 s.1 s.2) (0, mZ)))
abbrev rm_X8_mark : Room := { frames := 2, cells := 0, slots := 0, locals := 38 }
theorem k_X8_mark : Cf yX8_mark wsX8_mark rm_X8_mark cX8_mark 3 (some .int) 0 := ⟨⟨_, rfl⟩, by decide +kernel, by decide +kernel, by decide +kernel⟩
set_option maxRecDepth 100000 in
set_option maxHeartbeats 4000000 in
theorem b_X8_mark (G : CG) (hl : (gL G).stackTraces = false) (h8 : Nat) (qz : Nat) (qv : Nat) (qp : Nat) (qf : Nat) (qo : Nat) (mT : Int32) (mZ : (Nat → Int32)) (mU : (Nat → Int32)) (mV : Int32) (mP : (Nat → Int32)) (mB : (Nat → Int32)) (mY : Int32) (mR : (Nat → Int32)) (mO : Int32) (mS : Int32) (mW : Int32) (mH : Int64) (y : Int32 × Int32 × (Nat → Int32) × (Nat → Int32) × Int32) (hf : f_X8_mark mZ mU mV = some y) : Ct G yX8_mark wsX8_mark rm_X8_mark [.ref h8] [(h8, .inr (8, [.int mT, .ref qz, .ref qv, .int mV, .ref qp, .ref qf, .int mY, .ref qo, .int mO, .int mS, .int mW, .long mH])), (qz, .inl (gI G, 1027, .inl mZ)), (qv, .inl (gI G, 6162, .inl mU)), (qp, .inl (gI G, 512, .inl mP)), (qf, .inl (gI G, 60, .inl mB)), (qo, .inl (gI G, 60, .inl mR))] (fin1 (some (.int y.1)) [(h8, .inr (8, [.int y.2.1, .ref qz, .ref qv, .int y.2.2.2.2, .ref qp, .ref qf, .int mY, .ref qo, .int mO, .int mS, .int mW, .long mH])), (qz, .inl (gI G, 1027, .inl y.2.2.1)), (qv, .inl (gI G, 6162, .inl y.2.2.2.1)), (qp, .inl (gI G, 512, .inl mP)), (qf, .inl (gI G, 60, .inl mB)), (qo, .inl (gI G, 60, .inl mR))]) 0 0 := by
  refine Ct.of (cc := cX8_mark) (N := 3) (ret := (some .int)) RX8 (by decide) rfl rfl hl (Nat.le_of_ble_eq_true rfl) (lv := [(0, .ref h8)]) rfl (fun X hXG C hex hnm hQ => ?_)
  subst hXG
  unfold f_X8_mark at hf
  refine j_aload_n C dX8_mark_0 rfl 0 rfl ?_
  refine j_iconst C (v := 0) dX8_mark_1 (by decide) ?_
  refine j_put8 (ty := .int) (ws' := [(h8, .inr (8, [.int 0, .ref qz, .ref qv, .int mV, .ref qp, .ref qf, .int mY, .ref qo, .int mO, .int mS, .int mW, .long mH])), (qz, .inl (gI X.1, 1027, .inl mZ)), (qv, .inl (gI X.1, 6162, .inl mU)), (qp, .inl (gI X.1, 512, .inl mP)), (qf, .inl (gI X.1, 60, .inl mB)), (qo, .inl (gI X.1, 60, .inl mR))]) C 0 rfl 0 (by decide) in_X8_mark_8 lk_X8_mark_25 rfl (by decide +kernel) rfl rfl (Nat.le_of_ble_eq_true rfl) rfl dX8_mark_2 ?_
  refine j_aload_n C dX8_mark_5 rfl 0 rfl ?_
  obtain ⟨r6, hc6, hf⟩ := Option.bind_eq_some_iff.mp hf
  refine j_cV C (b_X8_save X.1 hl h8 qz qv qp qf qo 0 mZ mU mV mP mB mY mR mO mS mW mH r6 hc6) k_X8_save gX8_mark_X8_save rfl (ci := 8) (q0 := 0) rfl rfl (As := []) (rest := []) (st' := []) (ws' := [(h8, .inr (8, [.int 0, .ref qz, .ref qv, .int r6.2, .ref qp, .ref qf, .int mY, .ref qo, .int mO, .int mS, .int mW, .long mH])), (qz, .inl (gI X.1, 1027, .inl mZ)), (qv, .inl (gI X.1, 6162, .inl r6.1)), (qp, .inl (gI X.1, 512, .inl mP)), (qf, .inl (gI X.1, 60, .inl mB)), (qo, .inl (gI X.1, 60, .inl mR))]) rfl rfl dX8_mark_6 [0, 1, 2, 3, 4, 5] [] [0, 1, 2, 3, 4, 5] rfl rfl rfl rfl rfl rfl ?_
  refine j_aload_n C dX8_mark_9 rfl 0 rfl ?_
  obtain ⟨r10, hc10, hf⟩ := Option.bind_eq_some_iff.mp hf
  refine j_cV C (b_X8_differences X.1 hl h8 qz qv qp qf qo 0 mZ r6.1 r6.2 mP mB mY mR mO mS mW mH r10 hc10) k_X8_differences gX8_mark_X8_differences rfl (ci := 8) (q0 := 0) rfl rfl (As := []) (rest := []) (st' := [.int r10]) (ws' := [(h8, .inr (8, [.int 0, .ref qz, .ref qv, .int r6.2, .ref qp, .ref qf, .int mY, .ref qo, .int mO, .int mS, .int mW, .long mH])), (qz, .inl (gI X.1, 1027, .inl mZ)), (qv, .inl (gI X.1, 6162, .inl r6.1)), (qp, .inl (gI X.1, 512, .inl mP)), (qf, .inl (gI X.1, 60, .inl mB)), (qo, .inl (gI X.1, 60, .inl mR))]) rfl rfl dX8_mark_10 [0, 1, 2, 3, 4, 5] [] [0, 1, 2, 3, 4, 5] rfl rfl rfl rfl rfl rfl ?_
  refine j_istore_n (lv' := [(1, .int r10), (0, .ref h8)]) C dX8_mark_13 rfl (by decide) rfl ?_
  refine j_iconst C (v := 0) dX8_mark_14 (by decide) ?_
  refine j_istore_n (lv' := [(2, .int 0), (1, .int r10), (0, .ref h8)]) C dX8_mark_15 rfl (by decide) rfl ?_
  have kk16 : ∀ (n : Nat) (x16_2 : Int32) (mZ_16 : (Nat → Int32)), dz_iter n (fun s : Int32 × (Nat → Int32) => f_X8_mark_L16 r10 r6 s.1 s.2) (x16_2, mZ_16) = some y → Jt X [(h8, .inr (8, [.int 0, .ref qz, .ref qv, .int r6.2, .ref qp, .ref qf, .int mY, .ref qo, .int mO, .int mS, .int mW, .long mH])), (qz, .inl (gI X.1, 1027, .inl mZ_16)), (qv, .inl (gI X.1, 6162, .inl r6.1)), (qp, .inl (gI X.1, 512, .inl mP)), (qf, .inl (gI X.1, 60, .inl mB)), (qo, .inl (gI X.1, 60, .inl mR))] 0 0 16 [(0, .ref h8), (1, .int r10), (2, .int x16_2)] [] := by
    intro n
    induction n with
    | zero => intro x16_2 mZ_16 hit; exact absurd hit (by simp [dz_iter])
    | succ n ih16 =>
      intro x16_2 mZ_16 hit
      obtain ⟨y16, hf, hg16⟩ := dz_iter_succ hit
      replace hf : f_X8_mark_L16 r10 r6 x16_2 mZ_16 = some y16 := hf
      unfold f_X8_mark_L16 at hf
      refine j_iload_n C dX8_mark_16 rfl 2 rfl ?_
      refine j_sipush C (v := 512) dX8_mark_17 (by decide) ?_
      refine j_icmp_ge C (tgt := 47) dX8_mark_20 (by decide) (fun e20 => ?_) (fun e20 => ?_)
      · have hf := (if_pos e20).symm.trans hf
        refine j_iload_n C dX8_mark_47 rfl 1 rfl ?_
        obtain rfl := Option.some.inj hf
        obtain rfl := dz_go_inr hg16
        exact j_iret C hQ rfl dX8_mark_48 (Nat.zero_le _) (Nat.zero_le _) ⟨rfl, rfl⟩
      · have hf := (if_neg e20).symm.trans hf
        refine j_aload_n C dX8_mark_23 rfl 0 rfl ?_
        refine j_get8 C 0 rfl 1 (by decide) in_X8_mark_8 lk_X8_mark_7 rfl dX8_mark_24 ?_
        refine j_sipush C (v := 515) dX8_mark_27 (by decide) ?_
        refine j_iload_n C dX8_mark_30 rfl 2 rfl ?_
        refine j_iadd C dX8_mark_31 ?_
        refine j_aload_n C dX8_mark_32 rfl 0 rfl ?_
        refine j_get8 C 0 rfl 1 (by decide) in_X8_mark_8 lk_X8_mark_7 rfl dX8_mark_33 ?_
        refine j_iconst C (v := 3) dX8_mark_36 (by decide) ?_
        refine j_iload_n C dX8_mark_37 rfl 2 rfl ?_
        refine j_iadd C dX8_mark_38 ?_
        obtain ⟨z39, hf⟩ := dz_in_some hf
        refine j_iald C 1 rfl z39 dX8_mark_39 ?_
        obtain ⟨z40, hf⟩ := dz_in_some hf
        refine j_iast (ws' := [(h8, .inr (8, [.int 0, .ref qz, .ref qv, .int r6.2, .ref qp, .ref qf, .int mY, .ref qo, .int mO, .int mS, .int mW, .long mH])), (qz, .inl (gI X.1, 1027, .inl (upd mZ_16 (Int32.toNatClampNeg (515 + x16_2)) (mZ_16 (Int32.toNatClampNeg (3 + x16_2)))))), (qv, .inl (gI X.1, 6162, .inl r6.1)), (qp, .inl (gI X.1, 512, .inl mP)), (qf, .inl (gI X.1, 60, .inl mB)), (qo, .inl (gI X.1, 60, .inl mR))]) C 1 rfl z40 rfl dX8_mark_40 ?_
        refine j_iinc (v := (x16_2 + 1)) (lv' := [(2, .int (x16_2 + 1)), (0, .ref h8), (1, .int r10)]) C dX8_mark_41 2 rfl (by first | rfl | decide) (by decide) rfl ?_
        refine j_goto C (tgt := 16) dX8_mark_44 (by decide) ?_
        obtain rfl := Option.some.inj hf
        have hf := dz_go_inl hg16
        refine j_loc [1, 2, 0] rfl ?_
        exact ih16 (x16_2 + 1) (upd mZ_16 (Int32.toNatClampNeg (515 + x16_2)) (mZ_16 (Int32.toNatClampNeg (3 + x16_2)))) hf
  refine j_loc [2, 1, 0] rfl ?_
  exact kk16 _ 0 mZ hf

theorem lk_X8_goBack_25 : Cond.fieldLink RX8 25 (TX8 0).1 (TX8 0).2.1 (TX8 0).2.2.1 ∈ wsX8_goBack := by decide +kernel
theorem in_X8_goBack_8 : ∀ w ∈ wsX80, w ∈ wsX8_goBack := by decide +kernel
theorem lk_X8_goBack_7 : Cond.fieldLink RX8 7 (TX8 1).1 (TX8 1).2.1 (TX8 1).2.2.1 ∈ wsX8_goBack := by decide +kernel
def f_X8_goBack_L16 (r10 : Int32) (r6 : (Nat → Int32) × Int32) (x16_2 : Int32) (mZ_16 : (Nat → Int32)) : Option ((Int32 × (Nat → Int32)) ⊕ (Int32 × Int32 × (Nat → Int32) × (Nat → Int32) × Int32)) :=
  if 512 ≤ x16_2 then some (.inr ((r10, 0, mZ_16, r6.1, r6.2))) else dz_in (515 + x16_2) 1027 (dz_in (3 + x16_2) 1027 (some (.inl ((x16_2 + 1), (upd mZ_16 (Int32.toNatClampNeg (3 + x16_2)) (mZ_16 (Int32.toNatClampNeg (515 + x16_2))))))))
def f_X8_goBack (mZ : (Nat → Int32)) (mU : (Nat → Int32)) (mV : Int32) : Option (Int32 × Int32 × (Nat → Int32) × (Nat → Int32) × Int32) :=
  Option.bind (f_X8_save mZ mU mV) (fun r6 => Option.bind (f_X8_differences mZ) (fun r10 => dz_it (fun s : Int32 × (Nat → Int32) => f_X8_goBack_L16 r10 r6 s.1 s.2) (0, mZ)))
abbrev rm_X8_goBack : Room := { frames := 2, cells := 0, slots := 0, locals := 38 }
theorem k_X8_goBack : Cf yX8_goBack wsX8_goBack rm_X8_goBack cX8_goBack 3 (some .int) 0 := ⟨⟨_, rfl⟩, by decide +kernel, by decide +kernel, by decide +kernel⟩
set_option maxRecDepth 100000 in
set_option maxHeartbeats 4000000 in
theorem b_X8_goBack (G : CG) (hl : (gL G).stackTraces = false) (h8 : Nat) (qz : Nat) (qv : Nat) (qp : Nat) (qf : Nat) (qo : Nat) (mT : Int32) (mZ : (Nat → Int32)) (mU : (Nat → Int32)) (mV : Int32) (mP : (Nat → Int32)) (mB : (Nat → Int32)) (mY : Int32) (mR : (Nat → Int32)) (mO : Int32) (mS : Int32) (mW : Int32) (mH : Int64) (y : Int32 × Int32 × (Nat → Int32) × (Nat → Int32) × Int32) (hf : f_X8_goBack mZ mU mV = some y) : Ct G yX8_goBack wsX8_goBack rm_X8_goBack [.ref h8] [(h8, .inr (8, [.int mT, .ref qz, .ref qv, .int mV, .ref qp, .ref qf, .int mY, .ref qo, .int mO, .int mS, .int mW, .long mH])), (qz, .inl (gI G, 1027, .inl mZ)), (qv, .inl (gI G, 6162, .inl mU)), (qp, .inl (gI G, 512, .inl mP)), (qf, .inl (gI G, 60, .inl mB)), (qo, .inl (gI G, 60, .inl mR))] (fin1 (some (.int y.1)) [(h8, .inr (8, [.int y.2.1, .ref qz, .ref qv, .int y.2.2.2.2, .ref qp, .ref qf, .int mY, .ref qo, .int mO, .int mS, .int mW, .long mH])), (qz, .inl (gI G, 1027, .inl y.2.2.1)), (qv, .inl (gI G, 6162, .inl y.2.2.2.1)), (qp, .inl (gI G, 512, .inl mP)), (qf, .inl (gI G, 60, .inl mB)), (qo, .inl (gI G, 60, .inl mR))]) 0 0 := by
  refine Ct.of (cc := cX8_goBack) (N := 3) (ret := (some .int)) RX8 (by decide) rfl rfl hl (Nat.le_of_ble_eq_true rfl) (lv := [(0, .ref h8)]) rfl (fun X hXG C hex hnm hQ => ?_)
  subst hXG
  unfold f_X8_goBack at hf
  refine j_aload_n C dX8_goBack_0 rfl 0 rfl ?_
  refine j_iconst C (v := 0) dX8_goBack_1 (by decide) ?_
  refine j_put8 (ty := .int) (ws' := [(h8, .inr (8, [.int 0, .ref qz, .ref qv, .int mV, .ref qp, .ref qf, .int mY, .ref qo, .int mO, .int mS, .int mW, .long mH])), (qz, .inl (gI X.1, 1027, .inl mZ)), (qv, .inl (gI X.1, 6162, .inl mU)), (qp, .inl (gI X.1, 512, .inl mP)), (qf, .inl (gI X.1, 60, .inl mB)), (qo, .inl (gI X.1, 60, .inl mR))]) C 0 rfl 0 (by decide) in_X8_goBack_8 lk_X8_goBack_25 rfl (by decide +kernel) rfl rfl (Nat.le_of_ble_eq_true rfl) rfl dX8_goBack_2 ?_
  refine j_aload_n C dX8_goBack_5 rfl 0 rfl ?_
  obtain ⟨r6, hc6, hf⟩ := Option.bind_eq_some_iff.mp hf
  refine j_cV C (b_X8_save X.1 hl h8 qz qv qp qf qo 0 mZ mU mV mP mB mY mR mO mS mW mH r6 hc6) k_X8_save gX8_goBack_X8_save rfl (ci := 8) (q0 := 0) rfl rfl (As := []) (rest := []) (st' := []) (ws' := [(h8, .inr (8, [.int 0, .ref qz, .ref qv, .int r6.2, .ref qp, .ref qf, .int mY, .ref qo, .int mO, .int mS, .int mW, .long mH])), (qz, .inl (gI X.1, 1027, .inl mZ)), (qv, .inl (gI X.1, 6162, .inl r6.1)), (qp, .inl (gI X.1, 512, .inl mP)), (qf, .inl (gI X.1, 60, .inl mB)), (qo, .inl (gI X.1, 60, .inl mR))]) rfl rfl dX8_goBack_6 [0, 1, 2, 3, 4, 5] [] [0, 1, 2, 3, 4, 5] rfl rfl rfl rfl rfl rfl ?_
  refine j_aload_n C dX8_goBack_9 rfl 0 rfl ?_
  obtain ⟨r10, hc10, hf⟩ := Option.bind_eq_some_iff.mp hf
  refine j_cV C (b_X8_differences X.1 hl h8 qz qv qp qf qo 0 mZ r6.1 r6.2 mP mB mY mR mO mS mW mH r10 hc10) k_X8_differences gX8_goBack_X8_differences rfl (ci := 8) (q0 := 0) rfl rfl (As := []) (rest := []) (st' := [.int r10]) (ws' := [(h8, .inr (8, [.int 0, .ref qz, .ref qv, .int r6.2, .ref qp, .ref qf, .int mY, .ref qo, .int mO, .int mS, .int mW, .long mH])), (qz, .inl (gI X.1, 1027, .inl mZ)), (qv, .inl (gI X.1, 6162, .inl r6.1)), (qp, .inl (gI X.1, 512, .inl mP)), (qf, .inl (gI X.1, 60, .inl mB)), (qo, .inl (gI X.1, 60, .inl mR))]) rfl rfl dX8_goBack_10 [0, 1, 2, 3, 4, 5] [] [0, 1, 2, 3, 4, 5] rfl rfl rfl rfl rfl rfl ?_
  refine j_istore_n (lv' := [(1, .int r10), (0, .ref h8)]) C dX8_goBack_13 rfl (by decide) rfl ?_
  refine j_iconst C (v := 0) dX8_goBack_14 (by decide) ?_
  refine j_istore_n (lv' := [(2, .int 0), (1, .int r10), (0, .ref h8)]) C dX8_goBack_15 rfl (by decide) rfl ?_
  have kk16 : ∀ (n : Nat) (x16_2 : Int32) (mZ_16 : (Nat → Int32)), dz_iter n (fun s : Int32 × (Nat → Int32) => f_X8_goBack_L16 r10 r6 s.1 s.2) (x16_2, mZ_16) = some y → Jt X [(h8, .inr (8, [.int 0, .ref qz, .ref qv, .int r6.2, .ref qp, .ref qf, .int mY, .ref qo, .int mO, .int mS, .int mW, .long mH])), (qz, .inl (gI X.1, 1027, .inl mZ_16)), (qv, .inl (gI X.1, 6162, .inl r6.1)), (qp, .inl (gI X.1, 512, .inl mP)), (qf, .inl (gI X.1, 60, .inl mB)), (qo, .inl (gI X.1, 60, .inl mR))] 0 0 16 [(0, .ref h8), (1, .int r10), (2, .int x16_2)] [] := by
    intro n
    induction n with
    | zero => intro x16_2 mZ_16 hit; exact absurd hit (by simp [dz_iter])
    | succ n ih16 =>
      intro x16_2 mZ_16 hit
      obtain ⟨y16, hf, hg16⟩ := dz_iter_succ hit
      replace hf : f_X8_goBack_L16 r10 r6 x16_2 mZ_16 = some y16 := hf
      unfold f_X8_goBack_L16 at hf
      refine j_iload_n C dX8_goBack_16 rfl 2 rfl ?_
      refine j_sipush C (v := 512) dX8_goBack_17 (by decide) ?_
      refine j_icmp_ge C (tgt := 47) dX8_goBack_20 (by decide) (fun e20 => ?_) (fun e20 => ?_)
      · have hf := (if_pos e20).symm.trans hf
        refine j_iload_n C dX8_goBack_47 rfl 1 rfl ?_
        obtain rfl := Option.some.inj hf
        obtain rfl := dz_go_inr hg16
        exact j_iret C hQ rfl dX8_goBack_48 (Nat.zero_le _) (Nat.zero_le _) ⟨rfl, rfl⟩
      · have hf := (if_neg e20).symm.trans hf
        refine j_aload_n C dX8_goBack_23 rfl 0 rfl ?_
        refine j_get8 C 0 rfl 1 (by decide) in_X8_goBack_8 lk_X8_goBack_7 rfl dX8_goBack_24 ?_
        refine j_iconst C (v := 3) dX8_goBack_27 (by decide) ?_
        refine j_iload_n C dX8_goBack_28 rfl 2 rfl ?_
        refine j_iadd C dX8_goBack_29 ?_
        refine j_aload_n C dX8_goBack_30 rfl 0 rfl ?_
        refine j_get8 C 0 rfl 1 (by decide) in_X8_goBack_8 lk_X8_goBack_7 rfl dX8_goBack_31 ?_
        refine j_sipush C (v := 515) dX8_goBack_34 (by decide) ?_
        refine j_iload_n C dX8_goBack_37 rfl 2 rfl ?_
        refine j_iadd C dX8_goBack_38 ?_
        obtain ⟨z39, hf⟩ := dz_in_some hf
        refine j_iald C 1 rfl z39 dX8_goBack_39 ?_
        obtain ⟨z40, hf⟩ := dz_in_some hf
        refine j_iast (ws' := [(h8, .inr (8, [.int 0, .ref qz, .ref qv, .int r6.2, .ref qp, .ref qf, .int mY, .ref qo, .int mO, .int mS, .int mW, .long mH])), (qz, .inl (gI X.1, 1027, .inl (upd mZ_16 (Int32.toNatClampNeg (3 + x16_2)) (mZ_16 (Int32.toNatClampNeg (515 + x16_2)))))), (qv, .inl (gI X.1, 6162, .inl r6.1)), (qp, .inl (gI X.1, 512, .inl mP)), (qf, .inl (gI X.1, 60, .inl mB)), (qo, .inl (gI X.1, 60, .inl mR))]) C 1 rfl z40 rfl dX8_goBack_40 ?_
        refine j_iinc (v := (x16_2 + 1)) (lv' := [(2, .int (x16_2 + 1)), (0, .ref h8), (1, .int r10)]) C dX8_goBack_41 2 rfl (by first | rfl | decide) (by decide) rfl ?_
        refine j_goto C (tgt := 16) dX8_goBack_44 (by decide) ?_
        obtain rfl := Option.some.inj hf
        have hf := dz_go_inl hg16
        refine j_loc [1, 2, 0] rfl ?_
        exact ih16 (x16_2 + 1) (upd mZ_16 (Int32.toNatClampNeg (3 + x16_2)) (mZ_16 (Int32.toNatClampNeg (515 + x16_2)))) hf
  refine j_loc [2, 1, 0] rfl ?_
  exact kk16 _ 0 mZ hf

theorem lk_X8_set_25 : Cond.fieldLink RX8 25 (TX8 0).1 (TX8 0).2.1 (TX8 0).2.2.1 ∈ wsX8_set := by decide +kernel
theorem in_X8_set_8 : ∀ w ∈ wsX80, w ∈ wsX8_set := by decide +kernel
theorem lk_X8_set_7 : Cond.fieldLink RX8 7 (TX8 1).1 (TX8 1).2.1 (TX8 1).2.2.1 ∈ wsX8_set := by decide +kernel
def f_X8_set_J16 (p1 : Int32) (mZ : (Nat → Int32)) (mU : (Nat → Int32)) (mV : Int32) (s16_0 : Int32) : Option (Int32 × Int32 × (Nat → Int32) × (Nat → Int32) × Int32) :=
  if s16_0 ≤ 0 then Option.bind (f_X8_save mZ mU mV) (fun r29 => some (((mZ 2), s16_0, (upd mZ 2 p1), r29.1, r29.2))) else some ((0, s16_0, mZ, mU, mV))
def f_X8_set (p1 : Int32) (mZ : (Nat → Int32)) (mU : (Nat → Int32)) (mV : Int32) : Option (Int32 × Int32 × (Nat → Int32) × (Nat → Int32) × Int32) :=
  if (f_X8_in p1 1 64) = 0 then (f_X8_set_J16 p1 mZ mU mV 1) else (f_X8_set_J16 p1 mZ mU mV 0)
abbrev rm_X8_set : Room := { frames := 2, cells := 0, slots := 0, locals := 38 }
theorem k_X8_set : Cf yX8_set wsX8_set rm_X8_set cX8_set 3 (some .int) 1 := ⟨⟨_, rfl⟩, by decide +kernel, by decide +kernel, by decide +kernel⟩
set_option maxRecDepth 100000 in
set_option maxHeartbeats 4000000 in
theorem b_X8_set (G : CG) (hl : (gL G).stackTraces = false) (h8 : Nat) (qz : Nat) (qv : Nat) (qp : Nat) (qf : Nat) (qo : Nat) (mT : Int32) (mZ : (Nat → Int32)) (mU : (Nat → Int32)) (mV : Int32) (mP : (Nat → Int32)) (mB : (Nat → Int32)) (mY : Int32) (mR : (Nat → Int32)) (mO : Int32) (mS : Int32) (mW : Int32) (mH : Int64) (p1 : Int32) (y : Int32 × Int32 × (Nat → Int32) × (Nat → Int32) × Int32) (hf : f_X8_set p1 mZ mU mV = some y) : Ct G yX8_set wsX8_set rm_X8_set [.ref h8, .int p1] [(h8, .inr (8, [.int mT, .ref qz, .ref qv, .int mV, .ref qp, .ref qf, .int mY, .ref qo, .int mO, .int mS, .int mW, .long mH])), (qz, .inl (gI G, 1027, .inl mZ)), (qv, .inl (gI G, 6162, .inl mU)), (qp, .inl (gI G, 512, .inl mP)), (qf, .inl (gI G, 60, .inl mB)), (qo, .inl (gI G, 60, .inl mR))] (fin1 (some (.int y.1)) [(h8, .inr (8, [.int y.2.1, .ref qz, .ref qv, .int y.2.2.2.2, .ref qp, .ref qf, .int mY, .ref qo, .int mO, .int mS, .int mW, .long mH])), (qz, .inl (gI G, 1027, .inl y.2.2.1)), (qv, .inl (gI G, 6162, .inl y.2.2.2.1)), (qp, .inl (gI G, 512, .inl mP)), (qf, .inl (gI G, 60, .inl mB)), (qo, .inl (gI G, 60, .inl mR))]) 0 0 := by
  refine Ct.of (cc := cX8_set) (N := 3) (ret := (some .int)) RX8 (by decide) rfl rfl hl (Nat.le_of_ble_eq_true rfl) (lv := [(0, .ref h8), (1, .int p1)]) rfl (fun X hXG C hex hnm hQ => ?_)
  subst hXG
  unfold f_X8_set at hf
  refine j_aload_n C dX8_set_0 rfl 0 rfl ?_
  refine j_iload_n C dX8_set_1 rfl 1 rfl ?_
  refine j_iconst C (v := 1) dX8_set_2 (by decide) ?_
  refine j_bipush C (v := 64) dX8_set_3 (by decide) ?_
  refine j_cS C (c_X8_in X.1 hl p1 1 64) k_X8_in gX8_set_X8_in (As := [.int p1, .int 1, .int 64]) (rest := [.ref h8]) (st' := [.int (f_X8_in p1 1 64), .ref h8]) (ws' := [(h8, .inr (8, [.int mT, .ref qz, .ref qv, .int mV, .ref qp, .ref qf, .int mY, .ref qo, .int mO, .int mS, .int mW, .long mH])), (qz, .inl (gI X.1, 1027, .inl mZ)), (qv, .inl (gI X.1, 6162, .inl mU)), (qp, .inl (gI X.1, 512, .inl mP)), (qf, .inl (gI X.1, 60, .inl mB)), (qo, .inl (gI X.1, 60, .inl mR))]) rfl rfl dX8_set_5 [] [0, 1, 2, 3, 4, 5] [0, 1, 2, 3, 4, 5] rfl rfl rfl rfl rfl rfl ?_
  have k16 : ∀ (s16_0 : Int32), f_X8_set_J16 p1 mZ mU mV s16_0 = some y → Jt X [(h8, .inr (8, [.int mT, .ref qz, .ref qv, .int mV, .ref qp, .ref qf, .int mY, .ref qo, .int mO, .int mS, .int mW, .long mH])), (qz, .inl (gI X.1, 1027, .inl mZ)), (qv, .inl (gI X.1, 6162, .inl mU)), (qp, .inl (gI X.1, 512, .inl mP)), (qf, .inl (gI X.1, 60, .inl mB)), (qo, .inl (gI X.1, 60, .inl mR))] 0 0 16 [(0, .ref h8), (1, .int p1)] [.int s16_0, .ref h8] := by
    intro s16_0 hf
    unfold f_X8_set_J16 at hf
    refine j_put8 (ty := .int) (ws' := [(h8, .inr (8, [.int s16_0, .ref qz, .ref qv, .int mV, .ref qp, .ref qf, .int mY, .ref qo, .int mO, .int mS, .int mW, .long mH])), (qz, .inl (gI X.1, 1027, .inl mZ)), (qv, .inl (gI X.1, 6162, .inl mU)), (qp, .inl (gI X.1, 512, .inl mP)), (qf, .inl (gI X.1, 60, .inl mB)), (qo, .inl (gI X.1, 60, .inl mR))]) C 0 rfl 0 (by decide) in_X8_set_8 lk_X8_set_25 rfl (by decide +kernel) rfl rfl (Nat.le_of_ble_eq_true rfl) rfl dX8_set_16 ?_
    refine j_aload_n C dX8_set_19 rfl 0 rfl ?_
    refine j_get8 C 0 rfl 0 (by decide) in_X8_set_8 lk_X8_set_25 rfl dX8_set_20 ?_
    refine j_if_le C (tgt := 28) dX8_set_23 (by decide) (fun e23 => ?_) (fun e23 => ?_)
    · have hf := (if_pos e23).symm.trans hf
      refine j_aload_n C dX8_set_28 rfl 0 rfl ?_
      obtain ⟨r29, hc29, hf⟩ := Option.bind_eq_some_iff.mp hf
      refine j_cV C (b_X8_save X.1 hl h8 qz qv qp qf qo s16_0 mZ mU mV mP mB mY mR mO mS mW mH r29 hc29) k_X8_save gX8_set_X8_save rfl (ci := 8) (q0 := 0) rfl rfl (As := []) (rest := []) (st' := []) (ws' := [(h8, .inr (8, [.int s16_0, .ref qz, .ref qv, .int r29.2, .ref qp, .ref qf, .int mY, .ref qo, .int mO, .int mS, .int mW, .long mH])), (qz, .inl (gI X.1, 1027, .inl mZ)), (qv, .inl (gI X.1, 6162, .inl r29.1)), (qp, .inl (gI X.1, 512, .inl mP)), (qf, .inl (gI X.1, 60, .inl mB)), (qo, .inl (gI X.1, 60, .inl mR))]) rfl rfl dX8_set_29 [0, 1, 2, 3, 4, 5] [] [0, 1, 2, 3, 4, 5] rfl rfl rfl rfl rfl rfl ?_
      refine j_aload_n C dX8_set_32 rfl 0 rfl ?_
      refine j_get8 C 0 rfl 1 (by decide) in_X8_set_8 lk_X8_set_7 rfl dX8_set_33 ?_
      refine j_iconst C (v := 2) dX8_set_36 (by decide) ?_
      refine j_iald C 1 rfl (by unfold vp_in; decide) dX8_set_37 ?_
      refine j_istore_n (lv' := [(2, .int (mZ 2)), (0, .ref h8), (1, .int p1)]) C dX8_set_38 rfl (by decide) rfl ?_
      refine j_aload_n C dX8_set_39 rfl 1 rfl ?_
      refine j_get8 C 0 rfl 1 (by decide) in_X8_set_8 lk_X8_set_7 rfl dX8_set_40 ?_
      refine j_iconst C (v := 2) dX8_set_43 (by decide) ?_
      refine j_iload_n C dX8_set_44 rfl 2 rfl ?_
      refine j_iast (ws' := [(h8, .inr (8, [.int s16_0, .ref qz, .ref qv, .int r29.2, .ref qp, .ref qf, .int mY, .ref qo, .int mO, .int mS, .int mW, .long mH])), (qz, .inl (gI X.1, 1027, .inl (upd mZ 2 p1))), (qv, .inl (gI X.1, 6162, .inl r29.1)), (qp, .inl (gI X.1, 512, .inl mP)), (qf, .inl (gI X.1, 60, .inl mB)), (qo, .inl (gI X.1, 60, .inl mR))]) C 1 rfl (by unfold vp_in; decide) rfl dX8_set_45 ?_
      refine j_iload_n C dX8_set_46 rfl 0 rfl ?_
      obtain rfl := Option.some.inj hf
      exact j_iret C hQ rfl dX8_set_47 (Nat.zero_le _) (Nat.zero_le _) ⟨rfl, rfl⟩
    · have hf := (if_neg e23).symm.trans hf
      refine j_iconst C (v := 0) dX8_set_26 (by decide) ?_
      obtain rfl := Option.some.inj hf
      exact j_iret C hQ rfl dX8_set_27 (Nat.zero_le _) (Nat.zero_le _) ⟨rfl, rfl⟩
  refine j_if_eq C (tgt := 15) dX8_set_8 (by decide) (fun e8 => ?_) (fun e8 => ?_)
  · have hf := (if_pos e8).symm.trans hf
    refine j_iconst C (v := 1) dX8_set_15 (by decide) ?_
    refine j_loc [0, 1] rfl ?_
    exact k16 1 hf
  · have hf := (if_neg e8).symm.trans hf
    refine j_iconst C (v := 0) dX8_set_11 (by decide) ?_
    refine j_goto C (tgt := 16) dX8_set_12 (by decide) ?_
    refine j_loc [0, 1] rfl ?_
    exact k16 0 hf

theorem lk_X8_append_103 : Cond.fieldLink RX8 103 (TX8 6).1 (TX8 6).2.1 (TX8 6).2.2.1 ∈ wsX8_append := by decide +kernel
theorem in_X8_append_8 : ∀ w ∈ wsX80, w ∈ wsX8_append := by decide +kernel
theorem lk_X8_append_25 : Cond.fieldLink RX8 25 (TX8 0).1 (TX8 0).2.1 (TX8 0).2.2.1 ∈ wsX8_append := by decide +kernel
theorem lk_X8_append_19 : Cond.fieldLink RX8 19 (TX8 5).1 (TX8 5).2.1 (TX8 5).2.2.1 ∈ wsX8_append := by decide +kernel
def f_X8_append_J30 (p1 : Int32) (mB : (Nat → Int32)) (mY : Int32) (s30_0 : Int32) : Option (Int32 × Int32 × (Nat → Int32) × Int32) :=
  if s30_0 ≤ 0 then dz_in mY 60 (some (((mY + 1), s30_0, (upd mB (Int32.toNatClampNeg mY) p1), (mY + 1)))) else some ((0, s30_0, mB, mY))
def f_X8_append (p1 : Int32) (mB : (Nat → Int32)) (mY : Int32) : Option (Int32 × Int32 × (Nat → Int32) × Int32) :=
  if (f_X8_in p1 33 126) = 0 then (f_X8_append_J30 p1 mB mY 1) else if mY = 60 then (f_X8_append_J30 p1 mB mY 2) else (f_X8_append_J30 p1 mB mY 0)
abbrev rm_X8_append : Room := { frames := 2, cells := 0, slots := 0, locals := 38 }
theorem k_X8_append : Cf yX8_append wsX8_append rm_X8_append cX8_append 2 (some .int) 1 := ⟨⟨_, rfl⟩, by decide +kernel, by decide +kernel, by decide +kernel⟩
set_option maxRecDepth 100000 in
set_option maxHeartbeats 4000000 in
theorem b_X8_append (G : CG) (hl : (gL G).stackTraces = false) (h8 : Nat) (qz : Nat) (qv : Nat) (qp : Nat) (qf : Nat) (qo : Nat) (mT : Int32) (mZ : (Nat → Int32)) (mU : (Nat → Int32)) (mV : Int32) (mP : (Nat → Int32)) (mB : (Nat → Int32)) (mY : Int32) (mR : (Nat → Int32)) (mO : Int32) (mS : Int32) (mW : Int32) (mH : Int64) (p1 : Int32) (y : Int32 × Int32 × (Nat → Int32) × Int32) (hf : f_X8_append p1 mB mY = some y) : Ct G yX8_append wsX8_append rm_X8_append [.ref h8, .int p1] [(h8, .inr (8, [.int mT, .ref qz, .ref qv, .int mV, .ref qp, .ref qf, .int mY, .ref qo, .int mO, .int mS, .int mW, .long mH])), (qz, .inl (gI G, 1027, .inl mZ)), (qv, .inl (gI G, 6162, .inl mU)), (qp, .inl (gI G, 512, .inl mP)), (qf, .inl (gI G, 60, .inl mB)), (qo, .inl (gI G, 60, .inl mR))] (fin1 (some (.int y.1)) [(h8, .inr (8, [.int y.2.1, .ref qz, .ref qv, .int mV, .ref qp, .ref qf, .int y.2.2.2, .ref qo, .int mO, .int mS, .int mW, .long mH])), (qz, .inl (gI G, 1027, .inl mZ)), (qv, .inl (gI G, 6162, .inl mU)), (qp, .inl (gI G, 512, .inl mP)), (qf, .inl (gI G, 60, .inl y.2.2.1)), (qo, .inl (gI G, 60, .inl mR))]) 0 0 := by
  refine Ct.of (cc := cX8_append) (N := 2) (ret := (some .int)) RX8 (by decide) rfl rfl hl (Nat.le_of_ble_eq_true rfl) (lv := [(0, .ref h8), (1, .int p1)]) rfl (fun X hXG C hex hnm hQ => ?_)
  subst hXG
  unfold f_X8_append at hf
  refine j_aload_n C dX8_append_0 rfl 0 rfl ?_
  refine j_iload_n C dX8_append_1 rfl 1 rfl ?_
  refine j_bipush C (v := 33) dX8_append_2 (by decide) ?_
  refine j_bipush C (v := 126) dX8_append_4 (by decide) ?_
  refine j_cS C (c_X8_in X.1 hl p1 33 126) k_X8_in gX8_append_X8_in (As := [.int p1, .int 33, .int 126]) (rest := [.ref h8]) (st' := [.int (f_X8_in p1 33 126), .ref h8]) (ws' := [(h8, .inr (8, [.int mT, .ref qz, .ref qv, .int mV, .ref qp, .ref qf, .int mY, .ref qo, .int mO, .int mS, .int mW, .long mH])), (qz, .inl (gI X.1, 1027, .inl mZ)), (qv, .inl (gI X.1, 6162, .inl mU)), (qp, .inl (gI X.1, 512, .inl mP)), (qf, .inl (gI X.1, 60, .inl mB)), (qo, .inl (gI X.1, 60, .inl mR))]) rfl rfl dX8_append_6 [] [0, 1, 2, 3, 4, 5] [0, 1, 2, 3, 4, 5] rfl rfl rfl rfl rfl rfl ?_
  have k30 : ∀ (s30_0 : Int32), f_X8_append_J30 p1 mB mY s30_0 = some y → Jt X [(h8, .inr (8, [.int mT, .ref qz, .ref qv, .int mV, .ref qp, .ref qf, .int mY, .ref qo, .int mO, .int mS, .int mW, .long mH])), (qz, .inl (gI X.1, 1027, .inl mZ)), (qv, .inl (gI X.1, 6162, .inl mU)), (qp, .inl (gI X.1, 512, .inl mP)), (qf, .inl (gI X.1, 60, .inl mB)), (qo, .inl (gI X.1, 60, .inl mR))] 0 0 30 [(0, .ref h8), (1, .int p1)] [.int s30_0, .ref h8] := by
    intro s30_0 hf
    unfold f_X8_append_J30 at hf
    refine j_put8 (ty := .int) (ws' := [(h8, .inr (8, [.int s30_0, .ref qz, .ref qv, .int mV, .ref qp, .ref qf, .int mY, .ref qo, .int mO, .int mS, .int mW, .long mH])), (qz, .inl (gI X.1, 1027, .inl mZ)), (qv, .inl (gI X.1, 6162, .inl mU)), (qp, .inl (gI X.1, 512, .inl mP)), (qf, .inl (gI X.1, 60, .inl mB)), (qo, .inl (gI X.1, 60, .inl mR))]) C 0 rfl 0 (by decide) in_X8_append_8 lk_X8_append_25 rfl (by decide +kernel) rfl rfl (Nat.le_of_ble_eq_true rfl) rfl dX8_append_30 ?_
    refine j_aload_n C dX8_append_33 rfl 0 rfl ?_
    refine j_get8 C 0 rfl 0 (by decide) in_X8_append_8 lk_X8_append_25 rfl dX8_append_34 ?_
    refine j_if_le C (tgt := 42) dX8_append_37 (by decide) (fun e37 => ?_) (fun e37 => ?_)
    · have hf := (if_pos e37).symm.trans hf
      refine j_aload_n C dX8_append_42 rfl 0 rfl ?_
      refine j_get8 C 0 rfl 5 (by decide) in_X8_append_8 lk_X8_append_19 rfl dX8_append_43 ?_
      refine j_aload_n C dX8_append_46 rfl 0 rfl ?_
      refine j_get8 C 0 rfl 6 (by decide) in_X8_append_8 lk_X8_append_103 rfl dX8_append_47 ?_
      refine j_iload_n C dX8_append_50 rfl 1 rfl ?_
      obtain ⟨z51, hf⟩ := dz_in_some hf
      refine j_iast (ws' := [(h8, .inr (8, [.int s30_0, .ref qz, .ref qv, .int mV, .ref qp, .ref qf, .int mY, .ref qo, .int mO, .int mS, .int mW, .long mH])), (qz, .inl (gI X.1, 1027, .inl mZ)), (qv, .inl (gI X.1, 6162, .inl mU)), (qp, .inl (gI X.1, 512, .inl mP)), (qf, .inl (gI X.1, 60, .inl (upd mB (Int32.toNatClampNeg mY) p1))), (qo, .inl (gI X.1, 60, .inl mR))]) C 4 rfl z51 rfl dX8_append_51 ?_
      refine j_aload_n C dX8_append_52 rfl 0 rfl ?_
      refine j_dup C dX8_append_53 rfl ?_
      refine j_get8 C 0 rfl 6 (by decide) in_X8_append_8 lk_X8_append_103 rfl dX8_append_54 ?_
      refine j_iconst C (v := 1) dX8_append_57 (by decide) ?_
      refine j_iadd C dX8_append_58 ?_
      refine j_put8 (ty := .int) (ws' := [(h8, .inr (8, [.int s30_0, .ref qz, .ref qv, .int mV, .ref qp, .ref qf, .int (mY + 1), .ref qo, .int mO, .int mS, .int mW, .long mH])), (qz, .inl (gI X.1, 1027, .inl mZ)), (qv, .inl (gI X.1, 6162, .inl mU)), (qp, .inl (gI X.1, 512, .inl mP)), (qf, .inl (gI X.1, 60, .inl (upd mB (Int32.toNatClampNeg mY) p1))), (qo, .inl (gI X.1, 60, .inl mR))]) C 0 rfl 6 (by decide) in_X8_append_8 lk_X8_append_103 rfl (by decide +kernel) rfl rfl (Nat.le_of_ble_eq_true rfl) rfl dX8_append_59 ?_
      refine j_aload_n C dX8_append_62 rfl 0 rfl ?_
      refine j_get8 C 0 rfl 6 (by decide) in_X8_append_8 lk_X8_append_103 rfl dX8_append_63 ?_
      obtain rfl := Option.some.inj hf
      exact j_iret C hQ rfl dX8_append_66 (Nat.zero_le _) (Nat.zero_le _) ⟨rfl, rfl⟩
    · have hf := (if_neg e37).symm.trans hf
      refine j_iconst C (v := 0) dX8_append_40 (by decide) ?_
      obtain rfl := Option.some.inj hf
      exact j_iret C hQ rfl dX8_append_41 (Nat.zero_le _) (Nat.zero_le _) ⟨rfl, rfl⟩
  refine j_if_ne C (tgt := 16) dX8_append_9 (by decide) (fun e9 => ?_) (fun e9 => ?_)
  · have hf := (if_neg e9).symm.trans hf
    refine j_aload_n C dX8_append_16 rfl 0 rfl ?_
    refine j_get8 C 0 rfl 6 (by decide) in_X8_append_8 lk_X8_append_103 rfl dX8_append_17 ?_
    refine j_bipush C (v := 60) dX8_append_20 (by decide) ?_
    refine j_icmp_ne C (tgt := 29) dX8_append_22 (by decide) (fun e22 => ?_) (fun e22 => ?_)
    · have hf := (if_neg e22).symm.trans hf
      refine j_iconst C (v := 0) dX8_append_29 (by decide) ?_
      refine j_loc [0, 1] rfl ?_
      exact k30 0 hf
    · have hf := (if_pos e22).symm.trans hf
      refine j_iconst C (v := 2) dX8_append_25 (by decide) ?_
      refine j_goto C (tgt := 30) dX8_append_26 (by decide) ?_
      refine j_loc [0, 1] rfl ?_
      exact k30 2 hf
  · have hf := (if_pos e9).symm.trans hf
    refine j_iconst C (v := 1) dX8_append_12 (by decide) ?_
    refine j_goto C (tgt := 30) dX8_append_13 (by decide) ?_
    refine j_loc [0, 1] rfl ?_
    exact k30 1 hf

theorem lk_X8_clearBuffer_25 : Cond.fieldLink RX8 25 (TX8 0).1 (TX8 0).2.1 (TX8 0).2.2.1 ∈ wsX8_clearBuffer := by decide +kernel
theorem in_X8_clearBuffer_8 : ∀ w ∈ wsX80, w ∈ wsX8_clearBuffer := by decide +kernel
theorem lk_X8_clearBuffer_103 : Cond.fieldLink RX8 103 (TX8 6).1 (TX8 6).2.1 (TX8 6).2.2.1 ∈ wsX8_clearBuffer := by decide +kernel
def f_X8_clearBuffer (mY : Int32) : Int32 × Int32 × Int32 :=
  (mY, 0, 0)
abbrev rm_X8_clearBuffer : Room := { frames := 1, cells := 0, slots := 0, locals := 16 }
theorem k_X8_clearBuffer : Cf yX8_clearBuffer wsX8_clearBuffer rm_X8_clearBuffer cX8_clearBuffer 2 (some .int) 0 := ⟨⟨_, rfl⟩, by decide +kernel, by decide +kernel, by decide +kernel⟩
set_option maxRecDepth 100000 in
set_option maxHeartbeats 4000000 in
theorem b_X8_clearBuffer (G : CG) (hl : (gL G).stackTraces = false) (h8 : Nat) (qz : Nat) (qv : Nat) (qp : Nat) (qf : Nat) (qo : Nat) (mT : Int32) (mZ : (Nat → Int32)) (mU : (Nat → Int32)) (mV : Int32) (mP : (Nat → Int32)) (mB : (Nat → Int32)) (mY : Int32) (mR : (Nat → Int32)) (mO : Int32) (mS : Int32) (mW : Int32) (mH : Int64) (y : Int32 × Int32 × Int32) (hf : f_X8_clearBuffer mY = y) : Ct G yX8_clearBuffer wsX8_clearBuffer rm_X8_clearBuffer [.ref h8] [(h8, .inr (8, [.int mT, .ref qz, .ref qv, .int mV, .ref qp, .ref qf, .int mY, .ref qo, .int mO, .int mS, .int mW, .long mH])), (qz, .inl (gI G, 1027, .inl mZ)), (qv, .inl (gI G, 6162, .inl mU)), (qp, .inl (gI G, 512, .inl mP)), (qf, .inl (gI G, 60, .inl mB)), (qo, .inl (gI G, 60, .inl mR))] (fin1 (some (.int y.1)) [(h8, .inr (8, [.int y.2.1, .ref qz, .ref qv, .int mV, .ref qp, .ref qf, .int y.2.2, .ref qo, .int mO, .int mS, .int mW, .long mH])), (qz, .inl (gI G, 1027, .inl mZ)), (qv, .inl (gI G, 6162, .inl mU)), (qp, .inl (gI G, 512, .inl mP)), (qf, .inl (gI G, 60, .inl mB)), (qo, .inl (gI G, 60, .inl mR))]) 0 0 := by
  refine Ct.of (cc := cX8_clearBuffer) (N := 2) (ret := (some .int)) RX8 (by decide) rfl rfl hl (Nat.le_of_ble_eq_true rfl) (lv := [(0, .ref h8)]) rfl (fun X hXG C hex hnm hQ => ?_)
  subst hXG
  unfold f_X8_clearBuffer at hf
  refine j_aload_n C dX8_clearBuffer_0 rfl 0 rfl ?_
  refine j_iconst C (v := 0) dX8_clearBuffer_1 (by decide) ?_
  refine j_put8 (ty := .int) (ws' := [(h8, .inr (8, [.int 0, .ref qz, .ref qv, .int mV, .ref qp, .ref qf, .int mY, .ref qo, .int mO, .int mS, .int mW, .long mH])), (qz, .inl (gI X.1, 1027, .inl mZ)), (qv, .inl (gI X.1, 6162, .inl mU)), (qp, .inl (gI X.1, 512, .inl mP)), (qf, .inl (gI X.1, 60, .inl mB)), (qo, .inl (gI X.1, 60, .inl mR))]) C 0 rfl 0 (by decide) in_X8_clearBuffer_8 lk_X8_clearBuffer_25 rfl (by decide +kernel) rfl rfl (Nat.le_of_ble_eq_true rfl) rfl dX8_clearBuffer_2 ?_
  refine j_aload_n C dX8_clearBuffer_5 rfl 0 rfl ?_
  refine j_get8 C 0 rfl 6 (by decide) in_X8_clearBuffer_8 lk_X8_clearBuffer_103 rfl dX8_clearBuffer_6 ?_
  refine j_istore_n (lv' := [(1, .int mY), (0, .ref h8)]) C dX8_clearBuffer_9 rfl (by decide) rfl ?_
  refine j_aload_n C dX8_clearBuffer_10 rfl 1 rfl ?_
  refine j_iconst C (v := 0) dX8_clearBuffer_11 (by decide) ?_
  refine j_put8 (ty := .int) (ws' := [(h8, .inr (8, [.int 0, .ref qz, .ref qv, .int mV, .ref qp, .ref qf, .int 0, .ref qo, .int mO, .int mS, .int mW, .long mH])), (qz, .inl (gI X.1, 1027, .inl mZ)), (qv, .inl (gI X.1, 6162, .inl mU)), (qp, .inl (gI X.1, 512, .inl mP)), (qf, .inl (gI X.1, 60, .inl mB)), (qo, .inl (gI X.1, 60, .inl mR))]) C 0 rfl 6 (by decide) in_X8_clearBuffer_8 lk_X8_clearBuffer_103 rfl (by decide +kernel) rfl rfl (Nat.le_of_ble_eq_true rfl) rfl dX8_clearBuffer_12 ?_
  refine j_iload_n C dX8_clearBuffer_15 rfl 0 rfl ?_
  subst hf
  exact j_iret C hQ rfl dX8_clearBuffer_16 (Nat.zero_le _) (Nat.zero_le _) ⟨rfl, rfl⟩
theorem c_X8_clearBuffer (G : CG) (hl : (gL G).stackTraces = false) (h8 : Nat) (qz : Nat) (qv : Nat) (qp : Nat) (qf : Nat) (qo : Nat) (mT : Int32) (mZ : (Nat → Int32)) (mU : (Nat → Int32)) (mV : Int32) (mP : (Nat → Int32)) (mB : (Nat → Int32)) (mY : Int32) (mR : (Nat → Int32)) (mO : Int32) (mS : Int32) (mW : Int32) (mH : Int64) : Ct G yX8_clearBuffer wsX8_clearBuffer rm_X8_clearBuffer [.ref h8] [(h8, .inr (8, [.int mT, .ref qz, .ref qv, .int mV, .ref qp, .ref qf, .int mY, .ref qo, .int mO, .int mS, .int mW, .long mH])), (qz, .inl (gI G, 1027, .inl mZ)), (qv, .inl (gI G, 6162, .inl mU)), (qp, .inl (gI G, 512, .inl mP)), (qf, .inl (gI G, 60, .inl mB)), (qo, .inl (gI G, 60, .inl mR))] (fin1 (some (.int (f_X8_clearBuffer mY).1)) [(h8, .inr (8, [.int (f_X8_clearBuffer mY).2.1, .ref qz, .ref qv, .int mV, .ref qp, .ref qf, .int (f_X8_clearBuffer mY).2.2, .ref qo, .int mO, .int mS, .int mW, .long mH])), (qz, .inl (gI G, 1027, .inl mZ)), (qv, .inl (gI G, 6162, .inl mU)), (qp, .inl (gI G, 512, .inl mP)), (qf, .inl (gI G, 60, .inl mB)), (qo, .inl (gI G, 60, .inl mR))]) 0 0 := b_X8_clearBuffer G hl h8 qz qv qp qf qo mT mZ mU mV mP mB mY mR mO mS mW mH _ rfl

theorem lk_X8_letter_106 : Cond.fieldLink RX8 106 (TX8 9).1 (TX8 9).2.1 (TX8 9).2.2.1 ∈ wsX8_letter := by decide +kernel
theorem in_X8_letter_8 : ∀ w ∈ wsX80, w ∈ wsX8_letter := by decide +kernel
theorem lk_X8_letter_103 : Cond.fieldLink RX8 103 (TX8 6).1 (TX8 6).2.1 (TX8 6).2.2.1 ∈ wsX8_letter := by decide +kernel
theorem lk_X8_letter_19 : Cond.fieldLink RX8 19 (TX8 5).1 (TX8 5).2.1 (TX8 5).2.2.1 ∈ wsX8_letter := by decide +kernel
def f_X8_letter (mB : (Nat → Int32)) (mY : Int32) (mS : Int32) : Option (Int32) :=
  if mY ≤ mS then some ((-1)) else dz_in mS 60 (some ((mB (Int32.toNatClampNeg mS))))
abbrev rm_X8_letter : Room := { frames := 1, cells := 0, slots := 0, locals := 16 }
theorem k_X8_letter : Cf yX8_letter wsX8_letter rm_X8_letter cX8_letter 1 (some .int) 0 := ⟨⟨_, rfl⟩, by decide +kernel, by decide +kernel, by decide +kernel⟩
set_option maxRecDepth 100000 in
set_option maxHeartbeats 4000000 in
theorem b_X8_letter (G : CG) (hl : (gL G).stackTraces = false) (h8 : Nat) (qz : Nat) (qv : Nat) (qp : Nat) (qf : Nat) (qo : Nat) (mT : Int32) (mZ : (Nat → Int32)) (mU : (Nat → Int32)) (mV : Int32) (mP : (Nat → Int32)) (mB : (Nat → Int32)) (mY : Int32) (mR : (Nat → Int32)) (mO : Int32) (mS : Int32) (mW : Int32) (mH : Int64) (y : Int32) (hf : f_X8_letter mB mY mS = some y) : Ct G yX8_letter wsX8_letter rm_X8_letter [.ref h8] [(h8, .inr (8, [.int mT, .ref qz, .ref qv, .int mV, .ref qp, .ref qf, .int mY, .ref qo, .int mO, .int mS, .int mW, .long mH])), (qz, .inl (gI G, 1027, .inl mZ)), (qv, .inl (gI G, 6162, .inl mU)), (qp, .inl (gI G, 512, .inl mP)), (qf, .inl (gI G, 60, .inl mB)), (qo, .inl (gI G, 60, .inl mR))] (fin1 (some (.int y)) [(h8, .inr (8, [.int mT, .ref qz, .ref qv, .int mV, .ref qp, .ref qf, .int mY, .ref qo, .int mO, .int mS, .int mW, .long mH])), (qz, .inl (gI G, 1027, .inl mZ)), (qv, .inl (gI G, 6162, .inl mU)), (qp, .inl (gI G, 512, .inl mP)), (qf, .inl (gI G, 60, .inl mB)), (qo, .inl (gI G, 60, .inl mR))]) 0 0 := by
  refine Ct.of (cc := cX8_letter) (N := 1) (ret := (some .int)) RX8 (by decide) rfl rfl hl (Nat.le_of_ble_eq_true rfl) (lv := [(0, .ref h8)]) rfl (fun X hXG C hex hnm hQ => ?_)
  subst hXG
  unfold f_X8_letter at hf
  refine j_aload_n C dX8_letter_0 rfl 0 rfl ?_
  refine j_get8 C 0 rfl 9 (by decide) in_X8_letter_8 lk_X8_letter_106 rfl dX8_letter_1 ?_
  refine j_aload_n C dX8_letter_4 rfl 0 rfl ?_
  refine j_get8 C 0 rfl 6 (by decide) in_X8_letter_8 lk_X8_letter_103 rfl dX8_letter_5 ?_
  refine j_icmp_ge C (tgt := 23) dX8_letter_8 (by decide) (fun e8 => ?_) (fun e8 => ?_)
  · have hf := (if_pos e8).symm.trans hf
    refine j_iconst C (v := (-1)) dX8_letter_23 (by decide) ?_
    obtain rfl := Option.some.inj hf
    exact j_iret C hQ rfl dX8_letter_24 (Nat.zero_le _) (Nat.zero_le _) ⟨rfl, rfl⟩
  · have hf := (if_neg e8).symm.trans hf
    refine j_aload_n C dX8_letter_11 rfl 0 rfl ?_
    refine j_get8 C 0 rfl 5 (by decide) in_X8_letter_8 lk_X8_letter_19 rfl dX8_letter_12 ?_
    refine j_aload_n C dX8_letter_15 rfl 0 rfl ?_
    refine j_get8 C 0 rfl 9 (by decide) in_X8_letter_8 lk_X8_letter_106 rfl dX8_letter_16 ?_
    obtain ⟨z19, hf⟩ := dz_in_some hf
    refine j_iald C 4 rfl z19 dX8_letter_19 ?_
    refine j_goto C (tgt := 24) dX8_letter_20 (by decide) ?_
    obtain rfl := Option.some.inj hf
    exact j_iret C hQ rfl dX8_letter_24 (Nat.zero_le _) (Nat.zero_le _) ⟨rfl, rfl⟩

theorem lk_X8_wants_109 : Cond.fieldLink RX8 109 (TX8 10).1 (TX8 10).2.1 (TX8 10).2.2.1 ∈ wsX8_wants := by decide +kernel
theorem in_X8_wants_8 : ∀ w ∈ wsX80, w ∈ wsX8_wants := by decide +kernel
theorem lk_X8_wants_106 : Cond.fieldLink RX8 106 (TX8 9).1 (TX8 9).2.1 (TX8 9).2.2.1 ∈ wsX8_wants := by decide +kernel
def f_X8_wants_J21 (mS : Int32) (s21_0 : Int32) : Int32 × Int32 :=
  ((mS + 1), s21_0)
def f_X8_wants (p1 : Int32) (mS : Int32) (mW : Int32) : Int32 × Int32 :=
  if mW = (-1) then if p1 = 0 then (f_X8_wants_J21 mS mS) else (f_X8_wants_J21 mS (-1)) else (mS, mW)
abbrev rm_X8_wants : Room := { frames := 1, cells := 0, slots := 0, locals := 16 }
theorem k_X8_wants : Cf yX8_wants wsX8_wants rm_X8_wants cX8_wants 2 none 1 := ⟨⟨_, rfl⟩, by decide +kernel, by decide +kernel, by decide +kernel⟩
set_option maxRecDepth 100000 in
set_option maxHeartbeats 4000000 in
theorem b_X8_wants (G : CG) (hl : (gL G).stackTraces = false) (h8 : Nat) (qz : Nat) (qv : Nat) (qp : Nat) (qf : Nat) (qo : Nat) (mT : Int32) (mZ : (Nat → Int32)) (mU : (Nat → Int32)) (mV : Int32) (mP : (Nat → Int32)) (mB : (Nat → Int32)) (mY : Int32) (mR : (Nat → Int32)) (mO : Int32) (mS : Int32) (mW : Int32) (mH : Int64) (p1 : Int32) (y : Int32 × Int32) (hf : f_X8_wants p1 mS mW = y) : Ct G yX8_wants wsX8_wants rm_X8_wants [.ref h8, .int p1] [(h8, .inr (8, [.int mT, .ref qz, .ref qv, .int mV, .ref qp, .ref qf, .int mY, .ref qo, .int mO, .int mS, .int mW, .long mH])), (qz, .inl (gI G, 1027, .inl mZ)), (qv, .inl (gI G, 6162, .inl mU)), (qp, .inl (gI G, 512, .inl mP)), (qf, .inl (gI G, 60, .inl mB)), (qo, .inl (gI G, 60, .inl mR))] (fin1 none [(h8, .inr (8, [.int mT, .ref qz, .ref qv, .int mV, .ref qp, .ref qf, .int mY, .ref qo, .int mO, .int y.1, .int y.2, .long mH])), (qz, .inl (gI G, 1027, .inl mZ)), (qv, .inl (gI G, 6162, .inl mU)), (qp, .inl (gI G, 512, .inl mP)), (qf, .inl (gI G, 60, .inl mB)), (qo, .inl (gI G, 60, .inl mR))]) 0 0 := by
  refine Ct.of (cc := cX8_wants) (N := 2) (ret := none) RX8 (by decide) rfl rfl hl (Nat.le_of_ble_eq_true rfl) (lv := [(0, .ref h8), (1, .int p1)]) rfl (fun X hXG C hex hnm hQ => ?_)
  subst hXG
  unfold f_X8_wants at hf
  refine j_aload_n C dX8_wants_0 rfl 0 rfl ?_
  refine j_get8 C 0 rfl 10 (by decide) in_X8_wants_8 lk_X8_wants_109 rfl dX8_wants_1 ?_
  refine j_iconst C (v := (-1)) dX8_wants_4 (by decide) ?_
  refine j_icmp_ne C (tgt := 34) dX8_wants_5 (by decide) (fun e5 => ?_) (fun e5 => ?_)
  · have hf := (if_neg e5).symm.trans hf
    subst hf
    exact j_vret C hQ rfl dX8_wants_34 (Nat.zero_le _) (Nat.zero_le _) ⟨rfl, rfl⟩
  · have hf := (if_pos e5).symm.trans hf
    refine j_aload_n C dX8_wants_8 rfl 0 rfl ?_
    refine j_iload_n C dX8_wants_9 rfl 1 rfl ?_
    have k21 : ∀ (s21_0 : Int32), f_X8_wants_J21 mS s21_0 = y → Jt X [(h8, .inr (8, [.int mT, .ref qz, .ref qv, .int mV, .ref qp, .ref qf, .int mY, .ref qo, .int mO, .int mS, .int mW, .long mH])), (qz, .inl (gI X.1, 1027, .inl mZ)), (qv, .inl (gI X.1, 6162, .inl mU)), (qp, .inl (gI X.1, 512, .inl mP)), (qf, .inl (gI X.1, 60, .inl mB)), (qo, .inl (gI X.1, 60, .inl mR))] 0 0 21 [(0, .ref h8), (1, .int p1)] [.int s21_0, .ref h8] := by
      intro s21_0 hf
      unfold f_X8_wants_J21 at hf
      refine j_put8 (ty := .int) (ws' := [(h8, .inr (8, [.int mT, .ref qz, .ref qv, .int mV, .ref qp, .ref qf, .int mY, .ref qo, .int mO, .int mS, .int s21_0, .long mH])), (qz, .inl (gI X.1, 1027, .inl mZ)), (qv, .inl (gI X.1, 6162, .inl mU)), (qp, .inl (gI X.1, 512, .inl mP)), (qf, .inl (gI X.1, 60, .inl mB)), (qo, .inl (gI X.1, 60, .inl mR))]) C 0 rfl 10 (by decide) in_X8_wants_8 lk_X8_wants_109 rfl (by decide +kernel) rfl rfl (Nat.le_of_ble_eq_true rfl) rfl dX8_wants_21 ?_
      refine j_aload_n C dX8_wants_24 rfl 0 rfl ?_
      refine j_dup C dX8_wants_25 rfl ?_
      refine j_get8 C 0 rfl 9 (by decide) in_X8_wants_8 lk_X8_wants_106 rfl dX8_wants_26 ?_
      refine j_iconst C (v := 1) dX8_wants_29 (by decide) ?_
      refine j_iadd C dX8_wants_30 ?_
      refine j_put8 (ty := .int) (ws' := [(h8, .inr (8, [.int mT, .ref qz, .ref qv, .int mV, .ref qp, .ref qf, .int mY, .ref qo, .int mO, .int (mS + 1), .int s21_0, .long mH])), (qz, .inl (gI X.1, 1027, .inl mZ)), (qv, .inl (gI X.1, 6162, .inl mU)), (qp, .inl (gI X.1, 512, .inl mP)), (qf, .inl (gI X.1, 60, .inl mB)), (qo, .inl (gI X.1, 60, .inl mR))]) C 0 rfl 9 (by decide) in_X8_wants_8 lk_X8_wants_106 rfl (by decide +kernel) rfl rfl (Nat.le_of_ble_eq_true rfl) rfl dX8_wants_31 ?_
      subst hf
      exact j_vret C hQ rfl dX8_wants_34 (Nat.zero_le _) (Nat.zero_le _) ⟨rfl, rfl⟩
    refine j_if_eq C (tgt := 17) dX8_wants_10 (by decide) (fun e10 => ?_) (fun e10 => ?_)
    · have hf := (if_pos e10).symm.trans hf
      refine j_aload_n C dX8_wants_17 rfl 0 rfl ?_
      refine j_get8 C 0 rfl 9 (by decide) in_X8_wants_8 lk_X8_wants_106 rfl dX8_wants_18 ?_
      refine j_loc [0, 1] rfl ?_
      exact k21 mS hf
    · have hf := (if_neg e10).symm.trans hf
      refine j_iconst C (v := (-1)) dX8_wants_13 (by decide) ?_
      refine j_goto C (tgt := 21) dX8_wants_14 (by decide) ?_
      refine j_loc [0, 1] rfl ?_
      exact k21 (-1) hf
theorem c_X8_wants (G : CG) (hl : (gL G).stackTraces = false) (h8 : Nat) (qz : Nat) (qv : Nat) (qp : Nat) (qf : Nat) (qo : Nat) (mT : Int32) (mZ : (Nat → Int32)) (mU : (Nat → Int32)) (mV : Int32) (mP : (Nat → Int32)) (mB : (Nat → Int32)) (mY : Int32) (mR : (Nat → Int32)) (mO : Int32) (mS : Int32) (mW : Int32) (mH : Int64) (p1 : Int32) : Ct G yX8_wants wsX8_wants rm_X8_wants [.ref h8, .int p1] [(h8, .inr (8, [.int mT, .ref qz, .ref qv, .int mV, .ref qp, .ref qf, .int mY, .ref qo, .int mO, .int mS, .int mW, .long mH])), (qz, .inl (gI G, 1027, .inl mZ)), (qv, .inl (gI G, 6162, .inl mU)), (qp, .inl (gI G, 512, .inl mP)), (qf, .inl (gI G, 60, .inl mB)), (qo, .inl (gI G, 60, .inl mR))] (fin1 none [(h8, .inr (8, [.int mT, .ref qz, .ref qv, .int mV, .ref qp, .ref qf, .int mY, .ref qo, .int mO, .int (f_X8_wants p1 mS mW).1, .int (f_X8_wants p1 mS mW).2, .long mH])), (qz, .inl (gI G, 1027, .inl mZ)), (qv, .inl (gI G, 6162, .inl mU)), (qp, .inl (gI G, 512, .inl mP)), (qf, .inl (gI G, 60, .inl mB)), (qo, .inl (gI G, 60, .inl mR))]) 0 0 := b_X8_wants G hl h8 qz qv qp qf qo mT mZ mU mV mP mB mY mR mO mS mW mH p1 _ rfl

end
