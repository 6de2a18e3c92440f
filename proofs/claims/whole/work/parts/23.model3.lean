noncomputable section
def f_X8_digit (mB : (Nat → Int32)) (mY : Int32) (mS : Int32) (mW : Int32) : Option (Int32 × Int32 × Int32) :=
  Option.bind (f_X8_letter mB mY mS) (fun r1 => some (((r1 - 48), (f_X8_wants (f_X8_in (r1 - 48) 0 7) mS mW).1, (f_X8_wants (f_X8_in (r1 - 48) 0 7) mS mW).2)))
abbrev rm_X8_digit : Room := { frames := 2, cells := 0, slots := 0, locals := 38 }
theorem k_X8_digit : Cf yX8_digit wsX8_digit rm_X8_digit cX8_digit 2 (some .int) 0 := ⟨⟨_, rfl⟩, by decide +kernel, by decide +kernel, by decide +kernel⟩
set_option maxRecDepth 100000 in
set_option maxHeartbeats 4000000 in
theorem b_X8_digit (G : CG) (hl : (gL G).stackTraces = false) (h8 : Nat) (qz : Nat) (qv : Nat) (qp : Nat) (qf : Nat) (qo : Nat) (mT : Int32) (mZ : (Nat → Int32)) (mU : (Nat → Int32)) (mV : Int32) (mP : (Nat → Int32)) (mB : (Nat → Int32)) (mY : Int32) (mR : (Nat → Int32)) (mO : Int32) (mS : Int32) (mW : Int32) (mH : Int64) (y : Int32 × Int32 × Int32) (hf : f_X8_digit mB mY mS mW = some y) : Ct G yX8_digit wsX8_digit rm_X8_digit [.ref h8] [(h8, .inr (8, [.int mT, .ref qz, .ref qv, .int mV, .ref qp, .ref qf, .int mY, .ref qo, .int mO, .int mS, .int mW, .long mH])), (qz, .inl (gI G, 1027, .inl mZ)), (qv, .inl (gI G, 6162, .inl mU)), (qp, .inl (gI G, 512, .inl mP)), (qf, .inl (gI G, 60, .inl mB)), (qo, .inl (gI G, 60, .inl mR))] (fin1 (some (.int y.1)) [(h8, .inr (8, [.int mT, .ref qz, .ref qv, .int mV, .ref qp, .ref qf, .int mY, .ref qo, .int mO, .int y.2.1, .int y.2.2, .long mH])), (qz, .inl (gI G, 1027, .inl mZ)), (qv, .inl (gI G, 6162, .inl mU)), (qp, .inl (gI G, 512, .inl mP)), (qf, .inl (gI G, 60, .inl mB)), (qo, .inl (gI G, 60, .inl mR))]) 0 0 := by
  refine Ct.of (cc := cX8_digit) (N := 2) (ret := (some .int)) RX8 (by decide) rfl rfl hl (Nat.le_of_ble_eq_true rfl) (lv := [(0, .ref h8)]) rfl (fun X hXG C hex hnm hQ => ?_)
  subst hXG
  unfold f_X8_digit at hf
  refine j_aload_n C dX8_digit_0 rfl 0 rfl ?_
  obtain ⟨r1, hc1, hf⟩ := Option.bind_eq_some_iff.mp hf
  refine j_cV C (b_X8_letter X.1 hl h8 qz qv qp qf qo mT mZ mU mV mP mB mY mR mO mS mW mH r1 hc1) k_X8_letter gX8_digit_X8_letter rfl (ci := 8) (q0 := 0) rfl rfl (As := []) (rest := []) (st' := [.int r1]) (ws' := [(h8, .inr (8, [.int mT, .ref qz, .ref qv, .int mV, .ref qp, .ref qf, .int mY, .ref qo, .int mO, .int mS, .int mW, .long mH])), (qz, .inl (gI X.1, 1027, .inl mZ)), (qv, .inl (gI X.1, 6162, .inl mU)), (qp, .inl (gI X.1, 512, .inl mP)), (qf, .inl (gI X.1, 60, .inl mB)), (qo, .inl (gI X.1, 60, .inl mR))]) rfl rfl dX8_digit_1 [0, 1, 2, 3, 4, 5] [] [0, 1, 2, 3, 4, 5] rfl rfl rfl rfl rfl rfl ?_
  refine j_bipush C (v := 48) dX8_digit_4 (by decide) ?_
  refine j_isub C dX8_digit_6 ?_
  refine j_istore_n (lv' := [(1, .int (r1 - 48)), (0, .ref h8)]) C dX8_digit_7 rfl (by decide) rfl ?_
  refine j_aload_n C dX8_digit_8 rfl 1 rfl ?_
  refine j_iload_n C dX8_digit_9 rfl 0 rfl ?_
  refine j_iconst C (v := 0) dX8_digit_10 (by decide) ?_
  refine j_bipush C (v := 7) dX8_digit_11 (by decide) ?_
  refine j_cS C (c_X8_in X.1 hl (r1 - 48) 0 7) k_X8_in gX8_digit_X8_in (As := [.int (r1 - 48), .int 0, .int 7]) (rest := [.ref h8]) (st' := [.int (f_X8_in (r1 - 48) 0 7), .ref h8]) (ws' := [(h8, .inr (8, [.int mT, .ref qz, .ref qv, .int mV, .ref qp, .ref qf, .int mY, .ref qo, .int mO, .int mS, .int mW, .long mH])), (qz, .inl (gI X.1, 1027, .inl mZ)), (qv, .inl (gI X.1, 6162, .inl mU)), (qp, .inl (gI X.1, 512, .inl mP)), (qf, .inl (gI X.1, 60, .inl mB)), (qo, .inl (gI X.1, 60, .inl mR))]) rfl rfl dX8_digit_13 [] [0, 1, 2, 3, 4, 5] [0, 1, 2, 3, 4, 5] rfl rfl rfl rfl rfl rfl ?_
  refine j_cV C (c_X8_wants X.1 hl h8 qz qv qp qf qo mT mZ mU mV mP mB mY mR mO mS mW mH (f_X8_in (r1 - 48) 0 7)) k_X8_wants gX8_digit_X8_wants rfl (ci := 8) (q0 := 0) rfl rfl (As := [.int (f_X8_in (r1 - 48) 0 7)]) (rest := []) (st' := []) (ws' := [(h8, .inr (8, [.int mT, .ref qz, .ref qv, .int mV, .ref qp, .ref qf, .int mY, .ref qo, .int mO, .int (f_X8_wants (f_X8_in (r1 - 48) 0 7) mS mW).1, .int (f_X8_wants (f_X8_in (r1 - 48) 0 7) mS mW).2, .long mH])), (qz, .inl (gI X.1, 1027, .inl mZ)), (qv, .inl (gI X.1, 6162, .inl mU)), (qp, .inl (gI X.1, 512, .inl mP)), (qf, .inl (gI X.1, 60, .inl mB)), (qo, .inl (gI X.1, 60, .inl mR))]) rfl rfl dX8_digit_16 [0, 1, 2, 3, 4, 5] [] [0, 1, 2, 3, 4, 5] rfl rfl rfl rfl rfl rfl ?_
  refine j_iload_n C dX8_digit_19 rfl 0 rfl ?_
  obtain rfl := Option.some.inj hf
  exact j_iret C hQ rfl dX8_digit_20 (Nat.zero_le _) (Nat.zero_le _) ⟨rfl, rfl⟩

theorem lk_X8_number_109 : Cond.fieldLink RX8 109 (TX8 10).1 (TX8 10).2.1 (TX8 10).2.2.1 ∈ wsX8_number := by decide +kernel
theorem in_X8_number_8 : ∀ w ∈ wsX80, w ∈ wsX8_number := by decide +kernel
theorem lk_X8_number_106 : Cond.fieldLink RX8 106 (TX8 9).1 (TX8 9).2.1 (TX8 9).2.2.1 ∈ wsX8_number := by decide +kernel
def f_X8_number_L27 (mB : (Nat → Int32)) (mY : Int32) (mS : Int32) (mW : Int32) (r1 : Int32) (x27_1 : Int32) (x27_2 : Int32) (mS_27 : Int32) : Option ((Int32 × Int32 × Int32) ⊕ (Int32 × Int32 × Int32)) :=
  if (f_X8_wants (f_X8_in (r1 - 48) 0 9) mS mW).2 = (-1) then if x27_1 ≤ 0 then some (.inr ((x27_1, mS_27, (f_X8_wants (f_X8_in (r1 - 48) 0 9) mS mW).2))) else if (f_X8_in x27_2 0 9) = 0 then some (.inr ((x27_1, mS_27, (f_X8_wants (f_X8_in (r1 - 48) 0 9) mS mW).2))) else if 999 < ((10 * x27_1) + x27_2) then some (.inr ((x27_1, mS_27, (f_X8_wants (f_X8_in (r1 - 48) 0 9) mS mW).2))) else Option.bind (f_X8_letter mB mY (mS_27 + 1)) (fun r79 => some (.inl (((10 * x27_1) + x27_2), (r79 - 48), (mS_27 + 1)))) else some (.inr ((x27_1, mS_27, (f_X8_wants (f_X8_in (r1 - 48) 0 9) mS mW).2)))
def f_X8_number (mB : (Nat → Int32)) (mY : Int32) (mS : Int32) (mW : Int32) : Option (Int32 × Int32 × Int32) :=
  Option.bind (f_X8_letter mB mY mS) (fun r1 => Option.bind (f_X8_letter mB mY (f_X8_wants (f_X8_in (r1 - 48) 0 9) mS mW).1) (fun r20 => dz_it (fun s : Int32 × Int32 × Int32 => f_X8_number_L27 mB mY mS mW r1 s.1 s.2.1 s.2.2) ((r1 - 48), (r20 - 48), (f_X8_wants (f_X8_in (r1 - 48) 0 9) mS mW).1)))
abbrev rm_X8_number : Room := { frames := 2, cells := 0, slots := 0, locals := 38 }
theorem k_X8_number : Cf yX8_number wsX8_number rm_X8_number cX8_number 3 (some .int) 0 := ⟨⟨_, rfl⟩, by decide +kernel, by decide +kernel, by decide +kernel⟩
set_option maxRecDepth 100000 in
set_option maxHeartbeats 4000000 in
theorem b_X8_number (G : CG) (hl : (gL G).stackTraces = false) (h8 : Nat) (qz : Nat) (qv : Nat) (qp : Nat) (qf : Nat) (qo : Nat) (mT : Int32) (mZ : (Nat → Int32)) (mU : (Nat → Int32)) (mV : Int32) (mP : (Nat → Int32)) (mB : (Nat → Int32)) (mY : Int32) (mR : (Nat → Int32)) (mO : Int32) (mS : Int32) (mW : Int32) (mH : Int64) (y : Int32 × Int32 × Int32) (hf : f_X8_number mB mY mS mW = some y) : Ct G yX8_number wsX8_number rm_X8_number [.ref h8] [(h8, .inr (8, [.int mT, .ref qz, .ref qv, .int mV, .ref qp, .ref qf, .int mY, .ref qo, .int mO, .int mS, .int mW, .long mH])), (qz, .inl (gI G, 1027, .inl mZ)), (qv, .inl (gI G, 6162, .inl mU)), (qp, .inl (gI G, 512, .inl mP)), (qf, .inl (gI G, 60, .inl mB)), (qo, .inl (gI G, 60, .inl mR))] (fin1 (some (.int y.1)) [(h8, .inr (8, [.int mT, .ref qz, .ref qv, .int mV, .ref qp, .ref qf, .int mY, .ref qo, .int mO, .int y.2.1, .int y.2.2, .long mH])), (qz, .inl (gI G, 1027, .inl mZ)), (qv, .inl (gI G, 6162, .inl mU)), (qp, .inl (gI G, 512, .inl mP)), (qf, .inl (gI G, 60, .inl mB)), (qo, .inl (gI G, 60, .inl mR))]) 0 0 := by
  refine Ct.of (cc := cX8_number) (N := 3) (ret := (some .int)) RX8 (by decide) rfl rfl hl (Nat.le_of_ble_eq_true rfl) (lv := [(0, .ref h8)]) rfl (fun X hXG C hex hnm hQ => ?_)
  subst hXG
  unfold f_X8_number at hf
  refine j_aload_n C dX8_number_0 rfl 0 rfl ?_
  obtain ⟨r1, hc1, hf⟩ := Option.bind_eq_some_iff.mp hf
  refine j_cV C (b_X8_letter X.1 hl h8 qz qv qp qf qo mT mZ mU mV mP mB mY mR mO mS mW mH r1 hc1) k_X8_letter gX8_number_X8_letter rfl (ci := 8) (q0 := 0) rfl rfl (As := []) (rest := []) (st' := [.int r1]) (ws' := [(h8, .inr (8, [.int mT, .ref qz, .ref qv, .int mV, .ref qp, .ref qf, .int mY, .ref qo, .int mO, .int mS, .int mW, .long mH])), (qz, .inl (gI X.1, 1027, .inl mZ)), (qv, .inl (gI X.1, 6162, .inl mU)), (qp, .inl (gI X.1, 512, .inl mP)), (qf, .inl (gI X.1, 60, .inl mB)), (qo, .inl (gI X.1, 60, .inl mR))]) rfl rfl dX8_number_1 [0, 1, 2, 3, 4, 5] [] [0, 1, 2, 3, 4, 5] rfl rfl rfl rfl rfl rfl ?_
  refine j_bipush C (v := 48) dX8_number_4 (by decide) ?_
  refine j_isub C dX8_number_6 ?_
  refine j_istore_n (lv' := [(1, .int (r1 - 48)), (0, .ref h8)]) C dX8_number_7 rfl (by decide) rfl ?_
  refine j_aload_n C dX8_number_8 rfl 1 rfl ?_
  refine j_iload_n C dX8_number_9 rfl 0 rfl ?_
  refine j_iconst C (v := 0) dX8_number_10 (by decide) ?_
  refine j_bipush C (v := 9) dX8_number_11 (by decide) ?_
  refine j_cS C (c_X8_in X.1 hl (r1 - 48) 0 9) k_X8_in gX8_number_X8_in (As := [.int (r1 - 48), .int 0, .int 9]) (rest := [.ref h8]) (st' := [.int (f_X8_in (r1 - 48) 0 9), .ref h8]) (ws' := [(h8, .inr (8, [.int mT, .ref qz, .ref qv, .int mV, .ref qp, .ref qf, .int mY, .ref qo, .int mO, .int mS, .int mW, .long mH])), (qz, .inl (gI X.1, 1027, .inl mZ)), (qv, .inl (gI X.1, 6162, .inl mU)), (qp, .inl (gI X.1, 512, .inl mP)), (qf, .inl (gI X.1, 60, .inl mB)), (qo, .inl (gI X.1, 60, .inl mR))]) rfl rfl dX8_number_13 [] [0, 1, 2, 3, 4, 5] [0, 1, 2, 3, 4, 5] rfl rfl rfl rfl rfl rfl ?_
  refine j_cV C (c_X8_wants X.1 hl h8 qz qv qp qf qo mT mZ mU mV mP mB mY mR mO mS mW mH (f_X8_in (r1 - 48) 0 9)) k_X8_wants gX8_number_X8_wants rfl (ci := 8) (q0 := 0) rfl rfl (As := [.int (f_X8_in (r1 - 48) 0 9)]) (rest := []) (st' := []) (ws' := [(h8, .inr (8, [.int mT, .ref qz, .ref qv, .int mV, .ref qp, .ref qf, .int mY, .ref qo, .int mO, .int (f_X8_wants (f_X8_in (r1 - 48) 0 9) mS mW).1, .int (f_X8_wants (f_X8_in (r1 - 48) 0 9) mS mW).2, .long mH])), (qz, .inl (gI X.1, 1027, .inl mZ)), (qv, .inl (gI X.1, 6162, .inl mU)), (qp, .inl (gI X.1, 512, .inl mP)), (qf, .inl (gI X.1, 60, .inl mB)), (qo, .inl (gI X.1, 60, .inl mR))]) rfl rfl dX8_number_16 [0, 1, 2, 3, 4, 5] [] [0, 1, 2, 3, 4, 5] rfl rfl rfl rfl rfl rfl ?_
  refine j_aload_n C dX8_number_19 rfl 1 rfl ?_
  obtain ⟨r20, hc20, hf⟩ := Option.bind_eq_some_iff.mp hf
  refine j_cV C (b_X8_letter X.1 hl h8 qz qv qp qf qo mT mZ mU mV mP mB mY mR mO (f_X8_wants (f_X8_in (r1 - 48) 0 9) mS mW).1 (f_X8_wants (f_X8_in (r1 - 48) 0 9) mS mW).2 mH r20 hc20) k_X8_letter gX8_number_X8_letter rfl (ci := 8) (q0 := 0) rfl rfl (As := []) (rest := []) (st' := [.int r20]) (ws' := [(h8, .inr (8, [.int mT, .ref qz, .ref qv, .int mV, .ref qp, .ref qf, .int mY, .ref qo, .int mO, .int (f_X8_wants (f_X8_in (r1 - 48) 0 9) mS mW).1, .int (f_X8_wants (f_X8_in (r1 - 48) 0 9) mS mW).2, .long mH])), (qz, .inl (gI X.1, 1027, .inl mZ)), (qv, .inl (gI X.1, 6162, .inl mU)), (qp, .inl (gI X.1, 512, .inl mP)), (qf, .inl (gI X.1, 60, .inl mB)), (qo, .inl (gI X.1, 60, .inl mR))]) rfl rfl dX8_number_20 [0, 1, 2, 3, 4, 5] [] [0, 1, 2, 3, 4, 5] rfl rfl rfl rfl rfl rfl ?_
  refine j_bipush C (v := 48) dX8_number_23 (by decide) ?_
  refine j_isub C dX8_number_25 ?_
  refine j_istore_n (lv' := [(2, .int (r20 - 48)), (1, .int (r1 - 48)), (0, .ref h8)]) C dX8_number_26 rfl (by decide) rfl ?_
  have kk27 : ∀ (n : Nat) (x27_1 : Int32) (x27_2 : Int32) (mS_27 : Int32), dz_iter n (fun s : Int32 × Int32 × Int32 => f_X8_number_L27 mB mY mS mW r1 s.1 s.2.1 s.2.2) (x27_1, x27_2, mS_27) = some y → Jt X [(h8, .inr (8, [.int mT, .ref qz, .ref qv, .int mV, .ref qp, .ref qf, .int mY, .ref qo, .int mO, .int mS_27, .int (f_X8_wants (f_X8_in (r1 - 48) 0 9) mS mW).2, .long mH])), (qz, .inl (gI X.1, 1027, .inl mZ)), (qv, .inl (gI X.1, 6162, .inl mU)), (qp, .inl (gI X.1, 512, .inl mP)), (qf, .inl (gI X.1, 60, .inl mB)), (qo, .inl (gI X.1, 60, .inl mR))] 0 0 27 [(0, .ref h8), (1, .int x27_1), (2, .int x27_2)] [] := by
    intro n
    induction n with
    | zero => intro x27_1 x27_2 mS_27 hit; exact absurd hit (by simp [dz_iter])
    | succ n ih27 =>
      intro x27_1 x27_2 mS_27 hit
      obtain ⟨y27, hf, hg27⟩ := dz_iter_succ hit
      replace hf : f_X8_number_L27 mB mY mS mW r1 x27_1 x27_2 mS_27 = some y27 := hf
      unfold f_X8_number_L27 at hf
      refine j_aload_n C dX8_number_27 rfl 0 rfl ?_
      refine j_get8 C 0 rfl 10 (by decide) in_X8_number_8 lk_X8_number_109 rfl dX8_number_28 ?_
      refine j_iconst C (v := (-1)) dX8_number_31 (by decide) ?_
      refine j_icmp_ne C (tgt := 89) dX8_number_32 (by decide) (fun e32 => ?_) (fun e32 => ?_)
      · have hf := (if_neg e32).symm.trans hf
        refine j_iload_n C dX8_number_89 rfl 1 rfl ?_
        obtain rfl := Option.some.inj hf
        obtain rfl := dz_go_inr hg27
        exact j_iret C hQ rfl dX8_number_90 (Nat.zero_le _) (Nat.zero_le _) ⟨rfl, rfl⟩
      · have hf := (if_pos e32).symm.trans hf
        refine j_iload_n C dX8_number_35 rfl 1 rfl ?_
        refine j_if_le C (tgt := 89) dX8_number_36 (by decide) (fun e36 => ?_) (fun e36 => ?_)
        · have hf := (if_pos e36).symm.trans hf
          refine j_iload_n C dX8_number_89 rfl 1 rfl ?_
          obtain rfl := Option.some.inj hf
          obtain rfl := dz_go_inr hg27
          exact j_iret C hQ rfl dX8_number_90 (Nat.zero_le _) (Nat.zero_le _) ⟨rfl, rfl⟩
        · have hf := (if_neg e36).symm.trans hf
          refine j_iload_n C dX8_number_39 rfl 2 rfl ?_
          refine j_iconst C (v := 0) dX8_number_40 (by decide) ?_
          refine j_bipush C (v := 9) dX8_number_41 (by decide) ?_
          refine j_cS C (c_X8_in X.1 hl x27_2 0 9) k_X8_in gX8_number_X8_in (As := [.int x27_2, .int 0, .int 9]) (rest := []) (st' := [.int (f_X8_in x27_2 0 9)]) (ws' := [(h8, .inr (8, [.int mT, .ref qz, .ref qv, .int mV, .ref qp, .ref qf, .int mY, .ref qo, .int mO, .int mS_27, .int (f_X8_wants (f_X8_in (r1 - 48) 0 9) mS mW).2, .long mH])), (qz, .inl (gI X.1, 1027, .inl mZ)), (qv, .inl (gI X.1, 6162, .inl mU)), (qp, .inl (gI X.1, 512, .inl mP)), (qf, .inl (gI X.1, 60, .inl mB)), (qo, .inl (gI X.1, 60, .inl mR))]) rfl rfl dX8_number_43 [] [0, 1, 2, 3, 4, 5] [0, 1, 2, 3, 4, 5] rfl rfl rfl rfl rfl rfl ?_
          refine j_if_eq C (tgt := 89) dX8_number_46 (by decide) (fun e46 => ?_) (fun e46 => ?_)
          · have hf := (if_pos e46).symm.trans hf
            refine j_iload_n C dX8_number_89 rfl 1 rfl ?_
            obtain rfl := Option.some.inj hf
            obtain rfl := dz_go_inr hg27
            exact j_iret C hQ rfl dX8_number_90 (Nat.zero_le _) (Nat.zero_le _) ⟨rfl, rfl⟩
          · have hf := (if_neg e46).symm.trans hf
            refine j_bipush C (v := 10) dX8_number_49 (by decide) ?_
            refine j_iload_n C dX8_number_51 rfl 1 rfl ?_
            refine j_imul C dX8_number_52 ?_
            refine j_iload_n C dX8_number_53 rfl 2 rfl ?_
            refine j_iadd C dX8_number_54 ?_
            refine j_sipush C (v := 999) dX8_number_55 (by decide) ?_
            refine j_icmp_gt C (tgt := 89) dX8_number_58 (by decide) (fun e58 => ?_) (fun e58 => ?_)
            · have hf := (if_pos e58).symm.trans hf
              refine j_iload_n C dX8_number_89 rfl 1 rfl ?_
              obtain rfl := Option.some.inj hf
              obtain rfl := dz_go_inr hg27
              exact j_iret C hQ rfl dX8_number_90 (Nat.zero_le _) (Nat.zero_le _) ⟨rfl, rfl⟩
            · have hf := (if_neg e58).symm.trans hf
              refine j_bipush C (v := 10) dX8_number_61 (by decide) ?_
              refine j_iload_n C dX8_number_63 rfl 1 rfl ?_
              refine j_imul C dX8_number_64 ?_
              refine j_iload_n C dX8_number_65 rfl 2 rfl ?_
              refine j_iadd C dX8_number_66 ?_
              refine j_istore_n (lv' := [(1, .int ((10 * x27_1) + x27_2)), (0, .ref h8), (2, .int x27_2)]) C dX8_number_67 rfl (by decide) rfl ?_
              refine j_aload_n C dX8_number_68 rfl 1 rfl ?_
              refine j_dup C dX8_number_69 rfl ?_
              refine j_get8 C 0 rfl 9 (by decide) in_X8_number_8 lk_X8_number_106 rfl dX8_number_70 ?_
              refine j_iconst C (v := 1) dX8_number_73 (by decide) ?_
              refine j_iadd C dX8_number_74 ?_
              refine j_put8 (ty := .int) (ws' := [(h8, .inr (8, [.int mT, .ref qz, .ref qv, .int mV, .ref qp, .ref qf, .int mY, .ref qo, .int mO, .int (mS_27 + 1), .int (f_X8_wants (f_X8_in (r1 - 48) 0 9) mS mW).2, .long mH])), (qz, .inl (gI X.1, 1027, .inl mZ)), (qv, .inl (gI X.1, 6162, .inl mU)), (qp, .inl (gI X.1, 512, .inl mP)), (qf, .inl (gI X.1, 60, .inl mB)), (qo, .inl (gI X.1, 60, .inl mR))]) C 0 rfl 9 (by decide) in_X8_number_8 lk_X8_number_106 rfl (by decide +kernel) rfl rfl (Nat.le_of_ble_eq_true rfl) rfl dX8_number_75 ?_
              refine j_aload_n C dX8_number_78 rfl 1 rfl ?_
              obtain ⟨r79, hc79, hf⟩ := Option.bind_eq_some_iff.mp hf
              refine j_cV C (b_X8_letter X.1 hl h8 qz qv qp qf qo mT mZ mU mV mP mB mY mR mO (mS_27 + 1) (f_X8_wants (f_X8_in (r1 - 48) 0 9) mS mW).2 mH r79 hc79) k_X8_letter gX8_number_X8_letter rfl (ci := 8) (q0 := 0) rfl rfl (As := []) (rest := []) (st' := [.int r79]) (ws' := [(h8, .inr (8, [.int mT, .ref qz, .ref qv, .int mV, .ref qp, .ref qf, .int mY, .ref qo, .int mO, .int (mS_27 + 1), .int (f_X8_wants (f_X8_in (r1 - 48) 0 9) mS mW).2, .long mH])), (qz, .inl (gI X.1, 1027, .inl mZ)), (qv, .inl (gI X.1, 6162, .inl mU)), (qp, .inl (gI X.1, 512, .inl mP)), (qf, .inl (gI X.1, 60, .inl mB)), (qo, .inl (gI X.1, 60, .inl mR))]) rfl rfl dX8_number_79 [0, 1, 2, 3, 4, 5] [] [0, 1, 2, 3, 4, 5] rfl rfl rfl rfl rfl rfl ?_
              refine j_bipush C (v := 48) dX8_number_82 (by decide) ?_
              refine j_isub C dX8_number_84 ?_
              refine j_istore_n (lv' := [(2, .int (r79 - 48)), (1, .int ((10 * x27_1) + x27_2)), (0, .ref h8)]) C dX8_number_85 rfl (by decide) rfl ?_
              refine j_goto C (tgt := 27) dX8_number_86 (by decide) ?_
              obtain rfl := Option.some.inj hf
              have hf := dz_go_inl hg27
              refine j_loc [2, 1, 0] rfl ?_
              exact ih27 ((10 * x27_1) + x27_2) (r79 - 48) (mS_27 + 1) hf
  refine j_loc [2, 1, 0] rfl ?_
  exact kk27 _ (r1 - 48) (r20 - 48) (f_X8_wants (f_X8_in (r1 - 48) 0 9) mS mW).1 hf

theorem lk_X8_readOrder_119 : Cond.fieldLink RX8 119 (TX8 8).1 (TX8 8).2.1 (TX8 8).2.2.1 ∈ wsX8_readOrder := by decide +kernel
theorem in_X8_readOrder_8 : ∀ w ∈ wsX80, w ∈ wsX8_readOrder := by decide +kernel
theorem lk_X8_readOrder_22 : Cond.fieldLink RX8 22 (TX8 7).1 (TX8 7).2.1 (TX8 7).2.2.1 ∈ wsX8_readOrder := by decide +kernel
theorem lk_X8_readOrder_109 : Cond.fieldLink RX8 109 (TX8 10).1 (TX8 10).2.1 (TX8 10).2.2.1 ∈ wsX8_readOrder := by decide +kernel
theorem lk_X8_readOrder_106 : Cond.fieldLink RX8 106 (TX8 9).1 (TX8 9).2.1 (TX8 9).2.2.1 ∈ wsX8_readOrder := by decide +kernel
def f_X8_readOrder_J144 (mO : Int32) (mR_9 : (Nat → Int32)) (r123 : Int32 × Int32 × Int32) (s144_0 : Int32) (s53_0 : Int32) : Option ((Int32 × (Nat → Int32) × Int32 × Int32) ⊕ ((Nat → Int32) × Int32 × Int32 × Int32)) :=
  dz_in ((5 * mO) + 4) 60 (some (.inr (((upd (upd mR_9 (Int32.toNatClampNeg ((5 * mO) + 3)) s53_0) (Int32.toNatClampNeg ((5 * mO) + 4)) s144_0), (mO + 1), r123.2.1, r123.2.2))))
def f_X8_readOrder_J118 (mB : (Nat → Int32)) (mY : Int32) (mO : Int32) (mR_9 : (Nat → Int32)) (mS_9 : Int32) (mW_9 : Int32) (s103_0 : Int32) (s118_0 : Int32) (s53_0 : Int32) (s78_0 : Int32) : Option ((Int32 × (Nat → Int32) × Int32 × Int32) ⊕ ((Nat → Int32) × Int32 × Int32 × Int32)) :=
  Option.bind (f_X8_number mB mY ((f_X8_wants s78_0 mS_9 mW_9).1 + s118_0) (f_X8_wants s78_0 mS_9 mW_9).2) (fun r123 => if s103_0 = 0 then (f_X8_readOrder_J144 mO mR_9 r123 r123.1 s53_0) else (f_X8_readOrder_J144 mO mR_9 r123 (-r123.1) s53_0))
def f_X8_readOrder_J103 (mB : (Nat → Int32)) (mY : Int32) (mO : Int32) (mR_9 : (Nat → Int32)) (mS_9 : Int32) (mW_9 : Int32) (s103_0 : Int32) (s53_0 : Int32) (s78_0 : Int32) : Option ((Int32 × (Nat → Int32) × Int32 × Int32) ⊕ ((Nat → Int32) × Int32 × Int32 × Int32)) :=
  if s103_0 = 0 then (f_X8_readOrder_J118 mB mY mO mR_9 mS_9 mW_9 s103_0 0 s53_0 s78_0) else (f_X8_readOrder_J118 mB mY mO mR_9 mS_9 mW_9 s103_0 1 s53_0 s78_0)
def f_X8_readOrder_J102 (mB : (Nat → Int32)) (mY : Int32) (mO : Int32) (mR_9 : (Nat → Int32)) (mS_9 : Int32) (mW_9 : Int32) (s53_0 : Int32) (s78_0 : Int32) : Option ((Int32 × (Nat → Int32) × Int32 × Int32) ⊕ ((Nat → Int32) × Int32 × Int32 × Int32)) :=
  (f_X8_readOrder_J103 mB mY mO mR_9 mS_9 mW_9 0 s53_0 s78_0)
def f_X8_readOrder_J78 (mB : (Nat → Int32)) (mY : Int32) (mO : Int32) (mR_9 : (Nat → Int32)) (mS_9 : Int32) (mW_9 : Int32) (s53_0 : Int32) (s78_0 : Int32) : Option ((Int32 × (Nat → Int32) × Int32 × Int32) ⊕ ((Nat → Int32) × Int32 × Int32 × Int32)) :=
  if (f_X8_wants s78_0 mS_9 mW_9).2 = (-1) then Option.bind (f_X8_letter mB mY (f_X8_wants s78_0 mS_9 mW_9).1) (fun r90 => if r90 = 45 then (f_X8_readOrder_J103 mB mY mO mR_9 mS_9 mW_9 1 s53_0 s78_0) else (f_X8_readOrder_J102 mB mY mO mR_9 mS_9 mW_9 s53_0 s78_0)) else (f_X8_readOrder_J102 mB mY mO mR_9 mS_9 mW_9 s53_0 s78_0)
def f_X8_readOrder_J73 (mB : (Nat → Int32)) (mY : Int32) (mO : Int32) (mR_9 : (Nat → Int32)) (mS_9 : Int32) (mW_9 : Int32) (s53_0 : Int32) : Option ((Int32 × (Nat → Int32) × Int32 × Int32) ⊕ ((Nat → Int32) × Int32 × Int32 × Int32)) :=
  (f_X8_readOrder_J78 mB mY mO mR_9 mS_9 mW_9 s53_0 1)
def f_X8_readOrder_J53 (mB : (Nat → Int32)) (mY : Int32) (mO : Int32) (mR_9 : (Nat → Int32)) (mS_9 : Int32) (mW_9 : Int32) (s53_0 : Int32) : Option ((Int32 × (Nat → Int32) × Int32 × Int32) ⊕ ((Nat → Int32) × Int32 × Int32 × Int32)) :=
  dz_in ((5 * mO) + 3) 60 (Option.bind (f_X8_letter mB mY mS_9) (fun r56 => if r56 = 43 then (f_X8_readOrder_J73 mB mY mO mR_9 mS_9 mW_9 s53_0) else Option.bind (f_X8_letter mB mY mS_9) (fun r65 => if r65 = 61 then (f_X8_readOrder_J73 mB mY mO mR_9 mS_9 mW_9 s53_0) else (f_X8_readOrder_J78 mB mY mO mR_9 mS_9 mW_9 s53_0 0))))
def f_X8_readOrder_L9 (mB : (Nat → Int32)) (mY : Int32) (mO : Int32) (x9_2 : Int32) (mR_9 : (Nat → Int32)) (mS_9 : Int32) (mW_9 : Int32) : Option ((Int32 × (Nat → Int32) × Int32 × Int32) ⊕ ((Nat → Int32) × Int32 × Int32 × Int32)) :=
  if 3 ≤ x9_2 then Option.bind (f_X8_letter mB mY mS_9) (fun r40 => if r40 = 43 then (f_X8_readOrder_J53 mB mY mO mR_9 mS_9 mW_9 1) else (f_X8_readOrder_J53 mB mY mO mR_9 mS_9 mW_9 0)) else Option.bind (f_X8_digit mB mY mS_9 mW_9) (fun r22 => dz_in ((5 * mO) + x9_2) 60 (some (.inl ((x9_2 + 1), (upd mR_9 (Int32.toNatClampNeg ((5 * mO) + x9_2)) r22.1), r22.2.1, r22.2.2))))
def f_X8_readOrder (mB : (Nat → Int32)) (mY : Int32) (mR : (Nat → Int32)) (mO : Int32) (mS : Int32) (mW : Int32) : Option ((Nat → Int32) × Int32 × Int32 × Int32) :=
  dz_it (fun s : Int32 × (Nat → Int32) × Int32 × Int32 => f_X8_readOrder_L9 mB mY mO s.1 s.2.1 s.2.2.1 s.2.2.2) (0, mR, mS, mW)
abbrev rm_X8_readOrder : Room := { frames := 3, cells := 0, slots := 0, locals := 60 }
theorem k_X8_readOrder : Cf yX8_readOrder wsX8_readOrder rm_X8_readOrder cX8_readOrder 4 none 0 := ⟨⟨_, rfl⟩, by decide +kernel, by decide +kernel, by decide +kernel⟩
set_option maxRecDepth 100000 in
set_option maxHeartbeats 4000000 in
theorem b_X8_readOrder (G : CG) (hl : (gL G).stackTraces = false) (h8 : Nat) (qz : Nat) (qv : Nat) (qp : Nat) (qf : Nat) (qo : Nat) (mT : Int32) (mZ : (Nat → Int32)) (mU : (Nat → Int32)) (mV : Int32) (mP : (Nat → Int32)) (mB : (Nat → Int32)) (mY : Int32) (mR : (Nat → Int32)) (mO : Int32) (mS : Int32) (mW : Int32) (mH : Int64) (y : (Nat → Int32) × Int32 × Int32 × Int32) (hf : f_X8_readOrder mB mY mR mO mS mW = some y) : Ct G yX8_readOrder wsX8_readOrder rm_X8_readOrder [.ref h8] [(h8, .inr (8, [.int mT, .ref qz, .ref qv, .int mV, .ref qp, .ref qf, .int mY, .ref qo, .int mO, .int mS, .int mW, .long mH])), (qz, .inl (gI G, 1027, .inl mZ)), (qv, .inl (gI G, 6162, .inl mU)), (qp, .inl (gI G, 512, .inl mP)), (qf, .inl (gI G, 60, .inl mB)), (qo, .inl (gI G, 60, .inl mR))] (fin1 none [(h8, .inr (8, [.int mT, .ref qz, .ref qv, .int mV, .ref qp, .ref qf, .int mY, .ref qo, .int y.2.1, .int y.2.2.1, .int y.2.2.2, .long mH])), (qz, .inl (gI G, 1027, .inl mZ)), (qv, .inl (gI G, 6162, .inl mU)), (qp, .inl (gI G, 512, .inl mP)), (qf, .inl (gI G, 60, .inl mB)), (qo, .inl (gI G, 60, .inl y.1))]) 0 0 := by
  refine Ct.of (cc := cX8_readOrder) (N := 4) (ret := none) RX8 (by decide) rfl rfl hl (Nat.le_of_ble_eq_true rfl) (lv := [(0, .ref h8)]) rfl (fun X hXG C hex hnm hQ => ?_)
  subst hXG
  unfold f_X8_readOrder at hf
  refine j_iconst C (v := 5) dX8_readOrder_0 (by decide) ?_
  refine j_aload_n C dX8_readOrder_1 rfl 0 rfl ?_
  refine j_get8 C 0 rfl 8 (by decide) in_X8_readOrder_8 lk_X8_readOrder_119 rfl dX8_readOrder_2 ?_
  refine j_imul C dX8_readOrder_5 ?_
  refine j_istore_n (lv' := [(1, .int (5 * mO)), (0, .ref h8)]) C dX8_readOrder_6 rfl (by decide) rfl ?_
  refine j_iconst C (v := 0) dX8_readOrder_7 (by decide) ?_
  refine j_istore_n (lv' := [(2, .int 0), (1, .int (5 * mO)), (0, .ref h8)]) C dX8_readOrder_8 rfl (by decide) rfl ?_
  have kk9 : ∀ (n : Nat) (x9_2 : Int32) (mR_9 : (Nat → Int32)) (mS_9 : Int32) (mW_9 : Int32), dz_iter n (fun s : Int32 × (Nat → Int32) × Int32 × Int32 => f_X8_readOrder_L9 mB mY mO s.1 s.2.1 s.2.2.1 s.2.2.2) (x9_2, mR_9, mS_9, mW_9) = some y → Jt X [(h8, .inr (8, [.int mT, .ref qz, .ref qv, .int mV, .ref qp, .ref qf, .int mY, .ref qo, .int mO, .int mS_9, .int mW_9, .long mH])), (qz, .inl (gI X.1, 1027, .inl mZ)), (qv, .inl (gI X.1, 6162, .inl mU)), (qp, .inl (gI X.1, 512, .inl mP)), (qf, .inl (gI X.1, 60, .inl mB)), (qo, .inl (gI X.1, 60, .inl mR_9))] 0 0 9 [(0, .ref h8), (1, .int (5 * mO)), (2, .int x9_2)] [] := by
    intro n
    induction n with
    | zero => intro x9_2 mR_9 mS_9 mW_9 hit; exact absurd hit (by simp [dz_iter])
    | succ n ih9 =>
      intro x9_2 mR_9 mS_9 mW_9 hit
      obtain ⟨y9, hf, hg9⟩ := dz_iter_succ hit
      replace hf : f_X8_readOrder_L9 mB mY mO x9_2 mR_9 mS_9 mW_9 = some y9 := hf
      unfold f_X8_readOrder_L9 at hf
      refine j_iload_n C dX8_readOrder_9 rfl 2 rfl ?_
      refine j_iconst C (v := 3) dX8_readOrder_10 (by decide) ?_
      refine j_icmp_ge C (tgt := 32) dX8_readOrder_11 (by decide) (fun e11 => ?_) (fun e11 => ?_)
      · have hf := (if_pos e11).symm.trans hf
        refine j_aload_n C dX8_readOrder_32 rfl 0 rfl ?_
        refine j_get8 C 0 rfl 7 (by decide) in_X8_readOrder_8 lk_X8_readOrder_22 rfl dX8_readOrder_33 ?_
        refine j_iload_n C dX8_readOrder_36 rfl 1 rfl ?_
        refine j_iconst C (v := 3) dX8_readOrder_37 (by decide) ?_
        refine j_iadd C dX8_readOrder_38 ?_
        refine j_aload_n C dX8_readOrder_39 rfl 0 rfl ?_
        obtain ⟨r40, hc40, hf⟩ := Option.bind_eq_some_iff.mp hf
        refine j_cV C (b_X8_letter X.1 hl h8 qz qv qp qf qo mT mZ mU mV mP mB mY mR_9 mO mS_9 mW_9 mH r40 hc40) k_X8_letter gX8_readOrder_X8_letter rfl (ci := 8) (q0 := 0) rfl rfl (As := []) (rest := [.int ((5 * mO) + 3), .ref qo]) (st' := [.int r40, .int ((5 * mO) + 3), .ref qo]) (ws' := [(h8, .inr (8, [.int mT, .ref qz, .ref qv, .int mV, .ref qp, .ref qf, .int mY, .ref qo, .int mO, .int mS_9, .int mW_9, .long mH])), (qz, .inl (gI X.1, 1027, .inl mZ)), (qv, .inl (gI X.1, 6162, .inl mU)), (qp, .inl (gI X.1, 512, .inl mP)), (qf, .inl (gI X.1, 60, .inl mB)), (qo, .inl (gI X.1, 60, .inl mR_9))]) rfl rfl dX8_readOrder_40 [0, 1, 2, 3, 4, 5] [] [0, 1, 2, 3, 4, 5] rfl rfl rfl rfl rfl rfl ?_
        refine j_bipush C (v := 43) dX8_readOrder_43 (by decide) ?_
        have k53 : ∀ (s53_0 : Int32), f_X8_readOrder_J53 mB mY mO mR_9 mS_9 mW_9 s53_0 = some y9 → Jt X [(h8, .inr (8, [.int mT, .ref qz, .ref qv, .int mV, .ref qp, .ref qf, .int mY, .ref qo, .int mO, .int mS_9, .int mW_9, .long mH])), (qz, .inl (gI X.1, 1027, .inl mZ)), (qv, .inl (gI X.1, 6162, .inl mU)), (qp, .inl (gI X.1, 512, .inl mP)), (qf, .inl (gI X.1, 60, .inl mB)), (qo, .inl (gI X.1, 60, .inl mR_9))] 0 0 53 [(0, .ref h8), (1, .int (5 * mO)), (2, .int x9_2)] [.int s53_0, .int ((5 * mO) + 3), .ref qo] := by
          intro s53_0 hf
          unfold f_X8_readOrder_J53 at hf
          obtain ⟨z53, hf⟩ := dz_in_some hf
          refine j_iast (ws' := [(h8, .inr (8, [.int mT, .ref qz, .ref qv, .int mV, .ref qp, .ref qf, .int mY, .ref qo, .int mO, .int mS_9, .int mW_9, .long mH])), (qz, .inl (gI X.1, 1027, .inl mZ)), (qv, .inl (gI X.1, 6162, .inl mU)), (qp, .inl (gI X.1, 512, .inl mP)), (qf, .inl (gI X.1, 60, .inl mB)), (qo, .inl (gI X.1, 60, .inl (upd mR_9 (Int32.toNatClampNeg ((5 * mO) + 3)) s53_0)))]) C 5 rfl z53 rfl dX8_readOrder_53 ?_
          refine j_aload_n C dX8_readOrder_54 rfl 0 rfl ?_
          refine j_aload_n C dX8_readOrder_55 rfl 0 rfl ?_
          obtain ⟨r56, hc56, hf⟩ := Option.bind_eq_some_iff.mp hf
          refine j_cV C (b_X8_letter X.1 hl h8 qz qv qp qf qo mT mZ mU mV mP mB mY (upd mR_9 (Int32.toNatClampNeg ((5 * mO) + 3)) s53_0) mO mS_9 mW_9 mH r56 hc56) k_X8_letter gX8_readOrder_X8_letter rfl (ci := 8) (q0 := 0) rfl rfl (As := []) (rest := [.ref h8]) (st' := [.int r56, .ref h8]) (ws' := [(h8, .inr (8, [.int mT, .ref qz, .ref qv, .int mV, .ref qp, .ref qf, .int mY, .ref qo, .int mO, .int mS_9, .int mW_9, .long mH])), (qz, .inl (gI X.1, 1027, .inl mZ)), (qv, .inl (gI X.1, 6162, .inl mU)), (qp, .inl (gI X.1, 512, .inl mP)), (qf, .inl (gI X.1, 60, .inl mB)), (qo, .inl (gI X.1, 60, .inl (upd mR_9 (Int32.toNatClampNeg ((5 * mO) + 3)) s53_0)))]) rfl rfl dX8_readOrder_56 [0, 1, 2, 3, 4, 5] [] [0, 1, 2, 3, 4, 5] rfl rfl rfl rfl rfl rfl ?_
          refine j_bipush C (v := 43) dX8_readOrder_59 (by decide) ?_
          have k78 : ∀ (s78_0 : Int32), f_X8_readOrder_J78 mB mY mO mR_9 mS_9 mW_9 s53_0 s78_0 = some y9 → Jt X [(h8, .inr (8, [.int mT, .ref qz, .ref qv, .int mV, .ref qp, .ref qf, .int mY, .ref qo, .int mO, .int mS_9, .int mW_9, .long mH])), (qz, .inl (gI X.1, 1027, .inl mZ)), (qv, .inl (gI X.1, 6162, .inl mU)), (qp, .inl (gI X.1, 512, .inl mP)), (qf, .inl (gI X.1, 60, .inl mB)), (qo, .inl (gI X.1, 60, .inl (upd mR_9 (Int32.toNatClampNeg ((5 * mO) + 3)) s53_0)))] 0 0 78 [(0, .ref h8), (1, .int (5 * mO)), (2, .int x9_2)] [.int s78_0, .ref h8] := by
            intro s78_0 hf
            unfold f_X8_readOrder_J78 at hf
            refine j_cV C (c_X8_wants X.1 hl h8 qz qv qp qf qo mT mZ mU mV mP mB mY (upd mR_9 (Int32.toNatClampNeg ((5 * mO) + 3)) s53_0) mO mS_9 mW_9 mH s78_0) k_X8_wants gX8_readOrder_X8_wants rfl (ci := 8) (q0 := 0) rfl rfl (As := [.int s78_0]) (rest := []) (st' := []) (ws' := [(h8, .inr (8, [.int mT, .ref qz, .ref qv, .int mV, .ref qp, .ref qf, .int mY, .ref qo, .int mO, .int (f_X8_wants s78_0 mS_9 mW_9).1, .int (f_X8_wants s78_0 mS_9 mW_9).2, .long mH])), (qz, .inl (gI X.1, 1027, .inl mZ)), (qv, .inl (gI X.1, 6162, .inl mU)), (qp, .inl (gI X.1, 512, .inl mP)), (qf, .inl (gI X.1, 60, .inl mB)), (qo, .inl (gI X.1, 60, .inl (upd mR_9 (Int32.toNatClampNeg ((5 * mO) + 3)) s53_0)))]) rfl rfl dX8_readOrder_78 [0, 1, 2, 3, 4, 5] [] [0, 1, 2, 3, 4, 5] rfl rfl rfl rfl rfl rfl ?_
            refine j_aload_n C dX8_readOrder_81 rfl 0 rfl ?_
            refine j_get8 C 0 rfl 10 (by decide) in_X8_readOrder_8 lk_X8_readOrder_109 rfl dX8_readOrder_82 ?_
            refine j_iconst C (v := (-1)) dX8_readOrder_85 (by decide) ?_
            have k103 : ∀ (s103_0 : Int32), f_X8_readOrder_J103 mB mY mO mR_9 mS_9 mW_9 s103_0 s53_0 s78_0 = some y9 → Jt X [(h8, .inr (8, [.int mT, .ref qz, .ref qv, .int mV, .ref qp, .ref qf, .int mY, .ref qo, .int mO, .int (f_X8_wants s78_0 mS_9 mW_9).1, .int (f_X8_wants s78_0 mS_9 mW_9).2, .long mH])), (qz, .inl (gI X.1, 1027, .inl mZ)), (qv, .inl (gI X.1, 6162, .inl mU)), (qp, .inl (gI X.1, 512, .inl mP)), (qf, .inl (gI X.1, 60, .inl mB)), (qo, .inl (gI X.1, 60, .inl (upd mR_9 (Int32.toNatClampNeg ((5 * mO) + 3)) s53_0)))] 0 0 103 [(0, .ref h8), (1, .int (5 * mO)), (2, .int x9_2)] [.int s103_0] := by
              intro s103_0 hf
              unfold f_X8_readOrder_J103 at hf
              refine j_istore_n (lv' := [(2, .int s103_0), (0, .ref h8), (1, .int (5 * mO))]) C dX8_readOrder_103 rfl (by decide) rfl ?_
              refine j_aload_n C dX8_readOrder_104 rfl 1 rfl ?_
              refine j_dup C dX8_readOrder_105 rfl ?_
              refine j_get8 C 0 rfl 9 (by decide) in_X8_readOrder_8 lk_X8_readOrder_106 rfl dX8_readOrder_106 ?_
              refine j_iload_n C dX8_readOrder_109 rfl 0 rfl ?_
              have k118 : ∀ (s118_0 : Int32), f_X8_readOrder_J118 mB mY mO mR_9 mS_9 mW_9 s103_0 s118_0 s53_0 s78_0 = some y9 → Jt X [(h8, .inr (8, [.int mT, .ref qz, .ref qv, .int mV, .ref qp, .ref qf, .int mY, .ref qo, .int mO, .int (f_X8_wants s78_0 mS_9 mW_9).1, .int (f_X8_wants s78_0 mS_9 mW_9).2, .long mH])), (qz, .inl (gI X.1, 1027, .inl mZ)), (qv, .inl (gI X.1, 6162, .inl mU)), (qp, .inl (gI X.1, 512, .inl mP)), (qf, .inl (gI X.1, 60, .inl mB)), (qo, .inl (gI X.1, 60, .inl (upd mR_9 (Int32.toNatClampNeg ((5 * mO) + 3)) s53_0)))] 0 0 118 [(0, .ref h8), (1, .int (5 * mO)), (2, .int s103_0)] [.int s118_0, .int (f_X8_wants s78_0 mS_9 mW_9).1, .ref h8] := by
                intro s118_0 hf
                unfold f_X8_readOrder_J118 at hf
                refine j_iadd C dX8_readOrder_118 ?_
                refine j_put8 (ty := .int) (ws' := [(h8, .inr (8, [.int mT, .ref qz, .ref qv, .int mV, .ref qp, .ref qf, .int mY, .ref qo, .int mO, .int ((f_X8_wants s78_0 mS_9 mW_9).1 + s118_0), .int (f_X8_wants s78_0 mS_9 mW_9).2, .long mH])), (qz, .inl (gI X.1, 1027, .inl mZ)), (qv, .inl (gI X.1, 6162, .inl mU)), (qp, .inl (gI X.1, 512, .inl mP)), (qf, .inl (gI X.1, 60, .inl mB)), (qo, .inl (gI X.1, 60, .inl (upd mR_9 (Int32.toNatClampNeg ((5 * mO) + 3)) s53_0)))]) C 0 rfl 9 (by decide) in_X8_readOrder_8 lk_X8_readOrder_106 rfl (by decide +kernel) rfl rfl (Nat.le_of_ble_eq_true rfl) rfl dX8_readOrder_119 ?_
                refine j_aload_n C dX8_readOrder_122 rfl 0 rfl ?_
                obtain ⟨r123, hc123, hf⟩ := Option.bind_eq_some_iff.mp hf
                refine j_cV C (b_X8_number X.1 hl h8 qz qv qp qf qo mT mZ mU mV mP mB mY (upd mR_9 (Int32.toNatClampNeg ((5 * mO) + 3)) s53_0) mO ((f_X8_wants s78_0 mS_9 mW_9).1 + s118_0) (f_X8_wants s78_0 mS_9 mW_9).2 mH r123 hc123) k_X8_number gX8_readOrder_X8_number rfl (ci := 8) (q0 := 0) rfl rfl (As := []) (rest := []) (st' := [.int r123.1]) (ws' := [(h8, .inr (8, [.int mT, .ref qz, .ref qv, .int mV, .ref qp, .ref qf, .int mY, .ref qo, .int mO, .int r123.2.1, .int r123.2.2, .long mH])), (qz, .inl (gI X.1, 1027, .inl mZ)), (qv, .inl (gI X.1, 6162, .inl mU)), (qp, .inl (gI X.1, 512, .inl mP)), (qf, .inl (gI X.1, 60, .inl mB)), (qo, .inl (gI X.1, 60, .inl (upd mR_9 (Int32.toNatClampNeg ((5 * mO) + 3)) s53_0)))]) rfl rfl dX8_readOrder_123 [0, 1, 2, 3, 4, 5] [] [0, 1, 2, 3, 4, 5] rfl rfl rfl rfl rfl rfl ?_
                refine j_istore_n (lv' := [(3, .int r123.1), (0, .ref h8), (1, .int (5 * mO)), (2, .int s103_0)]) C dX8_readOrder_126 rfl (by decide) rfl ?_
                refine j_aload_n C dX8_readOrder_127 rfl 1 rfl ?_
                refine j_get8 C 0 rfl 7 (by decide) in_X8_readOrder_8 lk_X8_readOrder_22 rfl dX8_readOrder_128 ?_
                refine j_iload_n C dX8_readOrder_131 rfl 2 rfl ?_
                refine j_iconst C (v := 4) dX8_readOrder_132 (by decide) ?_
                refine j_iadd C dX8_readOrder_133 ?_
                refine j_iload_n C dX8_readOrder_134 rfl 3 rfl ?_
                have k144 : ∀ (s144_0 : Int32), f_X8_readOrder_J144 mO mR_9 r123 s144_0 s53_0 = some y9 → Jt X [(h8, .inr (8, [.int mT, .ref qz, .ref qv, .int mV, .ref qp, .ref qf, .int mY, .ref qo, .int mO, .int r123.2.1, .int r123.2.2, .long mH])), (qz, .inl (gI X.1, 1027, .inl mZ)), (qv, .inl (gI X.1, 6162, .inl mU)), (qp, .inl (gI X.1, 512, .inl mP)), (qf, .inl (gI X.1, 60, .inl mB)), (qo, .inl (gI X.1, 60, .inl (upd mR_9 (Int32.toNatClampNeg ((5 * mO) + 3)) s53_0)))] 0 0 144 [(0, .ref h8), (1, .int (5 * mO)), (2, .int s103_0), (3, .int r123.1)] [.int s144_0, .int ((5 * mO) + 4), .ref qo] := by
                  intro s144_0 hf
                  unfold f_X8_readOrder_J144 at hf
                  obtain ⟨z144, hf⟩ := dz_in_some hf
                  refine j_iast (ws' := [(h8, .inr (8, [.int mT, .ref qz, .ref qv, .int mV, .ref qp, .ref qf, .int mY, .ref qo, .int mO, .int r123.2.1, .int r123.2.2, .long mH])), (qz, .inl (gI X.1, 1027, .inl mZ)), (qv, .inl (gI X.1, 6162, .inl mU)), (qp, .inl (gI X.1, 512, .inl mP)), (qf, .inl (gI X.1, 60, .inl mB)), (qo, .inl (gI X.1, 60, .inl (upd (upd mR_9 (Int32.toNatClampNeg ((5 * mO) + 3)) s53_0) (Int32.toNatClampNeg ((5 * mO) + 4)) s144_0)))]) C 5 rfl z144 rfl dX8_readOrder_144 ?_
                  refine j_aload_n C dX8_readOrder_145 rfl 0 rfl ?_
                  refine j_dup C dX8_readOrder_146 rfl ?_
                  refine j_get8 C 0 rfl 8 (by decide) in_X8_readOrder_8 lk_X8_readOrder_119 rfl dX8_readOrder_147 ?_
                  refine j_iconst C (v := 1) dX8_readOrder_150 (by decide) ?_
                  refine j_iadd C dX8_readOrder_151 ?_
                  refine j_put8 (ty := .int) (ws' := [(h8, .inr (8, [.int mT, .ref qz, .ref qv, .int mV, .ref qp, .ref qf, .int mY, .ref qo, .int (mO + 1), .int r123.2.1, .int r123.2.2, .long mH])), (qz, .inl (gI X.1, 1027, .inl mZ)), (qv, .inl (gI X.1, 6162, .inl mU)), (qp, .inl (gI X.1, 512, .inl mP)), (qf, .inl (gI X.1, 60, .inl mB)), (qo, .inl (gI X.1, 60, .inl (upd (upd mR_9 (Int32.toNatClampNeg ((5 * mO) + 3)) s53_0) (Int32.toNatClampNeg ((5 * mO) + 4)) s144_0)))]) C 0 rfl 8 (by decide) in_X8_readOrder_8 lk_X8_readOrder_119 rfl (by decide +kernel) rfl rfl (Nat.le_of_ble_eq_true rfl) rfl dX8_readOrder_152 ?_
                  obtain rfl := Option.some.inj hf
                  obtain rfl := dz_go_inr hg9
                  exact j_vret C hQ rfl dX8_readOrder_155 (Nat.zero_le _) (Nat.zero_le _) ⟨rfl, rfl⟩
                refine j_if_eq C (tgt := 143) dX8_readOrder_135 (by decide) (fun e135 => ?_) (fun e135 => ?_)
                · have hf := (if_pos e135).symm.trans hf
                  refine j_iload_n C dX8_readOrder_143 rfl 0 rfl ?_
                  refine j_loc [1, 2, 3, 0] rfl ?_
                  exact k144 r123.1 hf
                · have hf := (if_neg e135).symm.trans hf
                  refine j_iload_n C dX8_readOrder_138 rfl 0 rfl ?_
                  refine j_ineg C dX8_readOrder_139 ?_
                  refine j_goto C (tgt := 144) dX8_readOrder_140 (by decide) ?_
                  refine j_loc [1, 2, 3, 0] rfl ?_
                  exact k144 (-r123.1) hf
              refine j_if_eq C (tgt := 117) dX8_readOrder_110 (by decide) (fun e110 => ?_) (fun e110 => ?_)
              · have hf := (if_pos e110).symm.trans hf
                refine j_iconst C (v := 0) dX8_readOrder_117 (by decide) ?_
                refine j_loc [1, 2, 0] rfl ?_
                exact k118 0 hf
              · have hf := (if_neg e110).symm.trans hf
                refine j_iconst C (v := 1) dX8_readOrder_113 (by decide) ?_
                refine j_goto C (tgt := 118) dX8_readOrder_114 (by decide) ?_
                refine j_loc [1, 2, 0] rfl ?_
                exact k118 1 hf
            have k102 : f_X8_readOrder_J102 mB mY mO mR_9 mS_9 mW_9 s53_0 s78_0 = some y9 → Jt X [(h8, .inr (8, [.int mT, .ref qz, .ref qv, .int mV, .ref qp, .ref qf, .int mY, .ref qo, .int mO, .int (f_X8_wants s78_0 mS_9 mW_9).1, .int (f_X8_wants s78_0 mS_9 mW_9).2, .long mH])), (qz, .inl (gI X.1, 1027, .inl mZ)), (qv, .inl (gI X.1, 6162, .inl mU)), (qp, .inl (gI X.1, 512, .inl mP)), (qf, .inl (gI X.1, 60, .inl mB)), (qo, .inl (gI X.1, 60, .inl (upd mR_9 (Int32.toNatClampNeg ((5 * mO) + 3)) s53_0)))] 0 0 102 [(0, .ref h8), (1, .int (5 * mO)), (2, .int x9_2)] [] := by
              intro  hf
              unfold f_X8_readOrder_J102 at hf
              refine j_iconst C (v := 0) dX8_readOrder_102 (by decide) ?_
              refine j_loc [0, 1, 2] rfl ?_
              exact k103 0 hf
            refine j_icmp_ne C (tgt := 102) dX8_readOrder_86 (by decide) (fun e86 => ?_) (fun e86 => ?_)
            · have hf := (if_neg e86).symm.trans hf
              refine j_loc [0, 1, 2] rfl ?_
              exact k102  hf
            · have hf := (if_pos e86).symm.trans hf
              refine j_aload_n C dX8_readOrder_89 rfl 0 rfl ?_
              obtain ⟨r90, hc90, hf⟩ := Option.bind_eq_some_iff.mp hf
              refine j_cV C (b_X8_letter X.1 hl h8 qz qv qp qf qo mT mZ mU mV mP mB mY (upd mR_9 (Int32.toNatClampNeg ((5 * mO) + 3)) s53_0) mO (f_X8_wants s78_0 mS_9 mW_9).1 (f_X8_wants s78_0 mS_9 mW_9).2 mH r90 hc90) k_X8_letter gX8_readOrder_X8_letter rfl (ci := 8) (q0 := 0) rfl rfl (As := []) (rest := []) (st' := [.int r90]) (ws' := [(h8, .inr (8, [.int mT, .ref qz, .ref qv, .int mV, .ref qp, .ref qf, .int mY, .ref qo, .int mO, .int (f_X8_wants s78_0 mS_9 mW_9).1, .int (f_X8_wants s78_0 mS_9 mW_9).2, .long mH])), (qz, .inl (gI X.1, 1027, .inl mZ)), (qv, .inl (gI X.1, 6162, .inl mU)), (qp, .inl (gI X.1, 512, .inl mP)), (qf, .inl (gI X.1, 60, .inl mB)), (qo, .inl (gI X.1, 60, .inl (upd mR_9 (Int32.toNatClampNeg ((5 * mO) + 3)) s53_0)))]) rfl rfl dX8_readOrder_90 [0, 1, 2, 3, 4, 5] [] [0, 1, 2, 3, 4, 5] rfl rfl rfl rfl rfl rfl ?_
              refine j_bipush C (v := 45) dX8_readOrder_93 (by decide) ?_
              refine j_icmp_ne C (tgt := 102) dX8_readOrder_95 (by decide) (fun e95 => ?_) (fun e95 => ?_)
              · have hf := (if_neg e95).symm.trans hf
                refine j_loc [0, 1, 2] rfl ?_
                exact k102  hf
              · have hf := (if_pos e95).symm.trans hf
                refine j_iconst C (v := 1) dX8_readOrder_98 (by decide) ?_
                refine j_goto C (tgt := 103) dX8_readOrder_99 (by decide) ?_
                refine j_loc [0, 1, 2] rfl ?_
                exact k103 1 hf
          have k73 : f_X8_readOrder_J73 mB mY mO mR_9 mS_9 mW_9 s53_0 = some y9 → Jt X [(h8, .inr (8, [.int mT, .ref qz, .ref qv, .int mV, .ref qp, .ref qf, .int mY, .ref qo, .int mO, .int mS_9, .int mW_9, .long mH])), (qz, .inl (gI X.1, 1027, .inl mZ)), (qv, .inl (gI X.1, 6162, .inl mU)), (qp, .inl (gI X.1, 512, .inl mP)), (qf, .inl (gI X.1, 60, .inl mB)), (qo, .inl (gI X.1, 60, .inl (upd mR_9 (Int32.toNatClampNeg ((5 * mO) + 3)) s53_0)))] 0 0 73 [(0, .ref h8), (1, .int (5 * mO)), (2, .int x9_2)] [.ref h8] := by
            intro  hf
            unfold f_X8_readOrder_J73 at hf
            refine j_iconst C (v := 1) dX8_readOrder_73 (by decide) ?_
            refine j_goto C (tgt := 78) dX8_readOrder_74 (by decide) ?_
            refine j_loc [0, 1, 2] rfl ?_
            exact k78 1 hf
          refine j_icmp_eq C (tgt := 73) dX8_readOrder_61 (by decide) (fun e61 => ?_) (fun e61 => ?_)
          · have hf := (if_pos e61).symm.trans hf
            refine j_loc [0, 1, 2] rfl ?_
            exact k73  hf
          · have hf := (if_neg e61).symm.trans hf
            refine j_aload_n C dX8_readOrder_64 rfl 0 rfl ?_
            obtain ⟨r65, hc65, hf⟩ := Option.bind_eq_some_iff.mp hf
            refine j_cV C (b_X8_letter X.1 hl h8 qz qv qp qf qo mT mZ mU mV mP mB mY (upd mR_9 (Int32.toNatClampNeg ((5 * mO) + 3)) s53_0) mO mS_9 mW_9 mH r65 hc65) k_X8_letter gX8_readOrder_X8_letter rfl (ci := 8) (q0 := 0) rfl rfl (As := []) (rest := [.ref h8]) (st' := [.int r65, .ref h8]) (ws' := [(h8, .inr (8, [.int mT, .ref qz, .ref qv, .int mV, .ref qp, .ref qf, .int mY, .ref qo, .int mO, .int mS_9, .int mW_9, .long mH])), (qz, .inl (gI X.1, 1027, .inl mZ)), (qv, .inl (gI X.1, 6162, .inl mU)), (qp, .inl (gI X.1, 512, .inl mP)), (qf, .inl (gI X.1, 60, .inl mB)), (qo, .inl (gI X.1, 60, .inl (upd mR_9 (Int32.toNatClampNeg ((5 * mO) + 3)) s53_0)))]) rfl rfl dX8_readOrder_65 [0, 1, 2, 3, 4, 5] [] [0, 1, 2, 3, 4, 5] rfl rfl rfl rfl rfl rfl ?_
            refine j_bipush C (v := 61) dX8_readOrder_68 (by decide) ?_
            refine j_icmp_ne C (tgt := 77) dX8_readOrder_70 (by decide) (fun e70 => ?_) (fun e70 => ?_)
            · have hf := (if_neg e70).symm.trans hf
              refine j_iconst C (v := 0) dX8_readOrder_77 (by decide) ?_
              refine j_loc [0, 1, 2] rfl ?_
              exact k78 0 hf
            · have hf := (if_pos e70).symm.trans hf
              refine j_loc [0, 1, 2] rfl ?_
              exact k73  hf
        refine j_icmp_ne C (tgt := 52) dX8_readOrder_45 (by decide) (fun e45 => ?_) (fun e45 => ?_)
        · have hf := (if_neg e45).symm.trans hf
          refine j_iconst C (v := 0) dX8_readOrder_52 (by decide) ?_
          refine j_loc [0, 1, 2] rfl ?_
          exact k53 0 hf
        · have hf := (if_pos e45).symm.trans hf
          refine j_iconst C (v := 1) dX8_readOrder_48 (by decide) ?_
          refine j_goto C (tgt := 53) dX8_readOrder_49 (by decide) ?_
          refine j_loc [0, 1, 2] rfl ?_
          exact k53 1 hf
      · have hf := (if_neg e11).symm.trans hf
        refine j_aload_n C dX8_readOrder_14 rfl 0 rfl ?_
        refine j_get8 C 0 rfl 7 (by decide) in_X8_readOrder_8 lk_X8_readOrder_22 rfl dX8_readOrder_15 ?_
        refine j_iload_n C dX8_readOrder_18 rfl 1 rfl ?_
        refine j_iload_n C dX8_readOrder_19 rfl 2 rfl ?_
        refine j_iadd C dX8_readOrder_20 ?_
        refine j_aload_n C dX8_readOrder_21 rfl 0 rfl ?_
        obtain ⟨r22, hc22, hf⟩ := Option.bind_eq_some_iff.mp hf
        refine j_cV C (b_X8_digit X.1 hl h8 qz qv qp qf qo mT mZ mU mV mP mB mY mR_9 mO mS_9 mW_9 mH r22 hc22) k_X8_digit gX8_readOrder_X8_digit rfl (ci := 8) (q0 := 0) rfl rfl (As := []) (rest := [.int ((5 * mO) + x9_2), .ref qo]) (st' := [.int r22.1, .int ((5 * mO) + x9_2), .ref qo]) (ws' := [(h8, .inr (8, [.int mT, .ref qz, .ref qv, .int mV, .ref qp, .ref qf, .int mY, .ref qo, .int mO, .int r22.2.1, .int r22.2.2, .long mH])), (qz, .inl (gI X.1, 1027, .inl mZ)), (qv, .inl (gI X.1, 6162, .inl mU)), (qp, .inl (gI X.1, 512, .inl mP)), (qf, .inl (gI X.1, 60, .inl mB)), (qo, .inl (gI X.1, 60, .inl mR_9))]) rfl rfl dX8_readOrder_22 [0, 1, 2, 3, 4, 5] [] [0, 1, 2, 3, 4, 5] rfl rfl rfl rfl rfl rfl ?_
        obtain ⟨z25, hf⟩ := dz_in_some hf
        refine j_iast (ws' := [(h8, .inr (8, [.int mT, .ref qz, .ref qv, .int mV, .ref qp, .ref qf, .int mY, .ref qo, .int mO, .int r22.2.1, .int r22.2.2, .long mH])), (qz, .inl (gI X.1, 1027, .inl mZ)), (qv, .inl (gI X.1, 6162, .inl mU)), (qp, .inl (gI X.1, 512, .inl mP)), (qf, .inl (gI X.1, 60, .inl mB)), (qo, .inl (gI X.1, 60, .inl (upd mR_9 (Int32.toNatClampNeg ((5 * mO) + x9_2)) r22.1)))]) C 5 rfl z25 rfl dX8_readOrder_25 ?_
        refine j_iinc (v := (x9_2 + 1)) (lv' := [(2, .int (x9_2 + 1)), (0, .ref h8), (1, .int (5 * mO))]) C dX8_readOrder_26 2 rfl (by first | rfl | decide) (by decide) rfl ?_
        refine j_goto C (tgt := 9) dX8_readOrder_29 (by decide) ?_
        obtain rfl := Option.some.inj hf
        have hf := dz_go_inl hg9
        refine j_loc [1, 2, 0] rfl ?_
        exact ih9 (x9_2 + 1) (upd mR_9 (Int32.toNatClampNeg ((5 * mO) + x9_2)) r22.1) r22.2.1 r22.2.2 hf
  refine j_loc [2, 1, 0] rfl ?_
  exact kk9 _ 0 mR mS mW hf

theorem lk_X8_readBuffer_119 : Cond.fieldLink RX8 119 (TX8 8).1 (TX8 8).2.1 (TX8 8).2.2.1 ∈ wsX8_readBuffer := by decide +kernel
theorem in_X8_readBuffer_8 : ∀ w ∈ wsX80, w ∈ wsX8_readBuffer := by decide +kernel
theorem lk_X8_readBuffer_106 : Cond.fieldLink RX8 106 (TX8 9).1 (TX8 9).2.1 (TX8 9).2.2.1 ∈ wsX8_readBuffer := by decide +kernel
theorem lk_X8_readBuffer_109 : Cond.fieldLink RX8 109 (TX8 10).1 (TX8 10).2.1 (TX8 10).2.2.1 ∈ wsX8_readBuffer := by decide +kernel
theorem lk_X8_readBuffer_103 : Cond.fieldLink RX8 103 (TX8 6).1 (TX8 6).2.1 (TX8 6).2.2.1 ∈ wsX8_readBuffer := by decide +kernel
def f_X8_readBuffer_J85 (r22 : (Nat → Int32) × Int32 × Int32 × Int32) (s69_0 : Int32) (s85_0 : Int32) : Option ((Int32 × (Nat → Int32) × Int32 × Int32 × Int32) ⊕ (Int32 × (Nat → Int32) × Int32 × Int32 × Int32)) :=
  some (.inl (s85_0, r22.1, r22.2.1, (f_X8_wants s69_0 r22.2.2.1 r22.2.2.2).1, (f_X8_wants s69_0 r22.2.2.1 r22.2.2.2).2))
def f_X8_readBuffer_J69 (r22 : (Nat → Int32) × Int32 × Int32 × Int32) (s69_0 : Int32) : Option ((Int32 × (Nat → Int32) × Int32 × Int32 × Int32) ⊕ (Int32 × (Nat → Int32) × Int32 × Int32 × Int32)) :=
  if (f_X8_wants s69_0 r22.2.2.1 r22.2.2.2).2 = (-1) then (f_X8_readBuffer_J85 r22 s69_0 1) else (f_X8_readBuffer_J85 r22 s69_0 0)
def f_X8_readBuffer_J49 (mB : (Nat → Int32)) (mY : Int32) (r22 : (Nat → Int32) × Int32 × Int32 × Int32) (s49_0 : Int32) : Option ((Int32 × (Nat → Int32) × Int32 × Int32 × Int32) ⊕ (Int32 × (Nat → Int32) × Int32 × Int32 × Int32)) :=
  if s49_0 = 0 then some (.inl (s49_0, r22.1, r22.2.1, r22.2.2.1, r22.2.2.2)) else Option.bind (f_X8_letter mB mY r22.2.2.1) (fun r56 => if r56 = 59 then (f_X8_readBuffer_J69 r22 1) else (f_X8_readBuffer_J69 r22 0))
def f_X8_readBuffer_J48 (mB : (Nat → Int32)) (mY : Int32) (r22 : (Nat → Int32) × Int32 × Int32 × Int32) : Option ((Int32 × (Nat → Int32) × Int32 × Int32 × Int32) ⊕ (Int32 × (Nat → Int32) × Int32 × Int32 × Int32)) :=
  (f_X8_readBuffer_J49 mB mY r22 0)
def f_X8_readBuffer_L17 (mB : (Nat → Int32)) (mY : Int32) (x17_1 : Int32) (mR_17 : (Nat → Int32)) (mO_17 : Int32) (mS_17 : Int32) (mW_17 : Int32) : Option ((Int32 × (Nat → Int32) × Int32 × Int32 × Int32) ⊕ (Int32 × (Nat → Int32) × Int32 × Int32 × Int32)) :=
  if x17_1 = 0 then some (.inr ((mW_17, mR_17, mO_17, mS_17, mW_17))) else Option.bind (f_X8_readOrder mB mY mR_17 mO_17 mS_17 mW_17) (fun r22 => if r22.2.2.2 = (-1) then if mY ≤ r22.2.2.1 then (f_X8_readBuffer_J48 mB mY r22) else (f_X8_readBuffer_J49 mB mY r22 1) else (f_X8_readBuffer_J48 mB mY r22))
def f_X8_readBuffer (mB : (Nat → Int32)) (mY : Int32) (mR : (Nat → Int32)) : Option (Int32 × (Nat → Int32) × Int32 × Int32 × Int32) :=
  dz_it (fun s : Int32 × (Nat → Int32) × Int32 × Int32 × Int32 => f_X8_readBuffer_L17 mB mY s.1 s.2.1 s.2.2.1 s.2.2.2.1 s.2.2.2.2) (1, mR, 0, 0, (-1))
abbrev rm_X8_readBuffer : Room := { frames := 4, cells := 0, slots := 0, locals := 83 }
theorem k_X8_readBuffer : Cf yX8_readBuffer wsX8_readBuffer rm_X8_readBuffer cX8_readBuffer 2 (some .int) 0 := ⟨⟨_, rfl⟩, by decide +kernel, by decide +kernel, by decide +kernel⟩
set_option maxRecDepth 100000 in
set_option maxHeartbeats 4000000 in
theorem b_X8_readBuffer (G : CG) (hl : (gL G).stackTraces = false) (h8 : Nat) (qz : Nat) (qv : Nat) (qp : Nat) (qf : Nat) (qo : Nat) (mT : Int32) (mZ : (Nat → Int32)) (mU : (Nat → Int32)) (mV : Int32) (mP : (Nat → Int32)) (mB : (Nat → Int32)) (mY : Int32) (mR : (Nat → Int32)) (mO : Int32) (mS : Int32) (mW : Int32) (mH : Int64) (y : Int32 × (Nat → Int32) × Int32 × Int32 × Int32) (hf : f_X8_readBuffer mB mY mR = some y) : Ct G yX8_readBuffer wsX8_readBuffer rm_X8_readBuffer [.ref h8] [(h8, .inr (8, [.int mT, .ref qz, .ref qv, .int mV, .ref qp, .ref qf, .int mY, .ref qo, .int mO, .int mS, .int mW, .long mH])), (qz, .inl (gI G, 1027, .inl mZ)), (qv, .inl (gI G, 6162, .inl mU)), (qp, .inl (gI G, 512, .inl mP)), (qf, .inl (gI G, 60, .inl mB)), (qo, .inl (gI G, 60, .inl mR))] (fin1 (some (.int y.1)) [(h8, .inr (8, [.int mT, .ref qz, .ref qv, .int mV, .ref qp, .ref qf, .int mY, .ref qo, .int y.2.2.1, .int y.2.2.2.1, .int y.2.2.2.2, .long mH])), (qz, .inl (gI G, 1027, .inl mZ)), (qv, .inl (gI G, 6162, .inl mU)), (qp, .inl (gI G, 512, .inl mP)), (qf, .inl (gI G, 60, .inl mB)), (qo, .inl (gI G, 60, .inl y.2.1))]) 0 0 := by
  refine Ct.of (cc := cX8_readBuffer) (N := 2) (ret := (some .int)) RX8 (by decide) rfl rfl hl (Nat.le_of_ble_eq_true rfl) (lv := [(0, .ref h8)]) rfl (fun X hXG C hex hnm hQ => ?_)
  subst hXG
  unfold f_X8_readBuffer at hf
  refine j_aload_n C dX8_readBuffer_0 rfl 0 rfl ?_
  refine j_iconst C (v := 0) dX8_readBuffer_1 (by decide) ?_
  refine j_put8 (ty := .int) (ws' := [(h8, .inr (8, [.int mT, .ref qz, .ref qv, .int mV, .ref qp, .ref qf, .int mY, .ref qo, .int 0, .int mS, .int mW, .long mH])), (qz, .inl (gI X.1, 1027, .inl mZ)), (qv, .inl (gI X.1, 6162, .inl mU)), (qp, .inl (gI X.1, 512, .inl mP)), (qf, .inl (gI X.1, 60, .inl mB)), (qo, .inl (gI X.1, 60, .inl mR))]) C 0 rfl 8 (by decide) in_X8_readBuffer_8 lk_X8_readBuffer_119 rfl (by decide +kernel) rfl rfl (Nat.le_of_ble_eq_true rfl) rfl dX8_readBuffer_2 ?_
  refine j_aload_n C dX8_readBuffer_5 rfl 0 rfl ?_
  refine j_iconst C (v := 0) dX8_readBuffer_6 (by decide) ?_
  refine j_put8 (ty := .int) (ws' := [(h8, .inr (8, [.int mT, .ref qz, .ref qv, .int mV, .ref qp, .ref qf, .int mY, .ref qo, .int 0, .int 0, .int mW, .long mH])), (qz, .inl (gI X.1, 1027, .inl mZ)), (qv, .inl (gI X.1, 6162, .inl mU)), (qp, .inl (gI X.1, 512, .inl mP)), (qf, .inl (gI X.1, 60, .inl mB)), (qo, .inl (gI X.1, 60, .inl mR))]) C 0 rfl 9 (by decide) in_X8_readBuffer_8 lk_X8_readBuffer_106 rfl (by decide +kernel) rfl rfl (Nat.le_of_ble_eq_true rfl) rfl dX8_readBuffer_7 ?_
  refine j_aload_n C dX8_readBuffer_10 rfl 0 rfl ?_
  refine j_iconst C (v := (-1)) dX8_readBuffer_11 (by decide) ?_
  refine j_put8 (ty := .int) (ws' := [(h8, .inr (8, [.int mT, .ref qz, .ref qv, .int mV, .ref qp, .ref qf, .int mY, .ref qo, .int 0, .int 0, .int (-1), .long mH])), (qz, .inl (gI X.1, 1027, .inl mZ)), (qv, .inl (gI X.1, 6162, .inl mU)), (qp, .inl (gI X.1, 512, .inl mP)), (qf, .inl (gI X.1, 60, .inl mB)), (qo, .inl (gI X.1, 60, .inl mR))]) C 0 rfl 10 (by decide) in_X8_readBuffer_8 lk_X8_readBuffer_109 rfl (by decide +kernel) rfl rfl (Nat.le_of_ble_eq_true rfl) rfl dX8_readBuffer_12 ?_
  refine j_iconst C (v := 1) dX8_readBuffer_15 (by decide) ?_
  refine j_istore_n (lv' := [(1, .int 1), (0, .ref h8)]) C dX8_readBuffer_16 rfl (by decide) rfl ?_
  have kk17 : ∀ (n : Nat) (x17_1 : Int32) (mR_17 : (Nat → Int32)) (mO_17 : Int32) (mS_17 : Int32) (mW_17 : Int32), dz_iter n (fun s : Int32 × (Nat → Int32) × Int32 × Int32 × Int32 => f_X8_readBuffer_L17 mB mY s.1 s.2.1 s.2.2.1 s.2.2.2.1 s.2.2.2.2) (x17_1, mR_17, mO_17, mS_17, mW_17) = some y → Jt X [(h8, .inr (8, [.int mT, .ref qz, .ref qv, .int mV, .ref qp, .ref qf, .int mY, .ref qo, .int mO_17, .int mS_17, .int mW_17, .long mH])), (qz, .inl (gI X.1, 1027, .inl mZ)), (qv, .inl (gI X.1, 6162, .inl mU)), (qp, .inl (gI X.1, 512, .inl mP)), (qf, .inl (gI X.1, 60, .inl mB)), (qo, .inl (gI X.1, 60, .inl mR_17))] 0 0 17 [(0, .ref h8), (1, .int x17_1)] [] := by
    intro n
    induction n with
    | zero => intro x17_1 mR_17 mO_17 mS_17 mW_17 hit; exact absurd hit (by simp [dz_iter])
    | succ n ih17 =>
      intro x17_1 mR_17 mO_17 mS_17 mW_17 hit
      obtain ⟨y17, hf, hg17⟩ := dz_iter_succ hit
      replace hf : f_X8_readBuffer_L17 mB mY x17_1 mR_17 mO_17 mS_17 mW_17 = some y17 := hf
      unfold f_X8_readBuffer_L17 at hf
      refine j_iload_n C dX8_readBuffer_17 rfl 1 rfl ?_
      refine j_if_eq C (tgt := 89) dX8_readBuffer_18 (by decide) (fun e18 => ?_) (fun e18 => ?_)
      · have hf := (if_pos e18).symm.trans hf
        refine j_aload_n C dX8_readBuffer_89 rfl 0 rfl ?_
        refine j_get8 C 0 rfl 10 (by decide) in_X8_readBuffer_8 lk_X8_readBuffer_109 rfl dX8_readBuffer_90 ?_
        obtain rfl := Option.some.inj hf
        obtain rfl := dz_go_inr hg17
        exact j_iret C hQ rfl dX8_readBuffer_93 (Nat.zero_le _) (Nat.zero_le _) ⟨rfl, rfl⟩
      · have hf := (if_neg e18).symm.trans hf
        refine j_aload_n C dX8_readBuffer_21 rfl 0 rfl ?_
        obtain ⟨r22, hc22, hf⟩ := Option.bind_eq_some_iff.mp hf
        refine j_cV C (b_X8_readOrder X.1 hl h8 qz qv qp qf qo mT mZ mU mV mP mB mY mR_17 mO_17 mS_17 mW_17 mH r22 hc22) k_X8_readOrder gX8_readBuffer_X8_readOrder rfl (ci := 8) (q0 := 0) rfl rfl (As := []) (rest := []) (st' := []) (ws' := [(h8, .inr (8, [.int mT, .ref qz, .ref qv, .int mV, .ref qp, .ref qf, .int mY, .ref qo, .int r22.2.1, .int r22.2.2.1, .int r22.2.2.2, .long mH])), (qz, .inl (gI X.1, 1027, .inl mZ)), (qv, .inl (gI X.1, 6162, .inl mU)), (qp, .inl (gI X.1, 512, .inl mP)), (qf, .inl (gI X.1, 60, .inl mB)), (qo, .inl (gI X.1, 60, .inl r22.1))]) rfl rfl dX8_readBuffer_22 [0, 1, 2, 3, 4, 5] [] [0, 1, 2, 3, 4, 5] rfl rfl rfl rfl rfl rfl ?_
        refine j_aload_n C dX8_readBuffer_25 rfl 0 rfl ?_
        refine j_get8 C 0 rfl 10 (by decide) in_X8_readBuffer_8 lk_X8_readBuffer_109 rfl dX8_readBuffer_26 ?_
        refine j_iconst C (v := (-1)) dX8_readBuffer_29 (by decide) ?_
        have k49 : ∀ (s49_0 : Int32), f_X8_readBuffer_J49 mB mY r22 s49_0 = some y17 → Jt X [(h8, .inr (8, [.int mT, .ref qz, .ref qv, .int mV, .ref qp, .ref qf, .int mY, .ref qo, .int r22.2.1, .int r22.2.2.1, .int r22.2.2.2, .long mH])), (qz, .inl (gI X.1, 1027, .inl mZ)), (qv, .inl (gI X.1, 6162, .inl mU)), (qp, .inl (gI X.1, 512, .inl mP)), (qf, .inl (gI X.1, 60, .inl mB)), (qo, .inl (gI X.1, 60, .inl r22.1))] 0 0 49 [(0, .ref h8), (1, .int x17_1)] [.int s49_0] := by
          intro s49_0 hf
          unfold f_X8_readBuffer_J49 at hf
          refine j_istore_n (lv' := [(1, .int s49_0), (0, .ref h8)]) C dX8_readBuffer_49 rfl (by decide) rfl ?_
          refine j_iload_n C dX8_readBuffer_50 rfl 0 rfl ?_
          refine j_if_eq C (tgt := 17) dX8_readBuffer_51 (by decide) (fun e51 => ?_) (fun e51 => ?_)
          · have hf := (if_pos e51).symm.trans hf
            obtain rfl := Option.some.inj hf
            have hf := dz_go_inl hg17
            refine j_loc [1, 0] rfl ?_
            exact ih17 s49_0 r22.1 r22.2.1 r22.2.2.1 r22.2.2.2 hf
          · have hf := (if_neg e51).symm.trans hf
            refine j_aload_n C dX8_readBuffer_54 rfl 1 rfl ?_
            refine j_aload_n C dX8_readBuffer_55 rfl 1 rfl ?_
            obtain ⟨r56, hc56, hf⟩ := Option.bind_eq_some_iff.mp hf
            refine j_cV C (b_X8_letter X.1 hl h8 qz qv qp qf qo mT mZ mU mV mP mB mY r22.1 r22.2.1 r22.2.2.1 r22.2.2.2 mH r56 hc56) k_X8_letter gX8_readBuffer_X8_letter rfl (ci := 8) (q0 := 0) rfl rfl (As := []) (rest := [.ref h8]) (st' := [.int r56, .ref h8]) (ws' := [(h8, .inr (8, [.int mT, .ref qz, .ref qv, .int mV, .ref qp, .ref qf, .int mY, .ref qo, .int r22.2.1, .int r22.2.2.1, .int r22.2.2.2, .long mH])), (qz, .inl (gI X.1, 1027, .inl mZ)), (qv, .inl (gI X.1, 6162, .inl mU)), (qp, .inl (gI X.1, 512, .inl mP)), (qf, .inl (gI X.1, 60, .inl mB)), (qo, .inl (gI X.1, 60, .inl r22.1))]) rfl rfl dX8_readBuffer_56 [0, 1, 2, 3, 4, 5] [] [0, 1, 2, 3, 4, 5] rfl rfl rfl rfl rfl rfl ?_
            refine j_bipush C (v := 59) dX8_readBuffer_59 (by decide) ?_
            have k69 : ∀ (s69_0 : Int32), f_X8_readBuffer_J69 r22 s69_0 = some y17 → Jt X [(h8, .inr (8, [.int mT, .ref qz, .ref qv, .int mV, .ref qp, .ref qf, .int mY, .ref qo, .int r22.2.1, .int r22.2.2.1, .int r22.2.2.2, .long mH])), (qz, .inl (gI X.1, 1027, .inl mZ)), (qv, .inl (gI X.1, 6162, .inl mU)), (qp, .inl (gI X.1, 512, .inl mP)), (qf, .inl (gI X.1, 60, .inl mB)), (qo, .inl (gI X.1, 60, .inl r22.1))] 0 0 69 [(0, .ref h8), (1, .int s49_0)] [.int s69_0, .ref h8] := by
              intro s69_0 hf
              unfold f_X8_readBuffer_J69 at hf
              refine j_cV C (c_X8_wants X.1 hl h8 qz qv qp qf qo mT mZ mU mV mP mB mY r22.1 r22.2.1 r22.2.2.1 r22.2.2.2 mH s69_0) k_X8_wants gX8_readBuffer_X8_wants rfl (ci := 8) (q0 := 0) rfl rfl (As := [.int s69_0]) (rest := []) (st' := []) (ws' := [(h8, .inr (8, [.int mT, .ref qz, .ref qv, .int mV, .ref qp, .ref qf, .int mY, .ref qo, .int r22.2.1, .int (f_X8_wants s69_0 r22.2.2.1 r22.2.2.2).1, .int (f_X8_wants s69_0 r22.2.2.1 r22.2.2.2).2, .long mH])), (qz, .inl (gI X.1, 1027, .inl mZ)), (qv, .inl (gI X.1, 6162, .inl mU)), (qp, .inl (gI X.1, 512, .inl mP)), (qf, .inl (gI X.1, 60, .inl mB)), (qo, .inl (gI X.1, 60, .inl r22.1))]) rfl rfl dX8_readBuffer_69 [0, 1, 2, 3, 4, 5] [] [0, 1, 2, 3, 4, 5] rfl rfl rfl rfl rfl rfl ?_
              refine j_aload_n C dX8_readBuffer_72 rfl 0 rfl ?_
              refine j_get8 C 0 rfl 10 (by decide) in_X8_readBuffer_8 lk_X8_readBuffer_109 rfl dX8_readBuffer_73 ?_
              refine j_iconst C (v := (-1)) dX8_readBuffer_76 (by decide) ?_
              have k85 : ∀ (s85_0 : Int32), f_X8_readBuffer_J85 r22 s69_0 s85_0 = some y17 → Jt X [(h8, .inr (8, [.int mT, .ref qz, .ref qv, .int mV, .ref qp, .ref qf, .int mY, .ref qo, .int r22.2.1, .int (f_X8_wants s69_0 r22.2.2.1 r22.2.2.2).1, .int (f_X8_wants s69_0 r22.2.2.1 r22.2.2.2).2, .long mH])), (qz, .inl (gI X.1, 1027, .inl mZ)), (qv, .inl (gI X.1, 6162, .inl mU)), (qp, .inl (gI X.1, 512, .inl mP)), (qf, .inl (gI X.1, 60, .inl mB)), (qo, .inl (gI X.1, 60, .inl r22.1))] 0 0 85 [(0, .ref h8), (1, .int s49_0)] [.int s85_0] := by
                intro s85_0 hf
                unfold f_X8_readBuffer_J85 at hf
                refine j_istore_n (lv' := [(1, .int s85_0), (0, .ref h8)]) C dX8_readBuffer_85 rfl (by decide) rfl ?_
                refine j_goto C (tgt := 17) dX8_readBuffer_86 (by decide) ?_
                obtain rfl := Option.some.inj hf
                have hf := dz_go_inl hg17
                refine j_loc [1, 0] rfl ?_
                exact ih17 s85_0 r22.1 r22.2.1 (f_X8_wants s69_0 r22.2.2.1 r22.2.2.2).1 (f_X8_wants s69_0 r22.2.2.1 r22.2.2.2).2 hf
              refine j_icmp_ne C (tgt := 84) dX8_readBuffer_77 (by decide) (fun e77 => ?_) (fun e77 => ?_)
              · have hf := (if_neg e77).symm.trans hf
                refine j_iconst C (v := 0) dX8_readBuffer_84 (by decide) ?_
                refine j_loc [0, 1] rfl ?_
                exact k85 0 hf
              · have hf := (if_pos e77).symm.trans hf
                refine j_iconst C (v := 1) dX8_readBuffer_80 (by decide) ?_
                refine j_goto C (tgt := 85) dX8_readBuffer_81 (by decide) ?_
                refine j_loc [0, 1] rfl ?_
                exact k85 1 hf
            refine j_icmp_ne C (tgt := 68) dX8_readBuffer_61 (by decide) (fun e61 => ?_) (fun e61 => ?_)
            · have hf := (if_neg e61).symm.trans hf
              refine j_iconst C (v := 0) dX8_readBuffer_68 (by decide) ?_
              refine j_loc [1, 0] rfl ?_
              exact k69 0 hf
            · have hf := (if_pos e61).symm.trans hf
              refine j_iconst C (v := 1) dX8_readBuffer_64 (by decide) ?_
              refine j_goto C (tgt := 69) dX8_readBuffer_65 (by decide) ?_
              refine j_loc [1, 0] rfl ?_
              exact k69 1 hf
        have k48 : f_X8_readBuffer_J48 mB mY r22 = some y17 → Jt X [(h8, .inr (8, [.int mT, .ref qz, .ref qv, .int mV, .ref qp, .ref qf, .int mY, .ref qo, .int r22.2.1, .int r22.2.2.1, .int r22.2.2.2, .long mH])), (qz, .inl (gI X.1, 1027, .inl mZ)), (qv, .inl (gI X.1, 6162, .inl mU)), (qp, .inl (gI X.1, 512, .inl mP)), (qf, .inl (gI X.1, 60, .inl mB)), (qo, .inl (gI X.1, 60, .inl r22.1))] 0 0 48 [(0, .ref h8), (1, .int x17_1)] [] := by
          intro  hf
          unfold f_X8_readBuffer_J48 at hf
          refine j_iconst C (v := 0) dX8_readBuffer_48 (by decide) ?_
          refine j_loc [0, 1] rfl ?_
          exact k49 0 hf
        refine j_icmp_ne C (tgt := 48) dX8_readBuffer_30 (by decide) (fun e30 => ?_) (fun e30 => ?_)
        · have hf := (if_neg e30).symm.trans hf
          refine j_loc [0, 1] rfl ?_
          exact k48  hf
        · have hf := (if_pos e30).symm.trans hf
          refine j_aload_n C dX8_readBuffer_33 rfl 0 rfl ?_
          refine j_get8 C 0 rfl 9 (by decide) in_X8_readBuffer_8 lk_X8_readBuffer_106 rfl dX8_readBuffer_34 ?_
          refine j_aload_n C dX8_readBuffer_37 rfl 0 rfl ?_
          refine j_get8 C 0 rfl 6 (by decide) in_X8_readBuffer_8 lk_X8_readBuffer_103 rfl dX8_readBuffer_38 ?_
          refine j_icmp_ge C (tgt := 48) dX8_readBuffer_41 (by decide) (fun e41 => ?_) (fun e41 => ?_)
          · have hf := (if_pos e41).symm.trans hf
            refine j_loc [0, 1] rfl ?_
            exact k48  hf
          · have hf := (if_neg e41).symm.trans hf
            refine j_iconst C (v := 1) dX8_readBuffer_44 (by decide) ?_
            refine j_goto C (tgt := 49) dX8_readBuffer_45 (by decide) ?_
            refine j_loc [0, 1] rfl ?_
            exact k49 1 hf
  refine j_loc [1, 0] rfl ?_
  exact kk17 _ 1 mR 0 0 (-1) hf

theorem lk_X8_firstError_25 : Cond.fieldLink RX8 25 (TX8 0).1 (TX8 0).2.1 (TX8 0).2.2.1 ∈ wsX8_firstError := by decide +kernel
theorem in_X8_firstError_8 : ∀ w ∈ wsX80, w ∈ wsX8_firstError := by decide +kernel
theorem lk_X8_firstError_103 : Cond.fieldLink RX8 103 (TX8 6).1 (TX8 6).2.1 (TX8 6).2.2.1 ∈ wsX8_firstError := by decide +kernel
def f_X8_firstError (mB : (Nat → Int32)) (mY : Int32) (mR : (Nat → Int32)) : Option (Int32 × Int32 × (Nat → Int32) × Int32 × Int32 × Int32) :=
  Option.bind (f_X8_readBuffer mB mY mR) (fun r6 => if r6.1 = (-1) then some ((mY, 0, r6.2.1, r6.2.2.1, r6.2.2.2.1, r6.2.2.2.2)) else some ((r6.1, 0, r6.2.1, r6.2.2.1, r6.2.2.2.1, r6.2.2.2.2)))
abbrev rm_X8_firstError : Room := { frames := 5, cells := 0, slots := 0, locals := 104 }
theorem k_X8_firstError : Cf yX8_firstError wsX8_firstError rm_X8_firstError cX8_firstError 2 (some .int) 0 := ⟨⟨_, rfl⟩, by decide +kernel, by decide +kernel, by decide +kernel⟩
set_option maxRecDepth 100000 in
set_option maxHeartbeats 4000000 in
theorem b_X8_firstError (G : CG) (hl : (gL G).stackTraces = false) (h8 : Nat) (qz : Nat) (qv : Nat) (qp : Nat) (qf : Nat) (qo : Nat) (mT : Int32) (mZ : (Nat → Int32)) (mU : (Nat → Int32)) (mV : Int32) (mP : (Nat → Int32)) (mB : (Nat → Int32)) (mY : Int32) (mR : (Nat → Int32)) (mO : Int32) (mS : Int32) (mW : Int32) (mH : Int64) (y : Int32 × Int32 × (Nat → Int32) × Int32 × Int32 × Int32) (hf : f_X8_firstError mB mY mR = some y) : Ct G yX8_firstError wsX8_firstError rm_X8_firstError [.ref h8] [(h8, .inr (8, [.int mT, .ref qz, .ref qv, .int mV, .ref qp, .ref qf, .int mY, .ref qo, .int mO, .int mS, .int mW, .long mH])), (qz, .inl (gI G, 1027, .inl mZ)), (qv, .inl (gI G, 6162, .inl mU)), (qp, .inl (gI G, 512, .inl mP)), (qf, .inl (gI G, 60, .inl mB)), (qo, .inl (gI G, 60, .inl mR))] (fin1 (some (.int y.1)) [(h8, .inr (8, [.int y.2.1, .ref qz, .ref qv, .int mV, .ref qp, .ref qf, .int mY, .ref qo, .int y.2.2.2.1, .int y.2.2.2.2.1, .int y.2.2.2.2.2, .long mH])), (qz, .inl (gI G, 1027, .inl mZ)), (qv, .inl (gI G, 6162, .inl mU)), (qp, .inl (gI G, 512, .inl mP)), (qf, .inl (gI G, 60, .inl mB)), (qo, .inl (gI G, 60, .inl y.2.2.1))]) 0 0 := by
  refine Ct.of (cc := cX8_firstError) (N := 2) (ret := (some .int)) RX8 (by decide) rfl rfl hl (Nat.le_of_ble_eq_true rfl) (lv := [(0, .ref h8)]) rfl (fun X hXG C hex hnm hQ => ?_)
  subst hXG
  unfold f_X8_firstError at hf
  refine j_aload_n C dX8_firstError_0 rfl 0 rfl ?_
  refine j_iconst C (v := 0) dX8_firstError_1 (by decide) ?_
  refine j_put8 (ty := .int) (ws' := [(h8, .inr (8, [.int 0, .ref qz, .ref qv, .int mV, .ref qp, .ref qf, .int mY, .ref qo, .int mO, .int mS, .int mW, .long mH])), (qz, .inl (gI X.1, 1027, .inl mZ)), (qv, .inl (gI X.1, 6162, .inl mU)), (qp, .inl (gI X.1, 512, .inl mP)), (qf, .inl (gI X.1, 60, .inl mB)), (qo, .inl (gI X.1, 60, .inl mR))]) C 0 rfl 0 (by decide) in_X8_firstError_8 lk_X8_firstError_25 rfl (by decide +kernel) rfl rfl (Nat.le_of_ble_eq_true rfl) rfl dX8_firstError_2 ?_
  refine j_aload_n C dX8_firstError_5 rfl 0 rfl ?_
  obtain ⟨r6, hc6, hf⟩ := Option.bind_eq_some_iff.mp hf
  refine j_cV C (b_X8_readBuffer X.1 hl h8 qz qv qp qf qo 0 mZ mU mV mP mB mY mR mO mS mW mH r6 hc6) k_X8_readBuffer gX8_firstError_X8_readBuffer rfl (ci := 8) (q0 := 0) rfl rfl (As := []) (rest := []) (st' := [.int r6.1]) (ws' := [(h8, .inr (8, [.int 0, .ref qz, .ref qv, .int mV, .ref qp, .ref qf, .int mY, .ref qo, .int r6.2.2.1, .int r6.2.2.2.1, .int r6.2.2.2.2, .long mH])), (qz, .inl (gI X.1, 1027, .inl mZ)), (qv, .inl (gI X.1, 6162, .inl mU)), (qp, .inl (gI X.1, 512, .inl mP)), (qf, .inl (gI X.1, 60, .inl mB)), (qo, .inl (gI X.1, 60, .inl r6.2.1))]) rfl rfl dX8_firstError_6 [0, 1, 2, 3, 4, 5] [] [0, 1, 2, 3, 4, 5] rfl rfl rfl rfl rfl rfl ?_
  refine j_istore_n (lv' := [(1, .int r6.1), (0, .ref h8)]) C dX8_firstError_9 rfl (by decide) rfl ?_
  refine j_iload_n C dX8_firstError_10 rfl 0 rfl ?_
  refine j_iconst C (v := (-1)) dX8_firstError_11 (by decide) ?_
  refine j_icmp_ne C (tgt := 22) dX8_firstError_12 (by decide) (fun e12 => ?_) (fun e12 => ?_)
  · have hf := (if_neg e12).symm.trans hf
    refine j_iload_n C dX8_firstError_22 rfl 0 rfl ?_
    obtain rfl := Option.some.inj hf
    exact j_iret C hQ rfl dX8_firstError_23 (Nat.zero_le _) (Nat.zero_le _) ⟨rfl, rfl⟩
  · have hf := (if_pos e12).symm.trans hf
    refine j_aload_n C dX8_firstError_15 rfl 1 rfl ?_
    refine j_get8 C 0 rfl 6 (by decide) in_X8_firstError_8 lk_X8_firstError_103 rfl dX8_firstError_16 ?_
    refine j_goto C (tgt := 23) dX8_firstError_19 (by decide) ?_
    obtain rfl := Option.some.inj hf
    exact j_iret C hQ rfl dX8_firstError_23 (Nat.zero_le _) (Nat.zero_le _) ⟨rfl, rfl⟩

theorem lk_X8_does_22 : Cond.fieldLink RX8 22 (TX8 7).1 (TX8 7).2.1 (TX8 7).2.2.1 ∈ wsX8_does := by decide +kernel
theorem in_X8_does_8 : ∀ w ∈ wsX80, w ∈ wsX8_does := by decide +kernel
theorem lk_X8_does_7 : Cond.fieldLink RX8 7 (TX8 1).1 (TX8 1).2.1 (TX8 1).2.2.1 ∈ wsX8_does := by decide +kernel
def f_X8_does_J129 (p1 : Int32) (mZ : (Nat → Int32)) (mR : (Nat → Int32)) (s105_0 : Int32) (s129_0 : Int32) : Option (Int32 × (Nat → Int32)) :=
  dz_in (3 + (f_X8_place (mR (Int32.toNatClampNeg (5 * p1))) (mR (Int32.toNatClampNeg ((5 * p1) + 1))) (mR (Int32.toNatClampNeg ((5 * p1) + 2))))) 1027 (some (((f_X8_isNumber ((mR (Int32.toNatClampNeg ((5 * p1) + 4))) + s105_0)), (upd mZ (Int32.toNatClampNeg (3 + (f_X8_place (mR (Int32.toNatClampNeg (5 * p1))) (mR (Int32.toNatClampNeg ((5 * p1) + 1))) (mR (Int32.toNatClampNeg ((5 * p1) + 2)))))) s129_0))))
def f_X8_does_J105 (p1 : Int32) (mZ : (Nat → Int32)) (mR : (Nat → Int32)) (s105_0 : Int32) : Option (Int32 × (Nat → Int32)) :=
  if (f_X8_isNumber ((mR (Int32.toNatClampNeg ((5 * p1) + 4))) + s105_0)) = 0 then dz_in (3 + (f_X8_place (mR (Int32.toNatClampNeg (5 * p1))) (mR (Int32.toNatClampNeg ((5 * p1) + 1))) (mR (Int32.toNatClampNeg ((5 * p1) + 2))))) 1027 ((f_X8_does_J129 p1 mZ mR s105_0 (mZ (Int32.toNatClampNeg (3 + (f_X8_place (mR (Int32.toNatClampNeg (5 * p1))) (mR (Int32.toNatClampNeg ((5 * p1) + 1))) (mR (Int32.toNatClampNeg ((5 * p1) + 2))))))))) else (f_X8_does_J129 p1 mZ mR s105_0 ((mR (Int32.toNatClampNeg ((5 * p1) + 4))) + s105_0))
def f_X8_does (p1 : Int32) (mZ : (Nat → Int32)) (mR : (Nat → Int32)) : Option (Int32 × (Nat → Int32)) :=
  dz_in (5 * p1) 60 (dz_in ((5 * p1) + 1) 60 (dz_in ((5 * p1) + 2) 60 (if (f_X8_isPoint (mR (Int32.toNatClampNeg (5 * p1))) (mR (Int32.toNatClampNeg ((5 * p1) + 1))) (mR (Int32.toNatClampNeg ((5 * p1) + 2))) mZ) = 0 then some ((0, mZ)) else dz_in (5 * p1) 60 (dz_in ((5 * p1) + 1) 60 (dz_in ((5 * p1) + 2) 60 (dz_in ((5 * p1) + 4) 60 (dz_in ((5 * p1) + 3) 60 (if (mR (Int32.toNatClampNeg ((5 * p1) + 3))) = 1 then dz_in (3 + (f_X8_place (mR (Int32.toNatClampNeg (5 * p1))) (mR (Int32.toNatClampNeg ((5 * p1) + 1))) (mR (Int32.toNatClampNeg ((5 * p1) + 2))))) 1027 ((f_X8_does_J105 p1 mZ mR (mZ (Int32.toNatClampNeg (3 + (f_X8_place (mR (Int32.toNatClampNeg (5 * p1))) (mR (Int32.toNatClampNeg ((5 * p1) + 1))) (mR (Int32.toNatClampNeg ((5 * p1) + 2))))))))) else (f_X8_does_J105 p1 mZ mR 0)))))))))
abbrev rm_X8_does : Room := { frames := 3, cells := 0, slots := 0, locals := 60 }
theorem k_X8_does : Cf yX8_does wsX8_does rm_X8_does cX8_does 4 (some .boolean) 1 := ⟨⟨_, rfl⟩, by decide +kernel, by decide +kernel, by decide +kernel⟩
set_option maxRecDepth 100000 in
set_option maxHeartbeats 4000000 in
theorem b_X8_does (G : CG) (hl : (gL G).stackTraces = false) (h8 : Nat) (qz : Nat) (qv : Nat) (qp : Nat) (qf : Nat) (qo : Nat) (mT : Int32) (mZ : (Nat → Int32)) (mU : (Nat → Int32)) (mV : Int32) (mP : (Nat → Int32)) (mB : (Nat → Int32)) (mY : Int32) (mR : (Nat → Int32)) (mO : Int32) (mS : Int32) (mW : Int32) (mH : Int64) (p1 : Int32) (y : Int32 × (Nat → Int32)) (hf : f_X8_does p1 mZ mR = some y) : Ct G yX8_does wsX8_does rm_X8_does [.ref h8, .int p1] [(h8, .inr (8, [.int mT, .ref qz, .ref qv, .int mV, .ref qp, .ref qf, .int mY, .ref qo, .int mO, .int mS, .int mW, .long mH])), (qz, .inl (gI G, 1027, .inl mZ)), (qv, .inl (gI G, 6162, .inl mU)), (qp, .inl (gI G, 512, .inl mP)), (qf, .inl (gI G, 60, .inl mB)), (qo, .inl (gI G, 60, .inl mR))] (fin1 (some (.int y.1)) [(h8, .inr (8, [.int mT, .ref qz, .ref qv, .int mV, .ref qp, .ref qf, .int mY, .ref qo, .int mO, .int mS, .int mW, .long mH])), (qz, .inl (gI G, 1027, .inl y.2)), (qv, .inl (gI G, 6162, .inl mU)), (qp, .inl (gI G, 512, .inl mP)), (qf, .inl (gI G, 60, .inl mB)), (qo, .inl (gI G, 60, .inl mR))]) 0 0 := by
  refine Ct.of (cc := cX8_does) (N := 4) (ret := (some .boolean)) RX8 (by decide) rfl rfl hl (Nat.le_of_ble_eq_true rfl) (lv := [(0, .ref h8), (1, .int p1)]) rfl (fun X hXG C hex hnm hQ => ?_)
  subst hXG
  unfold f_X8_does at hf
  refine j_aload_n C dX8_does_0 rfl 0 rfl ?_
  refine j_aload_n C dX8_does_1 rfl 0 rfl ?_
  refine j_get8 C 0 rfl 7 (by decide) in_X8_does_8 lk_X8_does_22 rfl dX8_does_2 ?_
  refine j_iconst C (v := 5) dX8_does_5 (by decide) ?_
  refine j_iload_n C dX8_does_6 rfl 1 rfl ?_
  refine j_imul C dX8_does_7 ?_
  obtain ⟨z8, hf⟩ := dz_in_some hf
  refine j_iald C 5 rfl z8 dX8_does_8 ?_
  refine j_aload_n C dX8_does_9 rfl 0 rfl ?_
  refine j_get8 C 0 rfl 7 (by decide) in_X8_does_8 lk_X8_does_22 rfl dX8_does_10 ?_
  refine j_iconst C (v := 5) dX8_does_13 (by decide) ?_
  refine j_iload_n C dX8_does_14 rfl 1 rfl ?_
  refine j_imul C dX8_does_15 ?_
  refine j_iconst C (v := 1) dX8_does_16 (by decide) ?_
  refine j_iadd C dX8_does_17 ?_
  obtain ⟨z18, hf⟩ := dz_in_some hf
  refine j_iald C 5 rfl z18 dX8_does_18 ?_
  refine j_aload_n C dX8_does_19 rfl 0 rfl ?_
  refine j_get8 C 0 rfl 7 (by decide) in_X8_does_8 lk_X8_does_22 rfl dX8_does_20 ?_
  refine j_iconst C (v := 5) dX8_does_23 (by decide) ?_
  refine j_iload_n C dX8_does_24 rfl 1 rfl ?_
  refine j_imul C dX8_does_25 ?_
  refine j_iconst C (v := 2) dX8_does_26 (by decide) ?_
  refine j_iadd C dX8_does_27 ?_
  obtain ⟨z28, hf⟩ := dz_in_some hf
  refine j_iald C 5 rfl z28 dX8_does_28 ?_
  refine j_cV C (c_X8_isPoint X.1 hl h8 qz qv qp qf qo mT mZ mU mV mP mB mY mR mO mS mW mH (mR (Int32.toNatClampNeg (5 * p1))) (mR (Int32.toNatClampNeg ((5 * p1) + 1))) (mR (Int32.toNatClampNeg ((5 * p1) + 2)))) k_X8_isPoint gX8_does_X8_isPoint rfl (ci := 8) (q0 := 0) rfl rfl (As := [.int (mR (Int32.toNatClampNeg (5 * p1))), .int (mR (Int32.toNatClampNeg ((5 * p1) + 1))), .int (mR (Int32.toNatClampNeg ((5 * p1) + 2)))]) (rest := []) (st' := [.int (f_X8_isPoint (mR (Int32.toNatClampNeg (5 * p1))) (mR (Int32.toNatClampNeg ((5 * p1) + 1))) (mR (Int32.toNatClampNeg ((5 * p1) + 2))) mZ)]) (ws' := [(h8, .inr (8, [.int mT, .ref qz, .ref qv, .int mV, .ref qp, .ref qf, .int mY, .ref qo, .int mO, .int mS, .int mW, .long mH])), (qz, .inl (gI X.1, 1027, .inl mZ)), (qv, .inl (gI X.1, 6162, .inl mU)), (qp, .inl (gI X.1, 512, .inl mP)), (qf, .inl (gI X.1, 60, .inl mB)), (qo, .inl (gI X.1, 60, .inl mR))]) rfl rfl dX8_does_29 [0, 1, 2, 3, 4, 5] [] [0, 1, 2, 3, 4, 5] rfl rfl rfl rfl rfl rfl ?_
  refine j_if_ne C (tgt := 37) dX8_does_32 (by decide) (fun e32 => ?_) (fun e32 => ?_)
  · have hf := (if_neg e32).symm.trans hf
    refine j_iconst C (v := 3) dX8_does_37 (by decide) ?_
    refine j_aload_n C dX8_does_38 rfl 0 rfl ?_
    refine j_get8 C 0 rfl 7 (by decide) in_X8_does_8 lk_X8_does_22 rfl dX8_does_39 ?_
    refine j_iconst C (v := 5) dX8_does_42 (by decide) ?_
    refine j_iload_n C dX8_does_43 rfl 1 rfl ?_
    refine j_imul C dX8_does_44 ?_
    obtain ⟨z45, hf⟩ := dz_in_some hf
    refine j_iald C 5 rfl z45 dX8_does_45 ?_
    refine j_aload_n C dX8_does_46 rfl 0 rfl ?_
    refine j_get8 C 0 rfl 7 (by decide) in_X8_does_8 lk_X8_does_22 rfl dX8_does_47 ?_
    refine j_iconst C (v := 5) dX8_does_50 (by decide) ?_
    refine j_iload_n C dX8_does_51 rfl 1 rfl ?_
    refine j_imul C dX8_does_52 ?_
    refine j_iconst C (v := 1) dX8_does_53 (by decide) ?_
    refine j_iadd C dX8_does_54 ?_
    obtain ⟨z55, hf⟩ := dz_in_some hf
    refine j_iald C 5 rfl z55 dX8_does_55 ?_
    refine j_aload_n C dX8_does_56 rfl 0 rfl ?_
    refine j_get8 C 0 rfl 7 (by decide) in_X8_does_8 lk_X8_does_22 rfl dX8_does_57 ?_
    refine j_iconst C (v := 5) dX8_does_60 (by decide) ?_
    refine j_iload_n C dX8_does_61 rfl 1 rfl ?_
    refine j_imul C dX8_does_62 ?_
    refine j_iconst C (v := 2) dX8_does_63 (by decide) ?_
    refine j_iadd C dX8_does_64 ?_
    obtain ⟨z65, hf⟩ := dz_in_some hf
    refine j_iald C 5 rfl z65 dX8_does_65 ?_
    refine j_cS C (c_X8_place X.1 hl (mR (Int32.toNatClampNeg (5 * p1))) (mR (Int32.toNatClampNeg ((5 * p1) + 1))) (mR (Int32.toNatClampNeg ((5 * p1) + 2)))) k_X8_place gX8_does_X8_place (As := [.int (mR (Int32.toNatClampNeg (5 * p1))), .int (mR (Int32.toNatClampNeg ((5 * p1) + 1))), .int (mR (Int32.toNatClampNeg ((5 * p1) + 2)))]) (rest := [.int 3]) (st' := [.int (f_X8_place (mR (Int32.toNatClampNeg (5 * p1))) (mR (Int32.toNatClampNeg ((5 * p1) + 1))) (mR (Int32.toNatClampNeg ((5 * p1) + 2)))), .int 3]) (ws' := [(h8, .inr (8, [.int mT, .ref qz, .ref qv, .int mV, .ref qp, .ref qf, .int mY, .ref qo, .int mO, .int mS, .int mW, .long mH])), (qz, .inl (gI X.1, 1027, .inl mZ)), (qv, .inl (gI X.1, 6162, .inl mU)), (qp, .inl (gI X.1, 512, .inl mP)), (qf, .inl (gI X.1, 60, .inl mB)), (qo, .inl (gI X.1, 60, .inl mR))]) rfl rfl dX8_does_66 [] [0, 1, 2, 3, 4, 5] [0, 1, 2, 3, 4, 5] rfl rfl rfl rfl rfl rfl ?_
    refine j_iadd C dX8_does_69 ?_
    refine j_istore_n (lv' := [(2, .int (3 + (f_X8_place (mR (Int32.toNatClampNeg (5 * p1))) (mR (Int32.toNatClampNeg ((5 * p1) + 1))) (mR (Int32.toNatClampNeg ((5 * p1) + 2)))))), (0, .ref h8), (1, .int p1)]) C dX8_does_70 rfl (by decide) rfl ?_
    refine j_aload_n C dX8_does_71 rfl 1 rfl ?_
    refine j_get8 C 0 rfl 7 (by decide) in_X8_does_8 lk_X8_does_22 rfl dX8_does_72 ?_
    refine j_iconst C (v := 5) dX8_does_75 (by decide) ?_
    refine j_iload_n C dX8_does_76 rfl 2 rfl ?_
    refine j_imul C dX8_does_77 ?_
    refine j_iconst C (v := 4) dX8_does_78 (by decide) ?_
    refine j_iadd C dX8_does_79 ?_
    obtain ⟨z80, hf⟩ := dz_in_some hf
    refine j_iald C 5 rfl z80 dX8_does_80 ?_
    refine j_aload_n C dX8_does_81 rfl 1 rfl ?_
    refine j_get8 C 0 rfl 7 (by decide) in_X8_does_8 lk_X8_does_22 rfl dX8_does_82 ?_
    refine j_iconst C (v := 5) dX8_does_85 (by decide) ?_
    refine j_iload_n C dX8_does_86 rfl 2 rfl ?_
    refine j_imul C dX8_does_87 ?_
    refine j_iconst C (v := 3) dX8_does_88 (by decide) ?_
    refine j_iadd C dX8_does_89 ?_
    obtain ⟨z90, hf⟩ := dz_in_some hf
    refine j_iald C 5 rfl z90 dX8_does_90 ?_
    refine j_iconst C (v := 1) dX8_does_91 (by decide) ?_
    have k105 : ∀ (s105_0 : Int32), f_X8_does_J105 p1 mZ mR s105_0 = some y → Jt X [(h8, .inr (8, [.int mT, .ref qz, .ref qv, .int mV, .ref qp, .ref qf, .int mY, .ref qo, .int mO, .int mS, .int mW, .long mH])), (qz, .inl (gI X.1, 1027, .inl mZ)), (qv, .inl (gI X.1, 6162, .inl mU)), (qp, .inl (gI X.1, 512, .inl mP)), (qf, .inl (gI X.1, 60, .inl mB)), (qo, .inl (gI X.1, 60, .inl mR))] 0 0 105 [(0, .ref h8), (1, .int p1), (2, .int (3 + (f_X8_place (mR (Int32.toNatClampNeg (5 * p1))) (mR (Int32.toNatClampNeg ((5 * p1) + 1))) (mR (Int32.toNatClampNeg ((5 * p1) + 2))))))] [.int s105_0, .int (mR (Int32.toNatClampNeg ((5 * p1) + 4)))] := by
      intro s105_0 hf
      unfold f_X8_does_J105 at hf
      refine j_iadd C dX8_does_105 ?_
      refine j_istore_n (lv' := [(3, .int ((mR (Int32.toNatClampNeg ((5 * p1) + 4))) + s105_0)), (0, .ref h8), (1, .int p1), (2, .int (3 + (f_X8_place (mR (Int32.toNatClampNeg (5 * p1))) (mR (Int32.toNatClampNeg ((5 * p1) + 1))) (mR (Int32.toNatClampNeg ((5 * p1) + 2))))))]) C dX8_does_106 rfl (by decide) rfl ?_
      refine j_aload_n C dX8_does_107 rfl 1 rfl ?_
      refine j_get8 C 0 rfl 1 (by decide) in_X8_does_8 lk_X8_does_7 rfl dX8_does_108 ?_
      refine j_iload_n C dX8_does_111 rfl 3 rfl ?_
      refine j_iload_n C dX8_does_112 rfl 0 rfl ?_
      refine j_cS C (c_X8_isNumber X.1 hl ((mR (Int32.toNatClampNeg ((5 * p1) + 4))) + s105_0)) k_X8_isNumber gX8_does_X8_isNumber (As := [.int ((mR (Int32.toNatClampNeg ((5 * p1) + 4))) + s105_0)]) (rest := [.int (3 + (f_X8_place (mR (Int32.toNatClampNeg (5 * p1))) (mR (Int32.toNatClampNeg ((5 * p1) + 1))) (mR (Int32.toNatClampNeg ((5 * p1) + 2))))), .ref qz]) (st' := [.int (f_X8_isNumber ((mR (Int32.toNatClampNeg ((5 * p1) + 4))) + s105_0)), .int (3 + (f_X8_place (mR (Int32.toNatClampNeg (5 * p1))) (mR (Int32.toNatClampNeg ((5 * p1) + 1))) (mR (Int32.toNatClampNeg ((5 * p1) + 2))))), .ref qz]) (ws' := [(h8, .inr (8, [.int mT, .ref qz, .ref qv, .int mV, .ref qp, .ref qf, .int mY, .ref qo, .int mO, .int mS, .int mW, .long mH])), (qz, .inl (gI X.1, 1027, .inl mZ)), (qv, .inl (gI X.1, 6162, .inl mU)), (qp, .inl (gI X.1, 512, .inl mP)), (qf, .inl (gI X.1, 60, .inl mB)), (qo, .inl (gI X.1, 60, .inl mR))]) rfl rfl dX8_does_113 [] [0, 1, 2, 3, 4, 5] [0, 1, 2, 3, 4, 5] rfl rfl rfl rfl rfl rfl ?_
      have k129 : ∀ (s129_0 : Int32), f_X8_does_J129 p1 mZ mR s105_0 s129_0 = some y → Jt X [(h8, .inr (8, [.int mT, .ref qz, .ref qv, .int mV, .ref qp, .ref qf, .int mY, .ref qo, .int mO, .int mS, .int mW, .long mH])), (qz, .inl (gI X.1, 1027, .inl mZ)), (qv, .inl (gI X.1, 6162, .inl mU)), (qp, .inl (gI X.1, 512, .inl mP)), (qf, .inl (gI X.1, 60, .inl mB)), (qo, .inl (gI X.1, 60, .inl mR))] 0 0 129 [(0, .ref h8), (1, .int p1), (2, .int (3 + (f_X8_place (mR (Int32.toNatClampNeg (5 * p1))) (mR (Int32.toNatClampNeg ((5 * p1) + 1))) (mR (Int32.toNatClampNeg ((5 * p1) + 2)))))), (3, .int ((mR (Int32.toNatClampNeg ((5 * p1) + 4))) + s105_0))] [.int s129_0, .int (3 + (f_X8_place (mR (Int32.toNatClampNeg (5 * p1))) (mR (Int32.toNatClampNeg ((5 * p1) + 1))) (mR (Int32.toNatClampNeg ((5 * p1) + 2))))), .ref qz] := by
        intro s129_0 hf
        unfold f_X8_does_J129 at hf
        obtain ⟨z129, hf⟩ := dz_in_some hf
        refine j_iast (ws' := [(h8, .inr (8, [.int mT, .ref qz, .ref qv, .int mV, .ref qp, .ref qf, .int mY, .ref qo, .int mO, .int mS, .int mW, .long mH])), (qz, .inl (gI X.1, 1027, .inl (upd mZ (Int32.toNatClampNeg (3 + (f_X8_place (mR (Int32.toNatClampNeg (5 * p1))) (mR (Int32.toNatClampNeg ((5 * p1) + 1))) (mR (Int32.toNatClampNeg ((5 * p1) + 2)))))) s129_0))), (qv, .inl (gI X.1, 6162, .inl mU)), (qp, .inl (gI X.1, 512, .inl mP)), (qf, .inl (gI X.1, 60, .inl mB)), (qo, .inl (gI X.1, 60, .inl mR))]) C 1 rfl z129 rfl dX8_does_129 ?_
        refine j_iload_n C dX8_does_130 rfl 3 rfl ?_
        refine j_cS C (c_X8_isNumber X.1 hl ((mR (Int32.toNatClampNeg ((5 * p1) + 4))) + s105_0)) k_X8_isNumber gX8_does_X8_isNumber (As := [.int ((mR (Int32.toNatClampNeg ((5 * p1) + 4))) + s105_0)]) (rest := []) (st' := [.int (f_X8_isNumber ((mR (Int32.toNatClampNeg ((5 * p1) + 4))) + s105_0))]) (ws' := [(h8, .inr (8, [.int mT, .ref qz, .ref qv, .int mV, .ref qp, .ref qf, .int mY, .ref qo, .int mO, .int mS, .int mW, .long mH])), (qz, .inl (gI X.1, 1027, .inl (upd mZ (Int32.toNatClampNeg (3 + (f_X8_place (mR (Int32.toNatClampNeg (5 * p1))) (mR (Int32.toNatClampNeg ((5 * p1) + 1))) (mR (Int32.toNatClampNeg ((5 * p1) + 2)))))) s129_0))), (qv, .inl (gI X.1, 6162, .inl mU)), (qp, .inl (gI X.1, 512, .inl mP)), (qf, .inl (gI X.1, 60, .inl mB)), (qo, .inl (gI X.1, 60, .inl mR))]) rfl rfl dX8_does_131 [] [0, 1, 2, 3, 4, 5] [0, 1, 2, 3, 4, 5] rfl rfl rfl rfl rfl rfl ?_
        obtain rfl := Option.some.inj hf
        exact j_zret C hQ rfl (z_X8_isNumber ((mR (Int32.toNatClampNeg ((5 * p1) + 4))) + s105_0)) dX8_does_134 (Nat.zero_le _) (Nat.zero_le _) ⟨rfl, rfl⟩
      refine j_if_eq C (tgt := 123) dX8_does_116 (by decide) (fun e116 => ?_) (fun e116 => ?_)
      · have hf := (if_pos e116).symm.trans hf
        refine j_aload_n C dX8_does_123 rfl 1 rfl ?_
        refine j_get8 C 0 rfl 1 (by decide) in_X8_does_8 lk_X8_does_7 rfl dX8_does_124 ?_
        refine j_iload_n C dX8_does_127 rfl 3 rfl ?_
        obtain ⟨z128, hf⟩ := dz_in_some hf
        refine j_iald C 1 rfl z128 dX8_does_128 ?_
        refine j_loc [1, 2, 3, 0] rfl ?_
        exact k129 (mZ (Int32.toNatClampNeg (3 + (f_X8_place (mR (Int32.toNatClampNeg (5 * p1))) (mR (Int32.toNatClampNeg ((5 * p1) + 1))) (mR (Int32.toNatClampNeg ((5 * p1) + 2))))))) hf
      · have hf := (if_neg e116).symm.trans hf
        refine j_iload_n C dX8_does_119 rfl 0 rfl ?_
        refine j_goto C (tgt := 129) dX8_does_120 (by decide) ?_
        refine j_loc [1, 2, 3, 0] rfl ?_
        exact k129 ((mR (Int32.toNatClampNeg ((5 * p1) + 4))) + s105_0) hf
    refine j_icmp_ne C (tgt := 104) dX8_does_92 (by decide) (fun e92 => ?_) (fun e92 => ?_)
    · have hf := (if_neg e92).symm.trans hf
      refine j_iconst C (v := 0) dX8_does_104 (by decide) ?_
      refine j_loc [1, 2, 0] rfl ?_
      exact k105 0 hf
    · have hf := (if_pos e92).symm.trans hf
      refine j_aload_n C dX8_does_95 rfl 1 rfl ?_
      refine j_get8 C 0 rfl 1 (by decide) in_X8_does_8 lk_X8_does_7 rfl dX8_does_96 ?_
      refine j_iload_n C dX8_does_99 rfl 0 rfl ?_
      obtain ⟨z100, hf⟩ := dz_in_some hf
      refine j_iald C 1 rfl z100 dX8_does_100 ?_
      refine j_goto C (tgt := 105) dX8_does_101 (by decide) ?_
      refine j_loc [1, 2, 0] rfl ?_
      exact k105 (mZ (Int32.toNatClampNeg (3 + (f_X8_place (mR (Int32.toNatClampNeg (5 * p1))) (mR (Int32.toNatClampNeg ((5 * p1) + 1))) (mR (Int32.toNatClampNeg ((5 * p1) + 2))))))) hf
  · have hf := (if_pos e32).symm.trans hf
    refine j_iconst C (v := 0) dX8_does_35 (by decide) ?_
    obtain rfl := Option.some.inj hf
    exact j_zret C hQ rfl rfl dX8_does_36 (Nat.zero_le _) (Nat.zero_le _) ⟨rfl, rfl⟩

theorem lk_X8_read_25 : Cond.fieldLink RX8 25 (TX8 0).1 (TX8 0).2.1 (TX8 0).2.2.1 ∈ wsX8_read := by decide +kernel
theorem in_X8_read_8 : ∀ w ∈ wsX80, w ∈ wsX8_read := by decide +kernel
theorem lk_X8_read_119 : Cond.fieldLink RX8 119 (TX8 8).1 (TX8 8).2.1 (TX8 8).2.2.1 ∈ wsX8_read := by decide +kernel
theorem lk_X8_read_103 : Cond.fieldLink RX8 103 (TX8 6).1 (TX8 6).2.1 (TX8 6).2.2.1 ∈ wsX8_read := by decide +kernel
def f_X8_read_J54 (mZ_54 : (Nat → Int32)) (r2 : Int32 × (Nat → Int32) × Int32 × Int32 × Int32) (r27 : (Nat → Int32) × Int32) (s14_0 : Int32) (x32_1 : Int32) : Option ((Int32 × (Nat → Int32)) ⊕ (Int32 × Int32 × (Nat → Int32) × (Nat → Int32) × Int32 × Int32 × (Nat → Int32) × Int32 × Int32 × Int32)) :=
  some (.inr ((x32_1, s14_0, mZ_54, r27.1, r27.2, 0, r2.2.1, r2.2.2.1, r2.2.2.2.1, r2.2.2.2.2)))
def f_X8_read_L32 (r2 : Int32 × (Nat → Int32) × Int32 × Int32 × Int32) (r27 : (Nat → Int32) × Int32) (s14_0 : Int32) (x32_1 : Int32) (mZ_32 : (Nat → Int32)) : Option ((Int32 × (Nat → Int32)) ⊕ (Int32 × Int32 × (Nat → Int32) × (Nat → Int32) × Int32 × Int32 × (Nat → Int32) × Int32 × Int32 × Int32)) :=
  if r2.2.2.1 ≤ x32_1 then (f_X8_read_J54 mZ_32 r2 r27 s14_0 x32_1) else Option.bind (f_X8_does x32_1 mZ_32 r2.2.1) (fun r42 => if r42.1 = 0 then (f_X8_read_J54 r42.2 r2 r27 s14_0 x32_1) else some (.inl ((x32_1 + 1), r42.2)))
def f_X8_read_J14 (mZ : (Nat → Int32)) (mU : (Nat → Int32)) (mV : Int32) (mY : Int32) (r2 : Int32 × (Nat → Int32) × Int32 × Int32 × Int32) (s14_0 : Int32) : Option (Int32 × Int32 × (Nat → Int32) × (Nat → Int32) × Int32 × Int32 × (Nat → Int32) × Int32 × Int32 × Int32) :=
  if s14_0 ≤ 0 then Option.bind (f_X8_save mZ mU mV) (fun r27 => dz_it (fun s : Int32 × (Nat → Int32) => f_X8_read_L32 r2 r27 s14_0 s.1 s.2) (0, mZ)) else some ((0, s14_0, mZ, mU, mV, mY, r2.2.1, r2.2.2.1, r2.2.2.2.1, r2.2.2.2.2))
def f_X8_read (mZ : (Nat → Int32)) (mU : (Nat → Int32)) (mV : Int32) (mB : (Nat → Int32)) (mY : Int32) (mR : (Nat → Int32)) : Option (Int32 × Int32 × (Nat → Int32) × (Nat → Int32) × Int32 × Int32 × (Nat → Int32) × Int32 × Int32 × Int32) :=
  Option.bind (f_X8_readBuffer mB mY mR) (fun r2 => if r2.1 = (-1) then (f_X8_read_J14 mZ mU mV mY r2 0) else (f_X8_read_J14 mZ mU mV mY r2 1))
abbrev rm_X8_read : Room := { frames := 5, cells := 0, slots := 0, locals := 104 }
theorem k_X8_read : Cf yX8_read wsX8_read rm_X8_read cX8_read 2 (some .int) 0 := ⟨⟨_, rfl⟩, by decide +kernel, by decide +kernel, by decide +kernel⟩
set_option maxRecDepth 100000 in
set_option maxHeartbeats 4000000 in
theorem b_X8_read (G : CG) (hl : (gL G).stackTraces = false) (h8 : Nat) (qz : Nat) (qv : Nat) (qp : Nat) (qf : Nat) (qo : Nat) (mT : Int32) (mZ : (Nat → Int32)) (mU : (Nat → Int32)) (mV : Int32) (mP : (Nat → Int32)) (mB : (Nat → Int32)) (mY : Int32) (mR : (Nat → Int32)) (mO : Int32) (mS : Int32) (mW : Int32) (mH : Int64) (y : Int32 × Int32 × (Nat → Int32) × (Nat → Int32) × Int32 × Int32 × (Nat → Int32) × Int32 × Int32 × Int32) (hf : f_X8_read mZ mU mV mB mY mR = some y) : Ct G yX8_read wsX8_read rm_X8_read [.ref h8] [(h8, .inr (8, [.int mT, .ref qz, .ref qv, .int mV, .ref qp, .ref qf, .int mY, .ref qo, .int mO, .int mS, .int mW, .long mH])), (qz, .inl (gI G, 1027, .inl mZ)), (qv, .inl (gI G, 6162, .inl mU)), (qp, .inl (gI G, 512, .inl mP)), (qf, .inl (gI G, 60, .inl mB)), (qo, .inl (gI G, 60, .inl mR))] (fin1 (some (.int y.1)) [(h8, .inr (8, [.int y.2.1, .ref qz, .ref qv, .int y.2.2.2.2.1, .ref qp, .ref qf, .int y.2.2.2.2.2.1, .ref qo, .int y.2.2.2.2.2.2.2.1, .int y.2.2.2.2.2.2.2.2.1, .int y.2.2.2.2.2.2.2.2.2, .long mH])), (qz, .inl (gI G, 1027, .inl y.2.2.1)), (qv, .inl (gI G, 6162, .inl y.2.2.2.1)), (qp, .inl (gI G, 512, .inl mP)), (qf, .inl (gI G, 60, .inl mB)), (qo, .inl (gI G, 60, .inl y.2.2.2.2.2.2.1))]) 0 0 := by
  refine Ct.of (cc := cX8_read) (N := 2) (ret := (some .int)) RX8 (by decide) rfl rfl hl (Nat.le_of_ble_eq_true rfl) (lv := [(0, .ref h8)]) rfl (fun X hXG C hex hnm hQ => ?_)
  subst hXG
  unfold f_X8_read at hf
  refine j_aload_n C dX8_read_0 rfl 0 rfl ?_
  refine j_aload_n C dX8_read_1 rfl 0 rfl ?_
  obtain ⟨r2, hc2, hf⟩ := Option.bind_eq_some_iff.mp hf
  refine j_cV C (b_X8_readBuffer X.1 hl h8 qz qv qp qf qo mT mZ mU mV mP mB mY mR mO mS mW mH r2 hc2) k_X8_readBuffer gX8_read_X8_readBuffer rfl (ci := 8) (q0 := 0) rfl rfl (As := []) (rest := [.ref h8]) (st' := [.int r2.1, .ref h8]) (ws' := [(h8, .inr (8, [.int mT, .ref qz, .ref qv, .int mV, .ref qp, .ref qf, .int mY, .ref qo, .int r2.2.2.1, .int r2.2.2.2.1, .int r2.2.2.2.2, .long mH])), (qz, .inl (gI X.1, 1027, .inl mZ)), (qv, .inl (gI X.1, 6162, .inl mU)), (qp, .inl (gI X.1, 512, .inl mP)), (qf, .inl (gI X.1, 60, .inl mB)), (qo, .inl (gI X.1, 60, .inl r2.2.1))]) rfl rfl dX8_read_2 [0, 1, 2, 3, 4, 5] [] [0, 1, 2, 3, 4, 5] rfl rfl rfl rfl rfl rfl ?_
  refine j_iconst C (v := (-1)) dX8_read_5 (by decide) ?_
  have k14 : ∀ (s14_0 : Int32), f_X8_read_J14 mZ mU mV mY r2 s14_0 = some y → Jt X [(h8, .inr (8, [.int mT, .ref qz, .ref qv, .int mV, .ref qp, .ref qf, .int mY, .ref qo, .int r2.2.2.1, .int r2.2.2.2.1, .int r2.2.2.2.2, .long mH])), (qz, .inl (gI X.1, 1027, .inl mZ)), (qv, .inl (gI X.1, 6162, .inl mU)), (qp, .inl (gI X.1, 512, .inl mP)), (qf, .inl (gI X.1, 60, .inl mB)), (qo, .inl (gI X.1, 60, .inl r2.2.1))] 0 0 14 [(0, .ref h8)] [.int s14_0, .ref h8] := by
    intro s14_0 hf
    unfold f_X8_read_J14 at hf
    refine j_put8 (ty := .int) (ws' := [(h8, .inr (8, [.int s14_0, .ref qz, .ref qv, .int mV, .ref qp, .ref qf, .int mY, .ref qo, .int r2.2.2.1, .int r2.2.2.2.1, .int r2.2.2.2.2, .long mH])), (qz, .inl (gI X.1, 1027, .inl mZ)), (qv, .inl (gI X.1, 6162, .inl mU)), (qp, .inl (gI X.1, 512, .inl mP)), (qf, .inl (gI X.1, 60, .inl mB)), (qo, .inl (gI X.1, 60, .inl r2.2.1))]) C 0 rfl 0 (by decide) in_X8_read_8 lk_X8_read_25 rfl (by decide +kernel) rfl rfl (Nat.le_of_ble_eq_true rfl) rfl dX8_read_14 ?_
    refine j_aload_n C dX8_read_17 rfl 0 rfl ?_
    refine j_get8 C 0 rfl 0 (by decide) in_X8_read_8 lk_X8_read_25 rfl dX8_read_18 ?_
    refine j_if_le C (tgt := 26) dX8_read_21 (by decide) (fun e21 => ?_) (fun e21 => ?_)
    · have hf := (if_pos e21).symm.trans hf
      refine j_aload_n C dX8_read_26 rfl 0 rfl ?_
      obtain ⟨r27, hc27, hf⟩ := Option.bind_eq_some_iff.mp hf
      refine j_cV C (b_X8_save X.1 hl h8 qz qv qp qf qo s14_0 mZ mU mV mP mB mY r2.2.1 r2.2.2.1 r2.2.2.2.1 r2.2.2.2.2 mH r27 hc27) k_X8_save gX8_read_X8_save rfl (ci := 8) (q0 := 0) rfl rfl (As := []) (rest := []) (st' := []) (ws' := [(h8, .inr (8, [.int s14_0, .ref qz, .ref qv, .int r27.2, .ref qp, .ref qf, .int mY, .ref qo, .int r2.2.2.1, .int r2.2.2.2.1, .int r2.2.2.2.2, .long mH])), (qz, .inl (gI X.1, 1027, .inl mZ)), (qv, .inl (gI X.1, 6162, .inl r27.1)), (qp, .inl (gI X.1, 512, .inl mP)), (qf, .inl (gI X.1, 60, .inl mB)), (qo, .inl (gI X.1, 60, .inl r2.2.1))]) rfl rfl dX8_read_27 [0, 1, 2, 3, 4, 5] [] [0, 1, 2, 3, 4, 5] rfl rfl rfl rfl rfl rfl ?_
      refine j_iconst C (v := 0) dX8_read_30 (by decide) ?_
      refine j_istore_n (lv' := [(1, .int 0), (0, .ref h8)]) C dX8_read_31 rfl (by decide) rfl ?_
      have kk32 : ∀ (n : Nat) (x32_1 : Int32) (mZ_32 : (Nat → Int32)), dz_iter n (fun s : Int32 × (Nat → Int32) => f_X8_read_L32 r2 r27 s14_0 s.1 s.2) (x32_1, mZ_32) = some y → Jt X [(h8, .inr (8, [.int s14_0, .ref qz, .ref qv, .int r27.2, .ref qp, .ref qf, .int mY, .ref qo, .int r2.2.2.1, .int r2.2.2.2.1, .int r2.2.2.2.2, .long mH])), (qz, .inl (gI X.1, 1027, .inl mZ_32)), (qv, .inl (gI X.1, 6162, .inl r27.1)), (qp, .inl (gI X.1, 512, .inl mP)), (qf, .inl (gI X.1, 60, .inl mB)), (qo, .inl (gI X.1, 60, .inl r2.2.1))] 0 0 32 [(0, .ref h8), (1, .int x32_1)] [] := by
        intro n
        induction n with
        | zero => intro x32_1 mZ_32 hit; exact absurd hit (by simp [dz_iter])
        | succ n ih32 =>
          intro x32_1 mZ_32 hit
          obtain ⟨y32, hf, hg32⟩ := dz_iter_succ hit
          replace hf : f_X8_read_L32 r2 r27 s14_0 x32_1 mZ_32 = some y32 := hf
          unfold f_X8_read_L32 at hf
          refine j_iload_n C dX8_read_32 rfl 1 rfl ?_
          refine j_aload_n C dX8_read_33 rfl 0 rfl ?_
          refine j_get8 C 0 rfl 8 (by decide) in_X8_read_8 lk_X8_read_119 rfl dX8_read_34 ?_
          have k54 : ∀ (mZ_54 : (Nat → Int32)), f_X8_read_J54 mZ_54 r2 r27 s14_0 x32_1 = some y32 → Jt X [(h8, .inr (8, [.int s14_0, .ref qz, .ref qv, .int r27.2, .ref qp, .ref qf, .int mY, .ref qo, .int r2.2.2.1, .int r2.2.2.2.1, .int r2.2.2.2.2, .long mH])), (qz, .inl (gI X.1, 1027, .inl mZ_54)), (qv, .inl (gI X.1, 6162, .inl r27.1)), (qp, .inl (gI X.1, 512, .inl mP)), (qf, .inl (gI X.1, 60, .inl mB)), (qo, .inl (gI X.1, 60, .inl r2.2.1))] 0 0 54 [(0, .ref h8), (1, .int x32_1)] [] := by
            intro mZ_54 hf
            unfold f_X8_read_J54 at hf
            refine j_aload_n C dX8_read_54 rfl 0 rfl ?_
            refine j_iconst C (v := 0) dX8_read_55 (by decide) ?_
            refine j_put8 (ty := .int) (ws' := [(h8, .inr (8, [.int s14_0, .ref qz, .ref qv, .int r27.2, .ref qp, .ref qf, .int 0, .ref qo, .int r2.2.2.1, .int r2.2.2.2.1, .int r2.2.2.2.2, .long mH])), (qz, .inl (gI X.1, 1027, .inl mZ_54)), (qv, .inl (gI X.1, 6162, .inl r27.1)), (qp, .inl (gI X.1, 512, .inl mP)), (qf, .inl (gI X.1, 60, .inl mB)), (qo, .inl (gI X.1, 60, .inl r2.2.1))]) C 0 rfl 6 (by decide) in_X8_read_8 lk_X8_read_103 rfl (by decide +kernel) rfl rfl (Nat.le_of_ble_eq_true rfl) rfl dX8_read_56 ?_
            refine j_iload_n C dX8_read_59 rfl 1 rfl ?_
            obtain rfl := Option.some.inj hf
            obtain rfl := dz_go_inr hg32
            exact j_iret C hQ rfl dX8_read_60 (Nat.zero_le _) (Nat.zero_le _) ⟨rfl, rfl⟩
          refine j_icmp_ge C (tgt := 54) dX8_read_37 (by decide) (fun e37 => ?_) (fun e37 => ?_)
          · have hf := (if_pos e37).symm.trans hf
            refine j_loc [0, 1] rfl ?_
            exact k54 mZ_32 hf
          · have hf := (if_neg e37).symm.trans hf
            refine j_aload_n C dX8_read_40 rfl 0 rfl ?_
            refine j_iload_n C dX8_read_41 rfl 1 rfl ?_
            obtain ⟨r42, hc42, hf⟩ := Option.bind_eq_some_iff.mp hf
            refine j_cV C (b_X8_does X.1 hl h8 qz qv qp qf qo s14_0 mZ_32 r27.1 r27.2 mP mB mY r2.2.1 r2.2.2.1 r2.2.2.2.1 r2.2.2.2.2 mH x32_1 r42 hc42) k_X8_does gX8_read_X8_does rfl (ci := 8) (q0 := 0) rfl rfl (As := [.int x32_1]) (rest := []) (st' := [.int r42.1]) (ws' := [(h8, .inr (8, [.int s14_0, .ref qz, .ref qv, .int r27.2, .ref qp, .ref qf, .int mY, .ref qo, .int r2.2.2.1, .int r2.2.2.2.1, .int r2.2.2.2.2, .long mH])), (qz, .inl (gI X.1, 1027, .inl r42.2)), (qv, .inl (gI X.1, 6162, .inl r27.1)), (qp, .inl (gI X.1, 512, .inl mP)), (qf, .inl (gI X.1, 60, .inl mB)), (qo, .inl (gI X.1, 60, .inl r2.2.1))]) rfl rfl dX8_read_42 [0, 1, 2, 3, 4, 5] [] [0, 1, 2, 3, 4, 5] rfl rfl rfl rfl rfl rfl ?_
            refine j_if_eq C (tgt := 54) dX8_read_45 (by decide) (fun e45 => ?_) (fun e45 => ?_)
            · have hf := (if_pos e45).symm.trans hf
              refine j_loc [0, 1] rfl ?_
              exact k54 r42.2 hf
            · have hf := (if_neg e45).symm.trans hf
              refine j_iinc (v := (x32_1 + 1)) (lv' := [(1, .int (x32_1 + 1)), (0, .ref h8)]) C dX8_read_48 1 rfl (by first | rfl | decide) (by decide) rfl ?_
              refine j_goto C (tgt := 32) dX8_read_51 (by decide) ?_
              obtain rfl := Option.some.inj hf
              have hf := dz_go_inl hg32
              refine j_loc [1, 0] rfl ?_
              exact ih32 (x32_1 + 1) r42.2 hf
      refine j_loc [1, 0] rfl ?_
      exact kk32 _ 0 mZ hf
    · have hf := (if_neg e21).symm.trans hf
      refine j_iconst C (v := 0) dX8_read_24 (by decide) ?_
      obtain rfl := Option.some.inj hf
      exact j_iret C hQ rfl dX8_read_25 (Nat.zero_le _) (Nat.zero_le _) ⟨rfl, rfl⟩
  refine j_icmp_ne C (tgt := 13) dX8_read_6 (by decide) (fun e6 => ?_) (fun e6 => ?_)
  · have hf := (if_neg e6).symm.trans hf
    refine j_iconst C (v := 1) dX8_read_13 (by decide) ?_
    refine j_loc [0] rfl ?_
    exact k14 1 hf
  · have hf := (if_pos e6).symm.trans hf
    refine j_iconst C (v := 0) dX8_read_9 (by decide) ?_
    refine j_goto C (tgt := 14) dX8_read_10 (by decide) ?_
    refine j_loc [0] rfl ?_
    exact k14 0 hf

theorem lk_X8_at_25 : Cond.fieldLink RX8 25 (TX8 0).1 (TX8 0).2.1 (TX8 0).2.2.1 ∈ wsX8_at := by decide +kernel
theorem in_X8_at_8 : ∀ w ∈ wsX80, w ∈ wsX8_at := by decide +kernel
theorem lk_X8_at_7 : Cond.fieldLink RX8 7 (TX8 1).1 (TX8 1).2.1 (TX8 1).2.2.1 ∈ wsX8_at := by decide +kernel
def f_X8_at_J16 (p1 : Int32) (p2 : Int32) (p3 : Int32) (mZ : (Nat → Int32)) (s16_0 : Int32) : Option (Int32 × Int32) :=
  if s16_0 ≤ 0 then dz_in (3 + (f_X8_place p1 p2 p3)) 1027 (some (((mZ (Int32.toNatClampNeg (3 + (f_X8_place p1 p2 p3)))), s16_0))) else some ((0, s16_0))
def f_X8_at (p1 : Int32) (p2 : Int32) (p3 : Int32) (mZ : (Nat → Int32)) : Option (Int32 × Int32) :=
  if (f_X8_isPoint p1 p2 p3 mZ) = 0 then (f_X8_at_J16 p1 p2 p3 mZ 1) else (f_X8_at_J16 p1 p2 p3 mZ 0)
abbrev rm_X8_at : Room := { frames := 3, cells := 0, slots := 0, locals := 60 }
theorem k_X8_at : Cf yX8_at wsX8_at rm_X8_at cX8_at 4 (some .int) 3 := ⟨⟨_, rfl⟩, by decide +kernel, by decide +kernel, by decide +kernel⟩
set_option maxRecDepth 100000 in
set_option maxHeartbeats 4000000 in
theorem b_X8_at (G : CG) (hl : (gL G).stackTraces = false) (h8 : Nat) (qz : Nat) (qv : Nat) (qp : Nat) (qf : Nat) (qo : Nat) (mT : Int32) (mZ : (Nat → Int32)) (mU : (Nat → Int32)) (mV : Int32) (mP : (Nat → Int32)) (mB : (Nat → Int32)) (mY : Int32) (mR : (Nat → Int32)) (mO : Int32) (mS : Int32) (mW : Int32) (mH : Int64) (p1 : Int32) (p2 : Int32) (p3 : Int32) (y : Int32 × Int32) (hf : f_X8_at p1 p2 p3 mZ = some y) : Ct G yX8_at wsX8_at rm_X8_at [.ref h8, .int p1, .int p2, .int p3] [(h8, .inr (8, [.int mT, .ref qz, .ref qv, .int mV, .ref qp, .ref qf, .int mY, .ref qo, .int mO, .int mS, .int mW, .long mH])), (qz, .inl (gI G, 1027, .inl mZ)), (qv, .inl (gI G, 6162, .inl mU)), (qp, .inl (gI G, 512, .inl mP)), (qf, .inl (gI G, 60, .inl mB)), (qo, .inl (gI G, 60, .inl mR))] (fin1 (some (.int y.1)) [(h8, .inr (8, [.int y.2, .ref qz, .ref qv, .int mV, .ref qp, .ref qf, .int mY, .ref qo, .int mO, .int mS, .int mW, .long mH])), (qz, .inl (gI G, 1027, .inl mZ)), (qv, .inl (gI G, 6162, .inl mU)), (qp, .inl (gI G, 512, .inl mP)), (qf, .inl (gI G, 60, .inl mB)), (qo, .inl (gI G, 60, .inl mR))]) 0 0 := by
  refine Ct.of (cc := cX8_at) (N := 4) (ret := (some .int)) RX8 (by decide) rfl rfl hl (Nat.le_of_ble_eq_true rfl) (lv := [(0, .ref h8), (1, .int p1), (2, .int p2), (3, .int p3)]) rfl (fun X hXG C hex hnm hQ => ?_)
  subst hXG
  unfold f_X8_at at hf
  refine j_aload_n C dX8_at_0 rfl 0 rfl ?_
  refine j_aload_n C dX8_at_1 rfl 0 rfl ?_
  refine j_iload_n C dX8_at_2 rfl 1 rfl ?_
  refine j_iload_n C dX8_at_3 rfl 2 rfl ?_
  refine j_iload_n C dX8_at_4 rfl 3 rfl ?_
  refine j_cV C (c_X8_isPoint X.1 hl h8 qz qv qp qf qo mT mZ mU mV mP mB mY mR mO mS mW mH p1 p2 p3) k_X8_isPoint gX8_at_X8_isPoint rfl (ci := 8) (q0 := 0) rfl rfl (As := [.int p1, .int p2, .int p3]) (rest := [.ref h8]) (st' := [.int (f_X8_isPoint p1 p2 p3 mZ), .ref h8]) (ws' := [(h8, .inr (8, [.int mT, .ref qz, .ref qv, .int mV, .ref qp, .ref qf, .int mY, .ref qo, .int mO, .int mS, .int mW, .long mH])), (qz, .inl (gI X.1, 1027, .inl mZ)), (qv, .inl (gI X.1, 6162, .inl mU)), (qp, .inl (gI X.1, 512, .inl mP)), (qf, .inl (gI X.1, 60, .inl mB)), (qo, .inl (gI X.1, 60, .inl mR))]) rfl rfl dX8_at_5 [0, 1, 2, 3, 4, 5] [] [0, 1, 2, 3, 4, 5] rfl rfl rfl rfl rfl rfl ?_
  have k16 : ∀ (s16_0 : Int32), f_X8_at_J16 p1 p2 p3 mZ s16_0 = some y → Jt X [(h8, .inr (8, [.int mT, .ref qz, .ref qv, .int mV, .ref qp, .ref qf, .int mY, .ref qo, .int mO, .int mS, .int mW, .long mH])), (qz, .inl (gI X.1, 1027, .inl mZ)), (qv, .inl (gI X.1, 6162, .inl mU)), (qp, .inl (gI X.1, 512, .inl mP)), (qf, .inl (gI X.1, 60, .inl mB)), (qo, .inl (gI X.1, 60, .inl mR))] 0 0 16 [(0, .ref h8), (1, .int p1), (2, .int p2), (3, .int p3)] [.int s16_0, .ref h8] := by
    intro s16_0 hf
    unfold f_X8_at_J16 at hf
    refine j_put8 (ty := .int) (ws' := [(h8, .inr (8, [.int s16_0, .ref qz, .ref qv, .int mV, .ref qp, .ref qf, .int mY, .ref qo, .int mO, .int mS, .int mW, .long mH])), (qz, .inl (gI X.1, 1027, .inl mZ)), (qv, .inl (gI X.1, 6162, .inl mU)), (qp, .inl (gI X.1, 512, .inl mP)), (qf, .inl (gI X.1, 60, .inl mB)), (qo, .inl (gI X.1, 60, .inl mR))]) C 0 rfl 0 (by decide) in_X8_at_8 lk_X8_at_25 rfl (by decide +kernel) rfl rfl (Nat.le_of_ble_eq_true rfl) rfl dX8_at_16 ?_
    refine j_aload_n C dX8_at_19 rfl 0 rfl ?_
    refine j_get8 C 0 rfl 0 (by decide) in_X8_at_8 lk_X8_at_25 rfl dX8_at_20 ?_
    refine j_if_le C (tgt := 30) dX8_at_23 (by decide) (fun e23 => ?_) (fun e23 => ?_)
    · have hf := (if_pos e23).symm.trans hf
      refine j_aload_n C dX8_at_30 rfl 0 rfl ?_
      refine j_get8 C 0 rfl 1 (by decide) in_X8_at_8 lk_X8_at_7 rfl dX8_at_31 ?_
      refine j_iconst C (v := 3) dX8_at_34 (by decide) ?_
      refine j_iload_n C dX8_at_35 rfl 1 rfl ?_
      refine j_iload_n C dX8_at_36 rfl 2 rfl ?_
      refine j_iload_n C dX8_at_37 rfl 3 rfl ?_
      refine j_cS C (c_X8_place X.1 hl p1 p2 p3) k_X8_place gX8_at_X8_place (As := [.int p1, .int p2, .int p3]) (rest := [.int 3, .ref qz]) (st' := [.int (f_X8_place p1 p2 p3), .int 3, .ref qz]) (ws' := [(h8, .inr (8, [.int s16_0, .ref qz, .ref qv, .int mV, .ref qp, .ref qf, .int mY, .ref qo, .int mO, .int mS, .int mW, .long mH])), (qz, .inl (gI X.1, 1027, .inl mZ)), (qv, .inl (gI X.1, 6162, .inl mU)), (qp, .inl (gI X.1, 512, .inl mP)), (qf, .inl (gI X.1, 60, .inl mB)), (qo, .inl (gI X.1, 60, .inl mR))]) rfl rfl dX8_at_38 [] [0, 1, 2, 3, 4, 5] [0, 1, 2, 3, 4, 5] rfl rfl rfl rfl rfl rfl ?_
      refine j_iadd C dX8_at_41 ?_
      obtain ⟨z42, hf⟩ := dz_in_some hf
      refine j_iald C 1 rfl z42 dX8_at_42 ?_
      obtain rfl := Option.some.inj hf
      exact j_iret C hQ rfl dX8_at_43 (Nat.zero_le _) (Nat.zero_le _) ⟨rfl, rfl⟩
    · have hf := (if_neg e23).symm.trans hf
      refine j_iconst C (v := 0) dX8_at_26 (by decide) ?_
      refine j_goto C (tgt := 43) dX8_at_27 (by decide) ?_
      obtain rfl := Option.some.inj hf
      exact j_iret C hQ rfl dX8_at_43 (Nat.zero_le _) (Nat.zero_le _) ⟨rfl, rfl⟩
  refine j_if_eq C (tgt := 15) dX8_at_8 (by decide) (fun e8 => ?_) (fun e8 => ?_)
  · have hf := (if_pos e8).symm.trans hf
    refine j_iconst C (v := 1) dX8_at_15 (by decide) ?_
    refine j_loc [0, 1, 2, 3] rfl ?_
    exact k16 1 hf
  · have hf := (if_neg e8).symm.trans hf
    refine j_iconst C (v := 0) dX8_at_11 (by decide) ?_
    refine j_goto C (tgt := 16) dX8_at_12 (by decide) ?_
    refine j_loc [0, 1, 2, 3] rfl ?_
    exact k16 0 hf

theorem lk_X8_lineSum_7 : Cond.fieldLink RX8 7 (TX8 1).1 (TX8 1).2.1 (TX8 1).2.2.1 ∈ wsX8_lineSum := by decide +kernel
theorem in_X8_lineSum_8 : ∀ w ∈ wsX80, w ∈ wsX8_lineSum := by decide +kernel
def f_X8_lineSum_L6 (p1 : Int32) (p2 : Int32) (p3 : Int32) (mZ : (Nat → Int32)) (x6_4 : Int32) (x6_5 : Int32) : Option ((Int32 × Int32) ⊕ (Int32)) :=
  if (mZ 0) ≤ x6_5 then some (.inr (x6_4)) else Option.bind (f_X8_numberBy p1 x6_5 p2 p3 mZ) (fun r25 => some (.inl ((x6_4 + r25), (x6_5 + 1))))
def f_X8_lineSum (p1 : Int32) (p2 : Int32) (p3 : Int32) (mZ : (Nat → Int32)) : Option (Int32) :=
  dz_it (fun s : Int32 × Int32 => f_X8_lineSum_L6 p1 p2 p3 mZ s.1 s.2) (0, 0)
abbrev rm_X8_lineSum : Room := { frames := 4, cells := 0, slots := 0, locals := 85 }
theorem k_X8_lineSum : Cf yX8_lineSum wsX8_lineSum rm_X8_lineSum cX8_lineSum 6 (some .int) 3 := ⟨⟨_, rfl⟩, by decide +kernel, by decide +kernel, by decide +kernel⟩
set_option maxRecDepth 100000 in
set_option maxHeartbeats 4000000 in
theorem b_X8_lineSum (G : CG) (hl : (gL G).stackTraces = false) (h8 : Nat) (qz : Nat) (qv : Nat) (qp : Nat) (qf : Nat) (qo : Nat) (mT : Int32) (mZ : (Nat → Int32)) (mU : (Nat → Int32)) (mV : Int32) (mP : (Nat → Int32)) (mB : (Nat → Int32)) (mY : Int32) (mR : (Nat → Int32)) (mO : Int32) (mS : Int32) (mW : Int32) (mH : Int64) (p1 : Int32) (p2 : Int32) (p3 : Int32) (y : Int32) (hf : f_X8_lineSum p1 p2 p3 mZ = some y) : Ct G yX8_lineSum wsX8_lineSum rm_X8_lineSum [.ref h8, .int p1, .int p2, .int p3] [(h8, .inr (8, [.int mT, .ref qz, .ref qv, .int mV, .ref qp, .ref qf, .int mY, .ref qo, .int mO, .int mS, .int mW, .long mH])), (qz, .inl (gI G, 1027, .inl mZ)), (qv, .inl (gI G, 6162, .inl mU)), (qp, .inl (gI G, 512, .inl mP)), (qf, .inl (gI G, 60, .inl mB)), (qo, .inl (gI G, 60, .inl mR))] (fin1 (some (.int y)) [(h8, .inr (8, [.int mT, .ref qz, .ref qv, .int mV, .ref qp, .ref qf, .int mY, .ref qo, .int mO, .int mS, .int mW, .long mH])), (qz, .inl (gI G, 1027, .inl mZ)), (qv, .inl (gI G, 6162, .inl mU)), (qp, .inl (gI G, 512, .inl mP)), (qf, .inl (gI G, 60, .inl mB)), (qo, .inl (gI G, 60, .inl mR))]) 0 0 := by
  refine Ct.of (cc := cX8_lineSum) (N := 6) (ret := (some .int)) RX8 (by decide) rfl rfl hl (Nat.le_of_ble_eq_true rfl) (lv := [(0, .ref h8), (1, .int p1), (2, .int p2), (3, .int p3)]) rfl (fun X hXG C hex hnm hQ => ?_)
  subst hXG
  unfold f_X8_lineSum at hf
  refine j_iconst C (v := 0) dX8_lineSum_0 (by decide) ?_
  refine j_istore (lv' := [(4, .int 0), (0, .ref h8), (1, .int p1), (2, .int p2), (3, .int p3)]) C dX8_lineSum_1 (by decide) rfl ?_
  refine j_iconst C (v := 0) dX8_lineSum_3 (by decide) ?_
  refine j_istore (lv' := [(5, .int 0), (4, .int 0), (0, .ref h8), (1, .int p1), (2, .int p2), (3, .int p3)]) C dX8_lineSum_4 (by decide) rfl ?_
  have kk6 : ∀ (n : Nat) (x6_4 : Int32) (x6_5 : Int32), dz_iter n (fun s : Int32 × Int32 => f_X8_lineSum_L6 p1 p2 p3 mZ s.1 s.2) (x6_4, x6_5) = some y → Jt X [(h8, .inr (8, [.int mT, .ref qz, .ref qv, .int mV, .ref qp, .ref qf, .int mY, .ref qo, .int mO, .int mS, .int mW, .long mH])), (qz, .inl (gI X.1, 1027, .inl mZ)), (qv, .inl (gI X.1, 6162, .inl mU)), (qp, .inl (gI X.1, 512, .inl mP)), (qf, .inl (gI X.1, 60, .inl mB)), (qo, .inl (gI X.1, 60, .inl mR))] 0 0 6 [(0, .ref h8), (1, .int p1), (2, .int p2), (3, .int p3), (4, .int x6_4), (5, .int x6_5)] [] := by
    intro n
    induction n with
    | zero => intro x6_4 x6_5 hit; exact absurd hit (by simp [dz_iter])
    | succ n ih6 =>
      intro x6_4 x6_5 hit
      obtain ⟨y6, hf, hg6⟩ := dz_iter_succ hit
      replace hf : f_X8_lineSum_L6 p1 p2 p3 mZ x6_4 x6_5 = some y6 := hf
      unfold f_X8_lineSum_L6 at hf
      refine j_iload C dX8_lineSum_6 5 rfl ?_
      refine j_aload_n C dX8_lineSum_8 rfl 0 rfl ?_
      refine j_get8 C 0 rfl 1 (by decide) in_X8_lineSum_8 lk_X8_lineSum_7 rfl dX8_lineSum_9 ?_
      refine j_iconst C (v := 0) dX8_lineSum_12 (by decide) ?_
      refine j_iald C 1 rfl (by unfold vp_in; decide) dX8_lineSum_13 ?_
      refine j_icmp_ge C (tgt := 37) dX8_lineSum_14 (by decide) (fun e14 => ?_) (fun e14 => ?_)
      · have hf := (if_pos e14).symm.trans hf
        refine j_iload C dX8_lineSum_37 4 rfl ?_
        obtain rfl := Option.some.inj hf
        obtain rfl := dz_go_inr hg6
        exact j_iret C hQ rfl dX8_lineSum_39 (Nat.zero_le _) (Nat.zero_le _) ⟨rfl, rfl⟩
      · have hf := (if_neg e14).symm.trans hf
        refine j_iload C dX8_lineSum_17 4 rfl ?_
        refine j_aload_n C dX8_lineSum_19 rfl 0 rfl ?_
        refine j_iload_n C dX8_lineSum_20 rfl 1 rfl ?_
        refine j_iload C dX8_lineSum_21 5 rfl ?_
        refine j_iload_n C dX8_lineSum_23 rfl 2 rfl ?_
        refine j_iload_n C dX8_lineSum_24 rfl 3 rfl ?_
        obtain ⟨r25, hc25, hf⟩ := Option.bind_eq_some_iff.mp hf
        refine j_cV C (b_X8_numberBy X.1 hl h8 qz qv qp qf qo mT mZ mU mV mP mB mY mR mO mS mW mH p1 x6_5 p2 p3 r25 hc25) k_X8_numberBy gX8_lineSum_X8_numberBy rfl (ci := 8) (q0 := 0) rfl rfl (As := [.int p1, .int x6_5, .int p2, .int p3]) (rest := [.int x6_4]) (st' := [.int r25, .int x6_4]) (ws' := [(h8, .inr (8, [.int mT, .ref qz, .ref qv, .int mV, .ref qp, .ref qf, .int mY, .ref qo, .int mO, .int mS, .int mW, .long mH])), (qz, .inl (gI X.1, 1027, .inl mZ)), (qv, .inl (gI X.1, 6162, .inl mU)), (qp, .inl (gI X.1, 512, .inl mP)), (qf, .inl (gI X.1, 60, .inl mB)), (qo, .inl (gI X.1, 60, .inl mR))]) rfl rfl dX8_lineSum_25 [0, 1, 2, 3, 4, 5] [] [0, 1, 2, 3, 4, 5] rfl rfl rfl rfl rfl rfl ?_
        refine j_iadd C dX8_lineSum_28 ?_
        refine j_istore (lv' := [(4, .int (x6_4 + r25)), (0, .ref h8), (1, .int p1), (2, .int p2), (3, .int p3), (5, .int x6_5)]) C dX8_lineSum_29 (by decide) rfl ?_
        refine j_iinc (v := (x6_5 + 1)) (lv' := [(5, .int (x6_5 + 1)), (4, .int (x6_4 + r25)), (0, .ref h8), (1, .int p1), (2, .int p2), (3, .int p3)]) C dX8_lineSum_31 5 rfl (by first | rfl | decide) (by decide) rfl ?_
        refine j_goto C (tgt := 6) dX8_lineSum_34 (by decide) ?_
        obtain rfl := Option.some.inj hf
        have hf := dz_go_inl hg6
        refine j_loc [2, 3, 4, 5, 1, 0] rfl ?_
        exact ih6 (x6_4 + r25) (x6_5 + 1) hf
  refine j_loc [2, 3, 4, 5, 1, 0] rfl ?_
  exact kk6 _ 0 0 hf

theorem lk_X8_line_25 : Cond.fieldLink RX8 25 (TX8 0).1 (TX8 0).2.1 (TX8 0).2.2.1 ∈ wsX8_line := by decide +kernel
theorem in_X8_line_8 : ∀ w ∈ wsX80, w ∈ wsX8_line := by decide +kernel
def f_X8_line_J33 (p1 : Int32) (p2 : Int32) (p3 : Int32) (mZ : (Nat → Int32)) (s33_0 : Int32) : Option (Int32 × Int32) :=
  if s33_0 ≤ 0 then Option.bind (f_X8_lineSum p1 p2 p3 mZ) (fun r51 => some ((r51, s33_0))) else some ((0, s33_0))
def f_X8_line_J17 (p1 : Int32) (p2 : Int32) (p3 : Int32) (mZ : (Nat → Int32)) : Option (Int32 × Int32) :=
  (f_X8_line_J33 p1 p2 p3 mZ 1)
def f_X8_line (p1 : Int32) (p2 : Int32) (p3 : Int32) (mZ : (Nat → Int32)) : Option (Int32 × Int32) :=
  if (f_X8_isCoordinate p2 mZ) = 0 then (f_X8_line_J17 p1 p2 p3 mZ) else if (f_X8_isCoordinate p3 mZ) = 0 then (f_X8_line_J17 p1 p2 p3 mZ) else if (f_X8_isAxis p1) = 0 then (f_X8_line_J33 p1 p2 p3 mZ 2) else (f_X8_line_J33 p1 p2 p3 mZ 0)
abbrev rm_X8_line : Room := { frames := 5, cells := 0, slots := 0, locals := 110 }
theorem k_X8_line : Cf yX8_line wsX8_line rm_X8_line cX8_line 4 (some .int) 3 := ⟨⟨_, rfl⟩, by decide +kernel, by decide +kernel, by decide +kernel⟩
set_option maxRecDepth 100000 in
set_option maxHeartbeats 4000000 in
theorem b_X8_line (G : CG) (hl : (gL G).stackTraces = false) (h8 : Nat) (qz : Nat) (qv : Nat) (qp : Nat) (qf : Nat) (qo : Nat) (mT : Int32) (mZ : (Nat → Int32)) (mU : (Nat → Int32)) (mV : Int32) (mP : (Nat → Int32)) (mB : (Nat → Int32)) (mY : Int32) (mR : (Nat → Int32)) (mO : Int32) (mS : Int32) (mW : Int32) (mH : Int64) (p1 : Int32) (p2 : Int32) (p3 : Int32) (y : Int32 × Int32) (hf : f_X8_line p1 p2 p3 mZ = some y) : Ct G yX8_line wsX8_line rm_X8_line [.ref h8, .int p1, .int p2, .int p3] [(h8, .inr (8, [.int mT, .ref qz, .ref qv, .int mV, .ref qp, .ref qf, .int mY, .ref qo, .int mO, .int mS, .int mW, .long mH])), (qz, .inl (gI G, 1027, .inl mZ)), (qv, .inl (gI G, 6162, .inl mU)), (qp, .inl (gI G, 512, .inl mP)), (qf, .inl (gI G, 60, .inl mB)), (qo, .inl (gI G, 60, .inl mR))] (fin1 (some (.int y.1)) [(h8, .inr (8, [.int y.2, .ref qz, .ref qv, .int mV, .ref qp, .ref qf, .int mY, .ref qo, .int mO, .int mS, .int mW, .long mH])), (qz, .inl (gI G, 1027, .inl mZ)), (qv, .inl (gI G, 6162, .inl mU)), (qp, .inl (gI G, 512, .inl mP)), (qf, .inl (gI G, 60, .inl mB)), (qo, .inl (gI G, 60, .inl mR))]) 0 0 := by
  refine Ct.of (cc := cX8_line) (N := 4) (ret := (some .int)) RX8 (by decide) rfl rfl hl (Nat.le_of_ble_eq_true rfl) (lv := [(0, .ref h8), (1, .int p1), (2, .int p2), (3, .int p3)]) rfl (fun X hXG C hex hnm hQ => ?_)
  subst hXG
  unfold f_X8_line at hf
  refine j_aload_n C dX8_line_0 rfl 0 rfl ?_
  refine j_aload_n C dX8_line_1 rfl 0 rfl ?_
  refine j_iload_n C dX8_line_2 rfl 2 rfl ?_
  refine j_cV C (c_X8_isCoordinate X.1 hl h8 qz qv qp qf qo mT mZ mU mV mP mB mY mR mO mS mW mH p2) k_X8_isCoordinate gX8_line_X8_isCoordinate rfl (ci := 8) (q0 := 0) rfl rfl (As := [.int p2]) (rest := [.ref h8]) (st' := [.int (f_X8_isCoordinate p2 mZ), .ref h8]) (ws' := [(h8, .inr (8, [.int mT, .ref qz, .ref qv, .int mV, .ref qp, .ref qf, .int mY, .ref qo, .int mO, .int mS, .int mW, .long mH])), (qz, .inl (gI X.1, 1027, .inl mZ)), (qv, .inl (gI X.1, 6162, .inl mU)), (qp, .inl (gI X.1, 512, .inl mP)), (qf, .inl (gI X.1, 60, .inl mB)), (qo, .inl (gI X.1, 60, .inl mR))]) rfl rfl dX8_line_3 [0, 1, 2, 3, 4, 5] [] [0, 1, 2, 3, 4, 5] rfl rfl rfl rfl rfl rfl ?_
  have k33 : ∀ (s33_0 : Int32), f_X8_line_J33 p1 p2 p3 mZ s33_0 = some y → Jt X [(h8, .inr (8, [.int mT, .ref qz, .ref qv, .int mV, .ref qp, .ref qf, .int mY, .ref qo, .int mO, .int mS, .int mW, .long mH])), (qz, .inl (gI X.1, 1027, .inl mZ)), (qv, .inl (gI X.1, 6162, .inl mU)), (qp, .inl (gI X.1, 512, .inl mP)), (qf, .inl (gI X.1, 60, .inl mB)), (qo, .inl (gI X.1, 60, .inl mR))] 0 0 33 [(0, .ref h8), (1, .int p1), (2, .int p2), (3, .int p3)] [.int s33_0, .ref h8] := by
    intro s33_0 hf
    unfold f_X8_line_J33 at hf
    refine j_put8 (ty := .int) (ws' := [(h8, .inr (8, [.int s33_0, .ref qz, .ref qv, .int mV, .ref qp, .ref qf, .int mY, .ref qo, .int mO, .int mS, .int mW, .long mH])), (qz, .inl (gI X.1, 1027, .inl mZ)), (qv, .inl (gI X.1, 6162, .inl mU)), (qp, .inl (gI X.1, 512, .inl mP)), (qf, .inl (gI X.1, 60, .inl mB)), (qo, .inl (gI X.1, 60, .inl mR))]) C 0 rfl 0 (by decide) in_X8_line_8 lk_X8_line_25 rfl (by decide +kernel) rfl rfl (Nat.le_of_ble_eq_true rfl) rfl dX8_line_33 ?_
    refine j_aload_n C dX8_line_36 rfl 0 rfl ?_
    refine j_get8 C 0 rfl 0 (by decide) in_X8_line_8 lk_X8_line_25 rfl dX8_line_37 ?_
    refine j_if_le C (tgt := 47) dX8_line_40 (by decide) (fun e40 => ?_) (fun e40 => ?_)
    · have hf := (if_pos e40).symm.trans hf
      refine j_aload_n C dX8_line_47 rfl 0 rfl ?_
      refine j_iload_n C dX8_line_48 rfl 1 rfl ?_
      refine j_iload_n C dX8_line_49 rfl 2 rfl ?_
      refine j_iload_n C dX8_line_50 rfl 3 rfl ?_
      obtain ⟨r51, hc51, hf⟩ := Option.bind_eq_some_iff.mp hf
      refine j_cV C (b_X8_lineSum X.1 hl h8 qz qv qp qf qo s33_0 mZ mU mV mP mB mY mR mO mS mW mH p1 p2 p3 r51 hc51) k_X8_lineSum gX8_line_X8_lineSum rfl (ci := 8) (q0 := 0) rfl rfl (As := [.int p1, .int p2, .int p3]) (rest := []) (st' := [.int r51]) (ws' := [(h8, .inr (8, [.int s33_0, .ref qz, .ref qv, .int mV, .ref qp, .ref qf, .int mY, .ref qo, .int mO, .int mS, .int mW, .long mH])), (qz, .inl (gI X.1, 1027, .inl mZ)), (qv, .inl (gI X.1, 6162, .inl mU)), (qp, .inl (gI X.1, 512, .inl mP)), (qf, .inl (gI X.1, 60, .inl mB)), (qo, .inl (gI X.1, 60, .inl mR))]) rfl rfl dX8_line_51 [0, 1, 2, 3, 4, 5] [] [0, 1, 2, 3, 4, 5] rfl rfl rfl rfl rfl rfl ?_
      obtain rfl := Option.some.inj hf
      exact j_iret C hQ rfl dX8_line_54 (Nat.zero_le _) (Nat.zero_le _) ⟨rfl, rfl⟩
    · have hf := (if_neg e40).symm.trans hf
      refine j_iconst C (v := 0) dX8_line_43 (by decide) ?_
      refine j_goto C (tgt := 54) dX8_line_44 (by decide) ?_
      obtain rfl := Option.some.inj hf
      exact j_iret C hQ rfl dX8_line_54 (Nat.zero_le _) (Nat.zero_le _) ⟨rfl, rfl⟩
  have k17 : f_X8_line_J17 p1 p2 p3 mZ = some y → Jt X [(h8, .inr (8, [.int mT, .ref qz, .ref qv, .int mV, .ref qp, .ref qf, .int mY, .ref qo, .int mO, .int mS, .int mW, .long mH])), (qz, .inl (gI X.1, 1027, .inl mZ)), (qv, .inl (gI X.1, 6162, .inl mU)), (qp, .inl (gI X.1, 512, .inl mP)), (qf, .inl (gI X.1, 60, .inl mB)), (qo, .inl (gI X.1, 60, .inl mR))] 0 0 17 [(0, .ref h8), (1, .int p1), (2, .int p2), (3, .int p3)] [.ref h8] := by
    intro  hf
    unfold f_X8_line_J17 at hf
    refine j_iconst C (v := 1) dX8_line_17 (by decide) ?_
    refine j_goto C (tgt := 33) dX8_line_18 (by decide) ?_
    refine j_loc [0, 1, 2, 3] rfl ?_
    exact k33 1 hf
  refine j_if_eq C (tgt := 17) dX8_line_6 (by decide) (fun e6 => ?_) (fun e6 => ?_)
  · have hf := (if_pos e6).symm.trans hf
    refine j_loc [0, 1, 2, 3] rfl ?_
    exact k17  hf
  · have hf := (if_neg e6).symm.trans hf
    refine j_aload_n C dX8_line_9 rfl 0 rfl ?_
    refine j_iload_n C dX8_line_10 rfl 3 rfl ?_
    refine j_cV C (c_X8_isCoordinate X.1 hl h8 qz qv qp qf qo mT mZ mU mV mP mB mY mR mO mS mW mH p3) k_X8_isCoordinate gX8_line_X8_isCoordinate rfl (ci := 8) (q0 := 0) rfl rfl (As := [.int p3]) (rest := [.ref h8]) (st' := [.int (f_X8_isCoordinate p3 mZ), .ref h8]) (ws' := [(h8, .inr (8, [.int mT, .ref qz, .ref qv, .int mV, .ref qp, .ref qf, .int mY, .ref qo, .int mO, .int mS, .int mW, .long mH])), (qz, .inl (gI X.1, 1027, .inl mZ)), (qv, .inl (gI X.1, 6162, .inl mU)), (qp, .inl (gI X.1, 512, .inl mP)), (qf, .inl (gI X.1, 60, .inl mB)), (qo, .inl (gI X.1, 60, .inl mR))]) rfl rfl dX8_line_11 [0, 1, 2, 3, 4, 5] [] [0, 1, 2, 3, 4, 5] rfl rfl rfl rfl rfl rfl ?_
    refine j_if_ne C (tgt := 21) dX8_line_14 (by decide) (fun e14 => ?_) (fun e14 => ?_)
    · have hf := (if_neg e14).symm.trans hf
      refine j_iload_n C dX8_line_21 rfl 1 rfl ?_
      refine j_cS C (c_X8_isAxis X.1 hl p1) k_X8_isAxis gX8_line_X8_isAxis (As := [.int p1]) (rest := [.ref h8]) (st' := [.int (f_X8_isAxis p1), .ref h8]) (ws' := [(h8, .inr (8, [.int mT, .ref qz, .ref qv, .int mV, .ref qp, .ref qf, .int mY, .ref qo, .int mO, .int mS, .int mW, .long mH])), (qz, .inl (gI X.1, 1027, .inl mZ)), (qv, .inl (gI X.1, 6162, .inl mU)), (qp, .inl (gI X.1, 512, .inl mP)), (qf, .inl (gI X.1, 60, .inl mB)), (qo, .inl (gI X.1, 60, .inl mR))]) rfl rfl dX8_line_22 [] [0, 1, 2, 3, 4, 5] [0, 1, 2, 3, 4, 5] rfl rfl rfl rfl rfl rfl ?_
      refine j_if_eq C (tgt := 32) dX8_line_25 (by decide) (fun e25 => ?_) (fun e25 => ?_)
      · have hf := (if_pos e25).symm.trans hf
        refine j_iconst C (v := 2) dX8_line_32 (by decide) ?_
        refine j_loc [0, 1, 2, 3] rfl ?_
        exact k33 2 hf
      · have hf := (if_neg e25).symm.trans hf
        refine j_iconst C (v := 0) dX8_line_28 (by decide) ?_
        refine j_goto C (tgt := 33) dX8_line_29 (by decide) ?_
        refine j_loc [0, 1, 2, 3] rfl ?_
        exact k33 0 hf
    · have hf := (if_pos e14).symm.trans hf
      refine j_loc [0, 1, 2, 3] rfl ?_
      exact k17  hf

def f_X8_toldSlice (p1 : Int32) (p2 : Int32) (p3 : Int32) (mZ : (Nat → Int32)) : Option (Int32) :=
  if p3 = 0 then Option.bind (f_X8_sumOf p1 p2 mZ) (fun r35 => some (r35)) else if p3 = 1 then Option.bind (f_X8_filled p1 p2 mZ) (fun r42 => some (r42)) else if p3 = 2 then Option.bind (f_X8_greatest p1 p2 mZ) (fun r49 => some (r49)) else if p3 = 3 then Option.bind (f_X8_form p1 p2 mZ) (fun r56 => some (r56)) else Option.bind (f_X8_roomOf p1 p2 mZ) (fun r63 => some (r63))
abbrev rm_X8_toldSlice : Room := { frames := 8, cells := 0, slots := 0, locals := 178 }
theorem k_X8_toldSlice : Cf yX8_toldSlice wsX8_toldSlice rm_X8_toldSlice cX8_toldSlice 4 (some .int) 3 := ⟨⟨_, rfl⟩, by decide +kernel, by decide +kernel, by decide +kernel⟩
set_option maxRecDepth 100000 in
set_option maxHeartbeats 4000000 in
theorem b_X8_toldSlice (G : CG) (hl : (gL G).stackTraces = false) (h8 : Nat) (qz : Nat) (qv : Nat) (qp : Nat) (qf : Nat) (qo : Nat) (mT : Int32) (mZ : (Nat → Int32)) (mU : (Nat → Int32)) (mV : Int32) (mP : (Nat → Int32)) (mB : (Nat → Int32)) (mY : Int32) (mR : (Nat → Int32)) (mO : Int32) (mS : Int32) (mW : Int32) (mH : Int64) (p1 : Int32) (p2 : Int32) (p3 : Int32) (y : Int32) (hf : f_X8_toldSlice p1 p2 p3 mZ = some y) : Ct G yX8_toldSlice wsX8_toldSlice rm_X8_toldSlice [.ref h8, .int p1, .int p2, .int p3] [(h8, .inr (8, [.int mT, .ref qz, .ref qv, .int mV, .ref qp, .ref qf, .int mY, .ref qo, .int mO, .int mS, .int mW, .long mH])), (qz, .inl (gI G, 1027, .inl mZ)), (qv, .inl (gI G, 6162, .inl mU)), (qp, .inl (gI G, 512, .inl mP)), (qf, .inl (gI G, 60, .inl mB)), (qo, .inl (gI G, 60, .inl mR))] (fin1 (some (.int y)) [(h8, .inr (8, [.int mT, .ref qz, .ref qv, .int mV, .ref qp, .ref qf, .int mY, .ref qo, .int mO, .int mS, .int mW, .long mH])), (qz, .inl (gI G, 1027, .inl mZ)), (qv, .inl (gI G, 6162, .inl mU)), (qp, .inl (gI G, 512, .inl mP)), (qf, .inl (gI G, 60, .inl mB)), (qo, .inl (gI G, 60, .inl mR))]) 0 0 := by
  refine Ct.of (cc := cX8_toldSlice) (N := 4) (ret := (some .int)) RX8 (by decide) rfl rfl hl (Nat.le_of_ble_eq_true rfl) (lv := [(0, .ref h8), (1, .int p1), (2, .int p2), (3, .int p3)]) rfl (fun X hXG C hex hnm hQ => ?_)
  subst hXG
  unfold f_X8_toldSlice at hf
  refine j_iload_n C dX8_toldSlice_0 rfl 3 rfl ?_
  by_cases e1_0 : p3 = 0
  · have hf := (if_pos e1_0).symm.trans hf
    refine j_tabIn C (off := 31) (tgt := 32) dX8_toldSlice_1 (by rw [e1_0]; decide) (by rw [e1_0]; decide) (by rw [e1_0]; decide) (by decide) ?_
    refine j_aload_n C dX8_toldSlice_32 rfl 0 rfl ?_
    refine j_iload_n C dX8_toldSlice_33 rfl 1 rfl ?_
    refine j_iload_n C dX8_toldSlice_34 rfl 2 rfl ?_
    obtain ⟨r35, hc35, hf⟩ := Option.bind_eq_some_iff.mp hf
    refine j_cV C (b_X8_sumOf X.1 hl h8 qz qv qp qf qo mT mZ mU mV mP mB mY mR mO mS mW mH p1 p2 r35 hc35) k_X8_sumOf gX8_toldSlice_X8_sumOf rfl (ci := 8) (q0 := 0) rfl rfl (As := [.int p1, .int p2]) (rest := []) (st' := [.int r35]) (ws' := [(h8, .inr (8, [.int mT, .ref qz, .ref qv, .int mV, .ref qp, .ref qf, .int mY, .ref qo, .int mO, .int mS, .int mW, .long mH])), (qz, .inl (gI X.1, 1027, .inl mZ)), (qv, .inl (gI X.1, 6162, .inl mU)), (qp, .inl (gI X.1, 512, .inl mP)), (qf, .inl (gI X.1, 60, .inl mB)), (qo, .inl (gI X.1, 60, .inl mR))]) rfl rfl dX8_toldSlice_35 [0, 1, 2, 3, 4, 5] [] [0, 1, 2, 3, 4, 5] rfl rfl rfl rfl rfl rfl ?_
    obtain rfl := Option.some.inj hf
    exact j_iret C hQ rfl dX8_toldSlice_38 (Nat.zero_le _) (Nat.zero_le _) ⟨rfl, rfl⟩
  have hf := (if_neg e1_0).symm.trans hf
  by_cases e1_1 : p3 = 1
  · have hf := (if_pos e1_1).symm.trans hf
    refine j_tabIn C (off := 38) (tgt := 39) dX8_toldSlice_1 (by rw [e1_1]; decide) (by rw [e1_1]; decide) (by rw [e1_1]; decide) (by decide) ?_
    refine j_aload_n C dX8_toldSlice_39 rfl 0 rfl ?_
    refine j_iload_n C dX8_toldSlice_40 rfl 1 rfl ?_
    refine j_iload_n C dX8_toldSlice_41 rfl 2 rfl ?_
    obtain ⟨r42, hc42, hf⟩ := Option.bind_eq_some_iff.mp hf
    refine j_cV C (b_X8_filled X.1 hl h8 qz qv qp qf qo mT mZ mU mV mP mB mY mR mO mS mW mH p1 p2 r42 hc42) k_X8_filled gX8_toldSlice_X8_filled rfl (ci := 8) (q0 := 0) rfl rfl (As := [.int p1, .int p2]) (rest := []) (st' := [.int r42]) (ws' := [(h8, .inr (8, [.int mT, .ref qz, .ref qv, .int mV, .ref qp, .ref qf, .int mY, .ref qo, .int mO, .int mS, .int mW, .long mH])), (qz, .inl (gI X.1, 1027, .inl mZ)), (qv, .inl (gI X.1, 6162, .inl mU)), (qp, .inl (gI X.1, 512, .inl mP)), (qf, .inl (gI X.1, 60, .inl mB)), (qo, .inl (gI X.1, 60, .inl mR))]) rfl rfl dX8_toldSlice_42 [0, 1, 2, 3, 4, 5] [] [0, 1, 2, 3, 4, 5] rfl rfl rfl rfl rfl rfl ?_
    obtain rfl := Option.some.inj hf
    exact j_iret C hQ rfl dX8_toldSlice_45 (Nat.zero_le _) (Nat.zero_le _) ⟨rfl, rfl⟩
  have hf := (if_neg e1_1).symm.trans hf
  by_cases e1_2 : p3 = 2
  · have hf := (if_pos e1_2).symm.trans hf
    refine j_tabIn C (off := 45) (tgt := 46) dX8_toldSlice_1 (by rw [e1_2]; decide) (by rw [e1_2]; decide) (by rw [e1_2]; decide) (by decide) ?_
    refine j_aload_n C dX8_toldSlice_46 rfl 0 rfl ?_
    refine j_iload_n C dX8_toldSlice_47 rfl 1 rfl ?_
    refine j_iload_n C dX8_toldSlice_48 rfl 2 rfl ?_
    obtain ⟨r49, hc49, hf⟩ := Option.bind_eq_some_iff.mp hf
    refine j_cV C (b_X8_greatest X.1 hl h8 qz qv qp qf qo mT mZ mU mV mP mB mY mR mO mS mW mH p1 p2 r49 hc49) k_X8_greatest gX8_toldSlice_X8_greatest rfl (ci := 8) (q0 := 0) rfl rfl (As := [.int p1, .int p2]) (rest := []) (st' := [.int r49]) (ws' := [(h8, .inr (8, [.int mT, .ref qz, .ref qv, .int mV, .ref qp, .ref qf, .int mY, .ref qo, .int mO, .int mS, .int mW, .long mH])), (qz, .inl (gI X.1, 1027, .inl mZ)), (qv, .inl (gI X.1, 6162, .inl mU)), (qp, .inl (gI X.1, 512, .inl mP)), (qf, .inl (gI X.1, 60, .inl mB)), (qo, .inl (gI X.1, 60, .inl mR))]) rfl rfl dX8_toldSlice_49 [0, 1, 2, 3, 4, 5] [] [0, 1, 2, 3, 4, 5] rfl rfl rfl rfl rfl rfl ?_
    obtain rfl := Option.some.inj hf
    exact j_iret C hQ rfl dX8_toldSlice_52 (Nat.zero_le _) (Nat.zero_le _) ⟨rfl, rfl⟩
  have hf := (if_neg e1_2).symm.trans hf
  by_cases e1_3 : p3 = 3
  · have hf := (if_pos e1_3).symm.trans hf
    refine j_tabIn C (off := 52) (tgt := 53) dX8_toldSlice_1 (by rw [e1_3]; decide) (by rw [e1_3]; decide) (by rw [e1_3]; decide) (by decide) ?_
    refine j_aload_n C dX8_toldSlice_53 rfl 0 rfl ?_
    refine j_iload_n C dX8_toldSlice_54 rfl 1 rfl ?_
    refine j_iload_n C dX8_toldSlice_55 rfl 2 rfl ?_
    obtain ⟨r56, hc56, hf⟩ := Option.bind_eq_some_iff.mp hf
    refine j_cV C (b_X8_form X.1 hl h8 qz qv qp qf qo mT mZ mU mV mP mB mY mR mO mS mW mH p1 p2 r56 hc56) k_X8_form gX8_toldSlice_X8_form rfl (ci := 8) (q0 := 0) rfl rfl (As := [.int p1, .int p2]) (rest := []) (st' := [.int r56]) (ws' := [(h8, .inr (8, [.int mT, .ref qz, .ref qv, .int mV, .ref qp, .ref qf, .int mY, .ref qo, .int mO, .int mS, .int mW, .long mH])), (qz, .inl (gI X.1, 1027, .inl mZ)), (qv, .inl (gI X.1, 6162, .inl mU)), (qp, .inl (gI X.1, 512, .inl mP)), (qf, .inl (gI X.1, 60, .inl mB)), (qo, .inl (gI X.1, 60, .inl mR))]) rfl rfl dX8_toldSlice_56 [0, 1, 2, 3, 4, 5] [] [0, 1, 2, 3, 4, 5] rfl rfl rfl rfl rfl rfl ?_
    obtain rfl := Option.some.inj hf
    exact j_iret C hQ rfl dX8_toldSlice_59 (Nat.zero_le _) (Nat.zero_le _) ⟨rfl, rfl⟩
  have hf := (if_neg e1_3).symm.trans hf
  have t1_0 : p3.toInt ≠ 0 := fun h => e1_0 (Int32.toInt_inj.mp h)
  have t1_1 : p3.toInt ≠ 1 := fun h => e1_1 (Int32.toInt_inj.mp h)
  have t1_2 : p3.toInt ≠ 2 := fun h => e1_2 (Int32.toInt_inj.mp h)
  have t1_3 : p3.toInt ≠ 3 := fun h => e1_3 (Int32.toInt_inj.mp h)
  refine j_tabOut C (tgt := 60) dX8_toldSlice_1 (by omega) (by decide) ?_
  refine j_aload_n C dX8_toldSlice_60 rfl 0 rfl ?_
  refine j_iload_n C dX8_toldSlice_61 rfl 1 rfl ?_
  refine j_iload_n C dX8_toldSlice_62 rfl 2 rfl ?_
  obtain ⟨r63, hc63, hf⟩ := Option.bind_eq_some_iff.mp hf
  refine j_cV C (b_X8_roomOf X.1 hl h8 qz qv qp qf qo mT mZ mU mV mP mB mY mR mO mS mW mH p1 p2 r63 hc63) k_X8_roomOf gX8_toldSlice_X8_roomOf rfl (ci := 8) (q0 := 0) rfl rfl (As := [.int p1, .int p2]) (rest := []) (st' := [.int r63]) (ws' := [(h8, .inr (8, [.int mT, .ref qz, .ref qv, .int mV, .ref qp, .ref qf, .int mY, .ref qo, .int mO, .int mS, .int mW, .long mH])), (qz, .inl (gI X.1, 1027, .inl mZ)), (qv, .inl (gI X.1, 6162, .inl mU)), (qp, .inl (gI X.1, 512, .inl mP)), (qf, .inl (gI X.1, 60, .inl mB)), (qo, .inl (gI X.1, 60, .inl mR))]) rfl rfl dX8_toldSlice_63 [0, 1, 2, 3, 4, 5] [] [0, 1, 2, 3, 4, 5] rfl rfl rfl rfl rfl rfl ?_
  obtain rfl := Option.some.inj hf
  exact j_iret C hQ rfl dX8_toldSlice_66 (Nat.zero_le _) (Nat.zero_le _) ⟨rfl, rfl⟩

theorem lk_X8_slice_25 : Cond.fieldLink RX8 25 (TX8 0).1 (TX8 0).2.1 (TX8 0).2.2.1 ∈ wsX8_slice := by decide +kernel
theorem in_X8_slice_8 : ∀ w ∈ wsX80, w ∈ wsX8_slice := by decide +kernel
def f_X8_slice_J34 (p1 : Int32) (p2 : Int32) (p3 : Int32) (mZ : (Nat → Int32)) (s34_0 : Int32) : Option (Int32 × Int32) :=
  if s34_0 ≤ 0 then Option.bind (f_X8_toldSlice p1 p2 p3 mZ) (fun r52 => some ((r52, s34_0))) else some ((0, s34_0))
def f_X8_slice_J33 (p1 : Int32) (p2 : Int32) (p3 : Int32) (mZ : (Nat → Int32)) : Option (Int32 × Int32) :=
  (f_X8_slice_J34 p1 p2 p3 mZ 2)
def f_X8_slice (p1 : Int32) (p2 : Int32) (p3 : Int32) (mZ : (Nat → Int32)) : Option (Int32 × Int32) :=
  if (f_X8_isCoordinate p2 mZ) = 0 then (f_X8_slice_J34 p1 p2 p3 mZ 1) else if (f_X8_isAxis p1) = 0 then (f_X8_slice_J33 p1 p2 p3 mZ) else if (f_X8_in p3 0 4) = 0 then (f_X8_slice_J33 p1 p2 p3 mZ) else (f_X8_slice_J34 p1 p2 p3 mZ 0)
abbrev rm_X8_slice : Room := { frames := 9, cells := 0, slots := 0, locals := 201 }
theorem k_X8_slice : Cf yX8_slice wsX8_slice rm_X8_slice cX8_slice 4 (some .int) 3 := ⟨⟨_, rfl⟩, by decide +kernel, by decide +kernel, by decide +kernel⟩
set_option maxRecDepth 100000 in
set_option maxHeartbeats 4000000 in
theorem b_X8_slice (G : CG) (hl : (gL G).stackTraces = false) (h8 : Nat) (qz : Nat) (qv : Nat) (qp : Nat) (qf : Nat) (qo : Nat) (mT : Int32) (mZ : (Nat → Int32)) (mU : (Nat → Int32)) (mV : Int32) (mP : (Nat → Int32)) (mB : (Nat → Int32)) (mY : Int32) (mR : (Nat → Int32)) (mO : Int32) (mS : Int32) (mW : Int32) (mH : Int64) (p1 : Int32) (p2 : Int32) (p3 : Int32) (y : Int32 × Int32) (hf : f_X8_slice p1 p2 p3 mZ = some y) : Ct G yX8_slice wsX8_slice rm_X8_slice [.ref h8, .int p1, .int p2, .int p3] [(h8, .inr (8, [.int mT, .ref qz, .ref qv, .int mV, .ref qp, .ref qf, .int mY, .ref qo, .int mO, .int mS, .int mW, .long mH])), (qz, .inl (gI G, 1027, .inl mZ)), (qv, .inl (gI G, 6162, .inl mU)), (qp, .inl (gI G, 512, .inl mP)), (qf, .inl (gI G, 60, .inl mB)), (qo, .inl (gI G, 60, .inl mR))] (fin1 (some (.int y.1)) [(h8, .inr (8, [.int y.2, .ref qz, .ref qv, .int mV, .ref qp, .ref qf, .int mY, .ref qo, .int mO, .int mS, .int mW, .long mH])), (qz, .inl (gI G, 1027, .inl mZ)), (qv, .inl (gI G, 6162, .inl mU)), (qp, .inl (gI G, 512, .inl mP)), (qf, .inl (gI G, 60, .inl mB)), (qo, .inl (gI G, 60, .inl mR))]) 0 0 := by
  refine Ct.of (cc := cX8_slice) (N := 4) (ret := (some .int)) RX8 (by decide) rfl rfl hl (Nat.le_of_ble_eq_true rfl) (lv := [(0, .ref h8), (1, .int p1), (2, .int p2), (3, .int p3)]) rfl (fun X hXG C hex hnm hQ => ?_)
  subst hXG
  unfold f_X8_slice at hf
  refine j_aload_n C dX8_slice_0 rfl 0 rfl ?_
  refine j_aload_n C dX8_slice_1 rfl 0 rfl ?_
  refine j_iload_n C dX8_slice_2 rfl 2 rfl ?_
  refine j_cV C (c_X8_isCoordinate X.1 hl h8 qz qv qp qf qo mT mZ mU mV mP mB mY mR mO mS mW mH p2) k_X8_isCoordinate gX8_slice_X8_isCoordinate rfl (ci := 8) (q0 := 0) rfl rfl (As := [.int p2]) (rest := [.ref h8]) (st' := [.int (f_X8_isCoordinate p2 mZ), .ref h8]) (ws' := [(h8, .inr (8, [.int mT, .ref qz, .ref qv, .int mV, .ref qp, .ref qf, .int mY, .ref qo, .int mO, .int mS, .int mW, .long mH])), (qz, .inl (gI X.1, 1027, .inl mZ)), (qv, .inl (gI X.1, 6162, .inl mU)), (qp, .inl (gI X.1, 512, .inl mP)), (qf, .inl (gI X.1, 60, .inl mB)), (qo, .inl (gI X.1, 60, .inl mR))]) rfl rfl dX8_slice_3 [0, 1, 2, 3, 4, 5] [] [0, 1, 2, 3, 4, 5] rfl rfl rfl rfl rfl rfl ?_
  have k34 : ∀ (s34_0 : Int32), f_X8_slice_J34 p1 p2 p3 mZ s34_0 = some y → Jt X [(h8, .inr (8, [.int mT, .ref qz, .ref qv, .int mV, .ref qp, .ref qf, .int mY, .ref qo, .int mO, .int mS, .int mW, .long mH])), (qz, .inl (gI X.1, 1027, .inl mZ)), (qv, .inl (gI X.1, 6162, .inl mU)), (qp, .inl (gI X.1, 512, .inl mP)), (qf, .inl (gI X.1, 60, .inl mB)), (qo, .inl (gI X.1, 60, .inl mR))] 0 0 34 [(0, .ref h8), (1, .int p1), (2, .int p2), (3, .int p3)] [.int s34_0, .ref h8] := by
    intro s34_0 hf
    unfold f_X8_slice_J34 at hf
    refine j_put8 (ty := .int) (ws' := [(h8, .inr (8, [.int s34_0, .ref qz, .ref qv, .int mV, .ref qp, .ref qf, .int mY, .ref qo, .int mO, .int mS, .int mW, .long mH])), (qz, .inl (gI X.1, 1027, .inl mZ)), (qv, .inl (gI X.1, 6162, .inl mU)), (qp, .inl (gI X.1, 512, .inl mP)), (qf, .inl (gI X.1, 60, .inl mB)), (qo, .inl (gI X.1, 60, .inl mR))]) C 0 rfl 0 (by decide) in_X8_slice_8 lk_X8_slice_25 rfl (by decide +kernel) rfl rfl (Nat.le_of_ble_eq_true rfl) rfl dX8_slice_34 ?_
    refine j_aload_n C dX8_slice_37 rfl 0 rfl ?_
    refine j_get8 C 0 rfl 0 (by decide) in_X8_slice_8 lk_X8_slice_25 rfl dX8_slice_38 ?_
    refine j_if_le C (tgt := 48) dX8_slice_41 (by decide) (fun e41 => ?_) (fun e41 => ?_)
    · have hf := (if_pos e41).symm.trans hf
      refine j_aload_n C dX8_slice_48 rfl 0 rfl ?_
      refine j_iload_n C dX8_slice_49 rfl 1 rfl ?_
      refine j_iload_n C dX8_slice_50 rfl 2 rfl ?_
      refine j_iload_n C dX8_slice_51 rfl 3 rfl ?_
      obtain ⟨r52, hc52, hf⟩ := Option.bind_eq_some_iff.mp hf
      refine j_cV C (b_X8_toldSlice X.1 hl h8 qz qv qp qf qo s34_0 mZ mU mV mP mB mY mR mO mS mW mH p1 p2 p3 r52 hc52) k_X8_toldSlice gX8_slice_X8_toldSlice rfl (ci := 8) (q0 := 0) rfl rfl (As := [.int p1, .int p2, .int p3]) (rest := []) (st' := [.int r52]) (ws' := [(h8, .inr (8, [.int s34_0, .ref qz, .ref qv, .int mV, .ref qp, .ref qf, .int mY, .ref qo, .int mO, .int mS, .int mW, .long mH])), (qz, .inl (gI X.1, 1027, .inl mZ)), (qv, .inl (gI X.1, 6162, .inl mU)), (qp, .inl (gI X.1, 512, .inl mP)), (qf, .inl (gI X.1, 60, .inl mB)), (qo, .inl (gI X.1, 60, .inl mR))]) rfl rfl dX8_slice_52 [0, 1, 2, 3, 4, 5] [] [0, 1, 2, 3, 4, 5] rfl rfl rfl rfl rfl rfl ?_
      obtain rfl := Option.some.inj hf
      exact j_iret C hQ rfl dX8_slice_55 (Nat.zero_le _) (Nat.zero_le _) ⟨rfl, rfl⟩
    · have hf := (if_neg e41).symm.trans hf
      refine j_iconst C (v := 0) dX8_slice_44 (by decide) ?_
      refine j_goto C (tgt := 55) dX8_slice_45 (by decide) ?_
      obtain rfl := Option.some.inj hf
      exact j_iret C hQ rfl dX8_slice_55 (Nat.zero_le _) (Nat.zero_le _) ⟨rfl, rfl⟩
  refine j_if_ne C (tgt := 13) dX8_slice_6 (by decide) (fun e6 => ?_) (fun e6 => ?_)
  · have hf := (if_neg e6).symm.trans hf
    refine j_iload_n C dX8_slice_13 rfl 1 rfl ?_
    refine j_cS C (c_X8_isAxis X.1 hl p1) k_X8_isAxis gX8_slice_X8_isAxis (As := [.int p1]) (rest := [.ref h8]) (st' := [.int (f_X8_isAxis p1), .ref h8]) (ws' := [(h8, .inr (8, [.int mT, .ref qz, .ref qv, .int mV, .ref qp, .ref qf, .int mY, .ref qo, .int mO, .int mS, .int mW, .long mH])), (qz, .inl (gI X.1, 1027, .inl mZ)), (qv, .inl (gI X.1, 6162, .inl mU)), (qp, .inl (gI X.1, 512, .inl mP)), (qf, .inl (gI X.1, 60, .inl mB)), (qo, .inl (gI X.1, 60, .inl mR))]) rfl rfl dX8_slice_14 [] [0, 1, 2, 3, 4, 5] [0, 1, 2, 3, 4, 5] rfl rfl rfl rfl rfl rfl ?_
    have k33 : f_X8_slice_J33 p1 p2 p3 mZ = some y → Jt X [(h8, .inr (8, [.int mT, .ref qz, .ref qv, .int mV, .ref qp, .ref qf, .int mY, .ref qo, .int mO, .int mS, .int mW, .long mH])), (qz, .inl (gI X.1, 1027, .inl mZ)), (qv, .inl (gI X.1, 6162, .inl mU)), (qp, .inl (gI X.1, 512, .inl mP)), (qf, .inl (gI X.1, 60, .inl mB)), (qo, .inl (gI X.1, 60, .inl mR))] 0 0 33 [(0, .ref h8), (1, .int p1), (2, .int p2), (3, .int p3)] [.ref h8] := by
      intro  hf
      unfold f_X8_slice_J33 at hf
      refine j_iconst C (v := 2) dX8_slice_33 (by decide) ?_
      refine j_loc [0, 1, 2, 3] rfl ?_
      exact k34 2 hf
    refine j_if_eq C (tgt := 33) dX8_slice_17 (by decide) (fun e17 => ?_) (fun e17 => ?_)
    · have hf := (if_pos e17).symm.trans hf
      refine j_loc [0, 1, 2, 3] rfl ?_
      exact k33  hf
    · have hf := (if_neg e17).symm.trans hf
      refine j_iload_n C dX8_slice_20 rfl 3 rfl ?_
      refine j_iconst C (v := 0) dX8_slice_21 (by decide) ?_
      refine j_iconst C (v := 4) dX8_slice_22 (by decide) ?_
      refine j_cS C (c_X8_in X.1 hl p3 0 4) k_X8_in gX8_slice_X8_in (As := [.int p3, .int 0, .int 4]) (rest := [.ref h8]) (st' := [.int (f_X8_in p3 0 4), .ref h8]) (ws' := [(h8, .inr (8, [.int mT, .ref qz, .ref qv, .int mV, .ref qp, .ref qf, .int mY, .ref qo, .int mO, .int mS, .int mW, .long mH])), (qz, .inl (gI X.1, 1027, .inl mZ)), (qv, .inl (gI X.1, 6162, .inl mU)), (qp, .inl (gI X.1, 512, .inl mP)), (qf, .inl (gI X.1, 60, .inl mB)), (qo, .inl (gI X.1, 60, .inl mR))]) rfl rfl dX8_slice_23 [] [0, 1, 2, 3, 4, 5] [0, 1, 2, 3, 4, 5] rfl rfl rfl rfl rfl rfl ?_
      refine j_if_eq C (tgt := 33) dX8_slice_26 (by decide) (fun e26 => ?_) (fun e26 => ?_)
      · have hf := (if_pos e26).symm.trans hf
        refine j_loc [0, 1, 2, 3] rfl ?_
        exact k33  hf
      · have hf := (if_neg e26).symm.trans hf
        refine j_iconst C (v := 0) dX8_slice_29 (by decide) ?_
        refine j_goto C (tgt := 34) dX8_slice_30 (by decide) ?_
        refine j_loc [0, 1, 2, 3] rfl ?_
        exact k34 0 hf
  · have hf := (if_pos e6).symm.trans hf
    refine j_iconst C (v := 1) dX8_slice_9 (by decide) ?_
    refine j_goto C (tgt := 34) dX8_slice_10 (by decide) ?_
    refine j_loc [0, 1, 2, 3] rfl ?_
    exact k34 1 hf

theorem lk_X8_placeOf_7 : Cond.fieldLink RX8 7 (TX8 1).1 (TX8 1).2.1 (TX8 1).2.2.1 ∈ wsX8_placeOf := by decide +kernel
theorem in_X8_placeOf_8 : ∀ w ∈ wsX80, w ∈ wsX8_placeOf := by decide +kernel
def f_X8_placeOf_J98 (s98_0 : Int32) (x17_2 : Int32) (x17_4 : Int32) : Option ((Int32 × Int32) ⊕ ((Int32 × Int32) ⊕ (Int32))) :=
  some (.inl ((x17_2 - s98_0), (x17_4 + 1)))
def f_X8_placeOf_J87 (s47_0 : Int32) (x17_2 : Int32) (x17_4 : Int32) : Option ((Int32 × Int32) ⊕ ((Int32 × Int32) ⊕ (Int32))) :=
  if s47_0 = 0 then (f_X8_placeOf_J98 0 x17_2 x17_4) else (f_X8_placeOf_J98 1 x17_2 x17_4)
def f_X8_placeOf_J47 (mZ : (Nat → Int32)) (s47_0 : Int32) (x17_2 : Int32) (x17_4 : Int32) (x4_3 : Int32) : Option ((Int32 × Int32) ⊕ ((Int32 × Int32) ⊕ (Int32))) :=
  if s47_0 = 0 then (f_X8_placeOf_J87 s47_0 x17_2 x17_4) else if x17_2 = 0 then dz_nz (mZ 0) (dz_nz (mZ 0) (some (.inr (.inr ((f_X8_placeBy (mZ 1) x4_3 (x17_4 - x17_4 / (mZ 0) * (mZ 0)) (x17_4 / (mZ 0)))))))) else (f_X8_placeOf_J87 s47_0 x17_2 x17_4)
def f_X8_placeOf_L17 (mZ : (Nat → Int32)) (x4_3 : Int32) (x17_2 : Int32) (x17_4 : Int32) : Option ((Int32 × Int32) ⊕ ((Int32 × Int32) ⊕ (Int32))) :=
  if (f_X8_offsets mZ) ≤ x17_4 then some (.inr (.inl (x17_2, (x4_3 + 1)))) else Option.bind (f_X8_numberAt (mZ 1) x4_3 x17_4 mZ) (fun r36 => if r36 = 0 then (f_X8_placeOf_J47 mZ 0 x17_2 x17_4 x4_3) else (f_X8_placeOf_J47 mZ 1 x17_2 x17_4 x4_3))
def f_X8_placeOf_L4 (mZ : (Nat → Int32)) (x4_2 : Int32) (x4_3 : Int32) : Option ((Int32 × Int32) ⊕ (Int32)) :=
  if (mZ 0) ≤ x4_3 then some (.inr ((-1))) else dz_it (fun s : Int32 × Int32 => f_X8_placeOf_L17 mZ x4_3 s.1 s.2) (x4_2, 0)
def f_X8_placeOf (p1 : Int32) (mZ : (Nat → Int32)) : Option (Int32) :=
  dz_it (fun s : Int32 × Int32 => f_X8_placeOf_L4 mZ s.1 s.2) (p1, 0)
abbrev rm_X8_placeOf : Room := { frames := 5, cells := 0, slots := 0, locals := 108 }
theorem k_X8_placeOf : Cf yX8_placeOf wsX8_placeOf rm_X8_placeOf cX8_placeOf 6 (some .int) 1 := ⟨⟨_, rfl⟩, by decide +kernel, by decide +kernel, by decide +kernel⟩
set_option maxRecDepth 100000 in
set_option maxHeartbeats 4000000 in
theorem b_X8_placeOf (G : CG) (hl : (gL G).stackTraces = false) (h8 : Nat) (qz : Nat) (qv : Nat) (qp : Nat) (qf : Nat) (qo : Nat) (mT : Int32) (mZ : (Nat → Int32)) (mU : (Nat → Int32)) (mV : Int32) (mP : (Nat → Int32)) (mB : (Nat → Int32)) (mY : Int32) (mR : (Nat → Int32)) (mO : Int32) (mS : Int32) (mW : Int32) (mH : Int64) (p1 : Int32) (y : Int32) (hf : f_X8_placeOf p1 mZ = some y) : Ct G yX8_placeOf wsX8_placeOf rm_X8_placeOf [.ref h8, .int p1] [(h8, .inr (8, [.int mT, .ref qz, .ref qv, .int mV, .ref qp, .ref qf, .int mY, .ref qo, .int mO, .int mS, .int mW, .long mH])), (qz, .inl (gI G, 1027, .inl mZ)), (qv, .inl (gI G, 6162, .inl mU)), (qp, .inl (gI G, 512, .inl mP)), (qf, .inl (gI G, 60, .inl mB)), (qo, .inl (gI G, 60, .inl mR))] (fin1 (some (.int y)) [(h8, .inr (8, [.int mT, .ref qz, .ref qv, .int mV, .ref qp, .ref qf, .int mY, .ref qo, .int mO, .int mS, .int mW, .long mH])), (qz, .inl (gI G, 1027, .inl mZ)), (qv, .inl (gI G, 6162, .inl mU)), (qp, .inl (gI G, 512, .inl mP)), (qf, .inl (gI G, 60, .inl mB)), (qo, .inl (gI G, 60, .inl mR))]) 0 0 := by
  refine Ct.of (cc := cX8_placeOf) (N := 6) (ret := (some .int)) RX8 (by decide) rfl rfl hl (Nat.le_of_ble_eq_true rfl) (lv := [(0, .ref h8), (1, .int p1)]) rfl (fun X hXG C hex hnm hQ => ?_)
  subst hXG
  unfold f_X8_placeOf at hf
  refine j_iload_n C dX8_placeOf_0 rfl 1 rfl ?_
  refine j_istore_n (lv' := [(2, .int p1), (0, .ref h8), (1, .int p1)]) C dX8_placeOf_1 rfl (by decide) rfl ?_
  refine j_iconst C (v := 0) dX8_placeOf_2 (by decide) ?_
  refine j_istore_n (lv' := [(3, .int 0), (2, .int p1), (0, .ref h8), (1, .int p1)]) C dX8_placeOf_3 rfl (by decide) rfl ?_
  have kk4 : ∀ (n : Nat) (x4_2 : Int32) (x4_3 : Int32), dz_iter n (fun s : Int32 × Int32 => f_X8_placeOf_L4 mZ s.1 s.2) (x4_2, x4_3) = some y → Jt X [(h8, .inr (8, [.int mT, .ref qz, .ref qv, .int mV, .ref qp, .ref qf, .int mY, .ref qo, .int mO, .int mS, .int mW, .long mH])), (qz, .inl (gI X.1, 1027, .inl mZ)), (qv, .inl (gI X.1, 6162, .inl mU)), (qp, .inl (gI X.1, 512, .inl mP)), (qf, .inl (gI X.1, 60, .inl mB)), (qo, .inl (gI X.1, 60, .inl mR))] 0 0 4 [(0, .ref h8), (1, .int p1), (2, .int x4_2), (3, .int x4_3)] [] := by
    intro n
    induction n with
    | zero => intro x4_2 x4_3 hit; exact absurd hit (by simp [dz_iter])
    | succ n ih4 =>
      intro x4_2 x4_3 hit
      obtain ⟨y4, hf, hg4⟩ := dz_iter_succ hit
      replace hf : f_X8_placeOf_L4 mZ x4_2 x4_3 = some y4 := hf
      unfold f_X8_placeOf_L4 at hf
      refine j_iload_n C dX8_placeOf_4 rfl 3 rfl ?_
      refine j_aload_n C dX8_placeOf_5 rfl 0 rfl ?_
      refine j_get8 C 0 rfl 1 (by decide) in_X8_placeOf_8 lk_X8_placeOf_7 rfl dX8_placeOf_6 ?_
      refine j_iconst C (v := 0) dX8_placeOf_9 (by decide) ?_
      refine j_iald C 1 rfl (by unfold vp_in; decide) dX8_placeOf_10 ?_
      refine j_icmp_ge C (tgt := 112) dX8_placeOf_11 (by decide) (fun e11 => ?_) (fun e11 => ?_)
      · have hf := (if_pos e11).symm.trans hf
        refine j_iconst C (v := (-1)) dX8_placeOf_112 (by decide) ?_
        obtain rfl := Option.some.inj hf
        obtain rfl := dz_go_inr hg4
        exact j_iret C hQ rfl dX8_placeOf_113 (Nat.zero_le _) (Nat.zero_le _) ⟨rfl, rfl⟩
      · have hf := (if_neg e11).symm.trans hf
        refine j_iconst C (v := 0) dX8_placeOf_14 (by decide) ?_
        refine j_istore (lv' := [(4, .int 0), (0, .ref h8), (1, .int p1), (2, .int x4_2), (3, .int x4_3)]) C dX8_placeOf_15 (by decide) rfl ?_
        have kk17 : ∀ (n : Nat) (x17_2 : Int32) (x17_4 : Int32), dz_iter n (fun s : Int32 × Int32 => f_X8_placeOf_L17 mZ x4_3 s.1 s.2) (x17_2, x17_4) = some y4 → Jt X [(h8, .inr (8, [.int mT, .ref qz, .ref qv, .int mV, .ref qp, .ref qf, .int mY, .ref qo, .int mO, .int mS, .int mW, .long mH])), (qz, .inl (gI X.1, 1027, .inl mZ)), (qv, .inl (gI X.1, 6162, .inl mU)), (qp, .inl (gI X.1, 512, .inl mP)), (qf, .inl (gI X.1, 60, .inl mB)), (qo, .inl (gI X.1, 60, .inl mR))] 0 0 17 [(0, .ref h8), (1, .int p1), (2, .int x17_2), (3, .int x4_3), (4, .int x17_4)] [] := by
          intro n
          induction n with
          | zero => intro x17_2 x17_4 hit; exact absurd hit (by simp [dz_iter])
          | succ n ih17 =>
            intro x17_2 x17_4 hit
            obtain ⟨y17, hf, hg17⟩ := dz_iter_succ hit
            replace hf : f_X8_placeOf_L17 mZ x4_3 x17_2 x17_4 = some y17 := hf
            unfold f_X8_placeOf_L17 at hf
            refine j_iload C dX8_placeOf_17 4 rfl ?_
            refine j_aload_n C dX8_placeOf_19 rfl 0 rfl ?_
            refine j_cV C (c_X8_offsets X.1 hl h8 qz qv qp qf qo mT mZ mU mV mP mB mY mR mO mS mW mH) k_X8_offsets gX8_placeOf_X8_offsets rfl (ci := 8) (q0 := 0) rfl rfl (As := []) (rest := [.int x17_4]) (st' := [.int (f_X8_offsets mZ), .int x17_4]) (ws' := [(h8, .inr (8, [.int mT, .ref qz, .ref qv, .int mV, .ref qp, .ref qf, .int mY, .ref qo, .int mO, .int mS, .int mW, .long mH])), (qz, .inl (gI X.1, 1027, .inl mZ)), (qv, .inl (gI X.1, 6162, .inl mU)), (qp, .inl (gI X.1, 512, .inl mP)), (qf, .inl (gI X.1, 60, .inl mB)), (qo, .inl (gI X.1, 60, .inl mR))]) rfl rfl dX8_placeOf_20 [0, 1, 2, 3, 4, 5] [] [0, 1, 2, 3, 4, 5] rfl rfl rfl rfl rfl rfl ?_
            refine j_icmp_ge C (tgt := 106) dX8_placeOf_23 (by decide) (fun e23 => ?_) (fun e23 => ?_)
            · have hf := (if_pos e23).symm.trans hf
              refine j_iinc (v := (x4_3 + 1)) (lv' := [(3, .int (x4_3 + 1)), (0, .ref h8), (1, .int p1), (2, .int x17_2), (4, .int x17_4)]) C dX8_placeOf_106 3 rfl (by first | rfl | decide) (by decide) rfl ?_
              refine j_goto C (tgt := 4) dX8_placeOf_109 (by decide) ?_
              obtain rfl := Option.some.inj hf
              obtain rfl := dz_go_inr hg17
              have hf := dz_go_inl hg4
              refine j_loc [1, 2, 3, 0] rfl ?_
              exact ih4 x17_2 (x4_3 + 1) hf
            · have hf := (if_neg e23).symm.trans hf
              refine j_aload_n C dX8_placeOf_26 rfl 0 rfl ?_
              refine j_aload_n C dX8_placeOf_27 rfl 0 rfl ?_
              refine j_get8 C 0 rfl 1 (by decide) in_X8_placeOf_8 lk_X8_placeOf_7 rfl dX8_placeOf_28 ?_
              refine j_iconst C (v := 1) dX8_placeOf_31 (by decide) ?_
              refine j_iald C 1 rfl (by unfold vp_in; decide) dX8_placeOf_32 ?_
              refine j_iload_n C dX8_placeOf_33 rfl 3 rfl ?_
              refine j_iload C dX8_placeOf_34 4 rfl ?_
              obtain ⟨r36, hc36, hf⟩ := Option.bind_eq_some_iff.mp hf
              refine j_cV C (b_X8_numberAt X.1 hl h8 qz qv qp qf qo mT mZ mU mV mP mB mY mR mO mS mW mH (mZ 1) x4_3 x17_4 r36 hc36) k_X8_numberAt gX8_placeOf_X8_numberAt rfl (ci := 8) (q0 := 0) rfl rfl (As := [.int (mZ 1), .int x4_3, .int x17_4]) (rest := []) (st' := [.int r36]) (ws' := [(h8, .inr (8, [.int mT, .ref qz, .ref qv, .int mV, .ref qp, .ref qf, .int mY, .ref qo, .int mO, .int mS, .int mW, .long mH])), (qz, .inl (gI X.1, 1027, .inl mZ)), (qv, .inl (gI X.1, 6162, .inl mU)), (qp, .inl (gI X.1, 512, .inl mP)), (qf, .inl (gI X.1, 60, .inl mB)), (qo, .inl (gI X.1, 60, .inl mR))]) rfl rfl dX8_placeOf_36 [0, 1, 2, 3, 4, 5] [] [0, 1, 2, 3, 4, 5] rfl rfl rfl rfl rfl rfl ?_
              have k47 : ∀ (s47_0 : Int32), f_X8_placeOf_J47 mZ s47_0 x17_2 x17_4 x4_3 = some y17 → Jt X [(h8, .inr (8, [.int mT, .ref qz, .ref qv, .int mV, .ref qp, .ref qf, .int mY, .ref qo, .int mO, .int mS, .int mW, .long mH])), (qz, .inl (gI X.1, 1027, .inl mZ)), (qv, .inl (gI X.1, 6162, .inl mU)), (qp, .inl (gI X.1, 512, .inl mP)), (qf, .inl (gI X.1, 60, .inl mB)), (qo, .inl (gI X.1, 60, .inl mR))] 0 0 47 [(0, .ref h8), (1, .int p1), (2, .int x17_2), (3, .int x4_3), (4, .int x17_4)] [.int s47_0] := by
                intro s47_0 hf
                unfold f_X8_placeOf_J47 at hf
                refine j_istore (lv' := [(5, .int s47_0), (0, .ref h8), (1, .int p1), (2, .int x17_2), (3, .int x4_3), (4, .int x17_4)]) C dX8_placeOf_47 (by decide) rfl ?_
                refine j_iload C dX8_placeOf_49 0 rfl ?_
                have k87 : f_X8_placeOf_J87 s47_0 x17_2 x17_4 = some y17 → Jt X [(h8, .inr (8, [.int mT, .ref qz, .ref qv, .int mV, .ref qp, .ref qf, .int mY, .ref qo, .int mO, .int mS, .int mW, .long mH])), (qz, .inl (gI X.1, 1027, .inl mZ)), (qv, .inl (gI X.1, 6162, .inl mU)), (qp, .inl (gI X.1, 512, .inl mP)), (qf, .inl (gI X.1, 60, .inl mB)), (qo, .inl (gI X.1, 60, .inl mR))] 0 0 87 [(0, .ref h8), (1, .int p1), (2, .int x17_2), (3, .int x4_3), (4, .int x17_4), (5, .int s47_0)] [] := by
                  intro  hf
                  unfold f_X8_placeOf_J87 at hf
                  refine j_iload_n C dX8_placeOf_87 rfl 2 rfl ?_
                  refine j_iload C dX8_placeOf_88 5 rfl ?_
                  have k98 : ∀ (s98_0 : Int32), f_X8_placeOf_J98 s98_0 x17_2 x17_4 = some y17 → Jt X [(h8, .inr (8, [.int mT, .ref qz, .ref qv, .int mV, .ref qp, .ref qf, .int mY, .ref qo, .int mO, .int mS, .int mW, .long mH])), (qz, .inl (gI X.1, 1027, .inl mZ)), (qv, .inl (gI X.1, 6162, .inl mU)), (qp, .inl (gI X.1, 512, .inl mP)), (qf, .inl (gI X.1, 60, .inl mB)), (qo, .inl (gI X.1, 60, .inl mR))] 0 0 98 [(0, .ref h8), (1, .int p1), (2, .int x17_2), (3, .int x4_3), (4, .int x17_4), (5, .int s47_0)] [.int s98_0, .int x17_2] := by
                    intro s98_0 hf
                    unfold f_X8_placeOf_J98 at hf
                    refine j_isub C dX8_placeOf_98 ?_
                    refine j_istore_n (lv' := [(2, .int (x17_2 - s98_0)), (0, .ref h8), (1, .int p1), (3, .int x4_3), (4, .int x17_4), (5, .int s47_0)]) C dX8_placeOf_99 rfl (by decide) rfl ?_
                    refine j_iinc (v := (x17_4 + 1)) (lv' := [(4, .int (x17_4 + 1)), (2, .int (x17_2 - s98_0)), (0, .ref h8), (1, .int p1), (3, .int x4_3), (5, .int s47_0)]) C dX8_placeOf_100 4 rfl (by first | rfl | decide) (by decide) rfl ?_
                    refine j_goto C (tgt := 17) dX8_placeOf_103 (by decide) ?_
                    obtain rfl := Option.some.inj hf
                    have hf := dz_go_inl hg17
                    refine j_loc [2, 3, 1, 4, 0] rfl ?_
                    exact ih17 (x17_2 - s98_0) (x17_4 + 1) hf
                  refine j_if_eq C (tgt := 97) dX8_placeOf_90 (by decide) (fun e90 => ?_) (fun e90 => ?_)
                  · have hf := (if_pos e90).symm.trans hf
                    refine j_iconst C (v := 0) dX8_placeOf_97 (by decide) ?_
                    refine j_loc [0, 1, 2, 3, 4, 5] rfl ?_
                    exact k98 0 hf
                  · have hf := (if_neg e90).symm.trans hf
                    refine j_iconst C (v := 1) dX8_placeOf_93 (by decide) ?_
                    refine j_goto C (tgt := 98) dX8_placeOf_94 (by decide) ?_
                    refine j_loc [0, 1, 2, 3, 4, 5] rfl ?_
                    exact k98 1 hf
                refine j_if_eq C (tgt := 87) dX8_placeOf_51 (by decide) (fun e51 => ?_) (fun e51 => ?_)
                · have hf := (if_pos e51).symm.trans hf
                  refine j_loc [1, 2, 3, 4, 5, 0] rfl ?_
                  exact k87  hf
                · have hf := (if_neg e51).symm.trans hf
                  refine j_iload_n C dX8_placeOf_54 rfl 3 rfl ?_
                  refine j_if_ne C (tgt := 87) dX8_placeOf_55 (by decide) (fun e55 => ?_) (fun e55 => ?_)
                  · have hf := (if_neg e55).symm.trans hf
                    refine j_loc [1, 2, 3, 4, 5, 0] rfl ?_
                    exact k87  hf
                  · have hf := (if_pos e55).symm.trans hf
                    refine j_aload_n C dX8_placeOf_58 rfl 1 rfl ?_
                    refine j_get8 C 0 rfl 1 (by decide) in_X8_placeOf_8 lk_X8_placeOf_7 rfl dX8_placeOf_59 ?_
                    refine j_iconst C (v := 1) dX8_placeOf_62 (by decide) ?_
                    refine j_iald C 1 rfl (by unfold vp_in; decide) dX8_placeOf_63 ?_
                    refine j_iload_n C dX8_placeOf_64 rfl 4 rfl ?_
                    refine j_iload C dX8_placeOf_65 5 rfl ?_
                    refine j_aload_n C dX8_placeOf_67 rfl 1 rfl ?_
                    refine j_get8 C 0 rfl 1 (by decide) in_X8_placeOf_8 lk_X8_placeOf_7 rfl dX8_placeOf_68 ?_
                    refine j_iconst C (v := 0) dX8_placeOf_71 (by decide) ?_
                    refine j_iald C 1 rfl (by unfold vp_in; decide) dX8_placeOf_72 ?_
                    obtain ⟨z73, hf⟩ := dz_nz_some hf
                    refine j_irem C dX8_placeOf_73 z73 ?_
                    refine j_iload C dX8_placeOf_74 5 rfl ?_
                    refine j_aload_n C dX8_placeOf_76 rfl 1 rfl ?_
                    refine j_get8 C 0 rfl 1 (by decide) in_X8_placeOf_8 lk_X8_placeOf_7 rfl dX8_placeOf_77 ?_
                    refine j_iconst C (v := 0) dX8_placeOf_80 (by decide) ?_
                    refine j_iald C 1 rfl (by unfold vp_in; decide) dX8_placeOf_81 ?_
                    obtain ⟨z82, hf⟩ := dz_nz_some hf
                    refine j_idiv C dX8_placeOf_82 z82 ?_
                    refine j_cS C (c_X8_placeBy X.1 hl (mZ 1) x4_3 (x17_4 - x17_4 / (mZ 0) * (mZ 0)) (x17_4 / (mZ 0))) k_X8_placeBy gX8_placeOf_X8_placeBy (As := [.int (mZ 1), .int x4_3, .int (x17_4 - x17_4 / (mZ 0) * (mZ 0)), .int (x17_4 / (mZ 0))]) (rest := []) (st' := [.int (f_X8_placeBy (mZ 1) x4_3 (x17_4 - x17_4 / (mZ 0) * (mZ 0)) (x17_4 / (mZ 0)))]) (ws' := [(h8, .inr (8, [.int mT, .ref qz, .ref qv, .int mV, .ref qp, .ref qf, .int mY, .ref qo, .int mO, .int mS, .int mW, .long mH])), (qz, .inl (gI X.1, 1027, .inl mZ)), (qv, .inl (gI X.1, 6162, .inl mU)), (qp, .inl (gI X.1, 512, .inl mP)), (qf, .inl (gI X.1, 60, .inl mB)), (qo, .inl (gI X.1, 60, .inl mR))]) rfl rfl dX8_placeOf_83 [] [0, 1, 2, 3, 4, 5] [0, 1, 2, 3, 4, 5] rfl rfl rfl rfl rfl rfl ?_
                    obtain rfl := Option.some.inj hf
                    obtain rfl := dz_go_inr hg17
                    obtain rfl := dz_go_inr hg4
                    exact j_iret C hQ rfl dX8_placeOf_86 (Nat.zero_le _) (Nat.zero_le _) ⟨rfl, rfl⟩
              refine j_if_eq C (tgt := 46) dX8_placeOf_39 (by decide) (fun e39 => ?_) (fun e39 => ?_)
              · have hf := (if_pos e39).symm.trans hf
                refine j_iconst C (v := 0) dX8_placeOf_46 (by decide) ?_
                refine j_loc [0, 1, 2, 3, 4] rfl ?_
                exact k47 0 hf
              · have hf := (if_neg e39).symm.trans hf
                refine j_iconst C (v := 1) dX8_placeOf_42 (by decide) ?_
                refine j_goto C (tgt := 47) dX8_placeOf_43 (by decide) ?_
                refine j_loc [0, 1, 2, 3, 4] rfl ?_
                exact k47 1 hf
        refine j_loc [1, 2, 3, 4, 0] rfl ?_
        exact kk17 _ x4_2 0 hf
  refine j_loc [2, 3, 1, 0] rfl ?_
  exact kk4 _ p1 0 hf

end
