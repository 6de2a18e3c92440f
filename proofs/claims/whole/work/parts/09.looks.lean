noncomputable section
theorem lk_X0_look_9 : Cond.fieldLink RX0 9 (TX0 0).1 (TX0 0).2.1 (TX0 0).2.2.1 ∈ wsX0_look := by decide +kernel
theorem in_X0_look_0 : ∀ w ∈ wsX00, w ∈ wsX0_look := by decide +kernel
theorem lk_X0_look_15 : Cond.fieldLink RX0 15 (TX0 1).1 (TX0 1).2.1 (TX0 1).2.2.1 ∈ wsX0_look := by decide +kernel
theorem lk_X0_look_18 : Cond.fieldLink RX0 18 (TX0 2).1 (TX0 2).2.1 (TX0 2).2.2.1 ∈ wsX0_look := by decide +kernel
theorem lk_X0_look_21 : Cond.fieldLink RX0 21 (TX0 3).1 (TX0 3).2.1 (TX0 3).2.2.1 ∈ wsX0_look := by decide +kernel
theorem in_X0_look_5 : ∀ w ∈ wsX50, w ∈ wsX0_look := by decide +kernel
theorem wd_X0_look_m41 : Cond.methodLink RX0 41 Lib.Math.abs.name ∈ wsX0_look := by decide +kernel
theorem wd_X0_look_sabs : Cond.static Lib.Math.abs.name ∈ wsX0_look := by decide +kernel
theorem wd_X0_look_iMath : Cond.initialized "java/lang/Math" ∈ wsX0_look := by decide +kernel
theorem wd_X0_look_cabs : Cond.code Lib.Math.abs.name Lib.Math.abs.code 1 (some .int) ∈ wsX0_look := by decide +kernel
theorem wd_X0_look_m46 : Cond.methodLink RX0 46 Lib.Math.max.name ∈ wsX0_look := by decide +kernel
theorem wd_X0_look_smax : Cond.static Lib.Math.max.name ∈ wsX0_look := by decide +kernel
theorem wd_X0_look_cmax : Cond.code Lib.Math.max.name Lib.Math.max.code 2 (some .int) ∈ wsX0_look := by decide +kernel
theorem wd_X0_look_ini_X7 : Cond.initialized RX7 ∈ wsX0_look := by decide +kernel
theorem wd_X0_look_sta_X7_cell : Cond.static yX7_cell ∈ wsX0_look := by decide +kernel
def f_X0_look_J96 (dF_96 : Int32) (dG_96 : Int32) (dP_96 : Int32) (dS_96 : Int32) (x22_2 : Int32) : Option ((Int32 × Int32 × Int32 × Int32 × Int32) ⊕ (Int32 × Int32 × Int32 × Int32)) :=
  some (.inl ((x22_2 + 1), dP_96, dS_96, dG_96, dF_96))
def f_X0_look_J61 (vN : (Nat → Int32)) (vM : (Nat → Int32)) (dF_61 : Int32) (dG_22 : Int32) (dP_22 : Int32) (dS_22 : Int32) (x22_2 : Int32) : Option ((Int32 × Int32 × Int32 × Int32 × Int32) ⊕ (Int32 × Int32 × Int32 × Int32)) :=
  (f_X0_look_J96 dF_61 (jmax dG_22 (jabs ((f_X5_number x22_2 vN) - (f_X7_cell 512 vM x22_2)))) (dP_22 + 1) (dS_22 + ((f_X5_number x22_2 vN) - (f_X7_cell 512 vM x22_2))) x22_2)
def f_X0_look_L22 (vD : Int32) (vN : (Nat → Int32)) (vM : (Nat → Int32)) (x22_2 : Int32) (dP_22 : Int32) (dS_22 : Int32) (dG_22 : Int32) (dF_22 : Int32) : Option ((Int32 × Int32 × Int32 × Int32 × Int32) ⊕ (Int32 × Int32 × Int32 × Int32)) :=
  if (f_X5_points vD) ≤ x22_2 then some (.inr ((dP_22, dS_22, dG_22, dF_22))) else if ((f_X5_number x22_2 vN) - (f_X7_cell 512 vM x22_2)) = 0 then (f_X0_look_J96 dF_22 dG_22 dP_22 dS_22 x22_2) else if dP_22 = 0 then (f_X0_look_J61 vN vM x22_2 dG_22 dP_22 dS_22 x22_2) else (f_X0_look_J61 vN vM dF_22 dG_22 dP_22 dS_22 x22_2)
def f_X0_look (vD : Int32) (vN : (Nat → Int32)) (vM : (Nat → Int32)) : Option (Int32 × Int32 × Int32 × Int32) :=
  dz_it (fun s : Int32 × Int32 × Int32 × Int32 × Int32 => f_X0_look_L22 vD vN vM s.1 s.2.1 s.2.2.1 s.2.2.2.1 s.2.2.2.2) (0, 0, 0, 0, (-1))
abbrev rm_X0_look : Room := { frames := 3, cells := 0, slots := 0, locals := 58 }
theorem k_X0_look : Cf yX0_look wsX0_look rm_X0_look cX0_look 4 none 1 := ⟨⟨_, rfl⟩, by decide +kernel, by decide +kernel, by decide +kernel⟩
set_option maxRecDepth 100000 in
set_option maxHeartbeats 4000000 in
theorem b_X0_look (G : CG) (hl : (gL G).stackTraces = false) (h0 : Nat) (h5 : Nat) (qn : Nat) (qm : Nat) (vD : Int32) (vA : Int32) (vL : Int32) (vN : (Nat → Int32)) (vM : (Nat → Int32)) (dP : Int32) (dS : Int32) (dG : Int32) (dF : Int32) (y : Int32 × Int32 × Int32 × Int32) (hf : f_X0_look vD vN vM = some y) : Ct G yX0_look wsX0_look rm_X0_look [.ref h0, .ref h5] [(h0, .inr (0, [.int dP, .int dS, .int dG, .int dF])), (h5, .inr (5, [.int vD, .int vA, .int vL, .ref qn, .ref qm])), (qn, .inl (gI G, 512, .inl vN)), (qm, .inl (gI G, 512, .inl vM))] (fin1 none [(h0, .inr (0, [.int y.1, .int y.2.1, .int y.2.2.1, .int y.2.2.2])), (h5, .inr (5, [.int vD, .int vA, .int vL, .ref qn, .ref qm])), (qn, .inl (gI G, 512, .inl vN)), (qm, .inl (gI G, 512, .inl vM))]) 0 0 := by
  refine Ct.of (cc := cX0_look) (N := 4) (ret := none) RX0 (by decide) rfl rfl hl (Nat.le_of_ble_eq_true rfl) (lv := [(0, .ref h0), (1, .ref h5)]) rfl (fun X hXG C hex hnm hQ => ?_)
  subst hXG
  unfold f_X0_look at hf
  refine j_aload_n C dX0_look_0 rfl 0 rfl ?_
  refine j_iconst C (v := 0) dX0_look_1 (by decide) ?_
  refine j_put0 (ty := .int) (ws' := [(h0, .inr (0, [.int 0, .int dS, .int dG, .int dF])), (h5, .inr (5, [.int vD, .int vA, .int vL, .ref qn, .ref qm])), (qn, .inl (gI X.1, 512, .inl vN)), (qm, .inl (gI X.1, 512, .inl vM))]) C 0 rfl 0 (by decide) in_X0_look_0 lk_X0_look_9 rfl (by decide +kernel) rfl rfl (Nat.le_of_ble_eq_true rfl) rfl dX0_look_2 ?_
  refine j_aload_n C dX0_look_5 rfl 0 rfl ?_
  refine j_iconst C (v := 0) dX0_look_6 (by decide) ?_
  refine j_put0 (ty := .int) (ws' := [(h0, .inr (0, [.int 0, .int 0, .int dG, .int dF])), (h5, .inr (5, [.int vD, .int vA, .int vL, .ref qn, .ref qm])), (qn, .inl (gI X.1, 512, .inl vN)), (qm, .inl (gI X.1, 512, .inl vM))]) C 0 rfl 1 (by decide) in_X0_look_0 lk_X0_look_15 rfl (by decide +kernel) rfl rfl (Nat.le_of_ble_eq_true rfl) rfl dX0_look_7 ?_
  refine j_aload_n C dX0_look_10 rfl 0 rfl ?_
  refine j_iconst C (v := 0) dX0_look_11 (by decide) ?_
  refine j_put0 (ty := .int) (ws' := [(h0, .inr (0, [.int 0, .int 0, .int 0, .int dF])), (h5, .inr (5, [.int vD, .int vA, .int vL, .ref qn, .ref qm])), (qn, .inl (gI X.1, 512, .inl vN)), (qm, .inl (gI X.1, 512, .inl vM))]) C 0 rfl 2 (by decide) in_X0_look_0 lk_X0_look_18 rfl (by decide +kernel) rfl rfl (Nat.le_of_ble_eq_true rfl) rfl dX0_look_12 ?_
  refine j_aload_n C dX0_look_15 rfl 0 rfl ?_
  refine j_iconst C (v := (-1)) dX0_look_16 (by decide) ?_
  refine j_put0 (ty := .int) (ws' := [(h0, .inr (0, [.int 0, .int 0, .int 0, .int (-1)])), (h5, .inr (5, [.int vD, .int vA, .int vL, .ref qn, .ref qm])), (qn, .inl (gI X.1, 512, .inl vN)), (qm, .inl (gI X.1, 512, .inl vM))]) C 0 rfl 3 (by decide) in_X0_look_0 lk_X0_look_21 rfl (by decide +kernel) rfl rfl (Nat.le_of_ble_eq_true rfl) rfl dX0_look_17 ?_
  refine j_iconst C (v := 0) dX0_look_20 (by decide) ?_
  refine j_istore_n (lv' := [(2, .int 0), (0, .ref h0), (1, .ref h5)]) C dX0_look_21 rfl (by decide) rfl ?_
  have kk22 : ∀ (n : Nat) (x22_2 : Int32) (dP_22 : Int32) (dS_22 : Int32) (dG_22 : Int32) (dF_22 : Int32), dz_iter n (fun s : Int32 × Int32 × Int32 × Int32 × Int32 => f_X0_look_L22 vD vN vM s.1 s.2.1 s.2.2.1 s.2.2.2.1 s.2.2.2.2) (x22_2, dP_22, dS_22, dG_22, dF_22) = some y → Jt X [(h0, .inr (0, [.int dP_22, .int dS_22, .int dG_22, .int dF_22])), (h5, .inr (5, [.int vD, .int vA, .int vL, .ref qn, .ref qm])), (qn, .inl (gI X.1, 512, .inl vN)), (qm, .inl (gI X.1, 512, .inl vM))] 0 0 22 [(0, .ref h0), (1, .ref h5), (2, .int x22_2)] [] := by
    intro n
    induction n with
    | zero => intro x22_2 dP_22 dS_22 dG_22 dF_22 hit; exact absurd hit (by simp [dz_iter])
    | succ n ih22 =>
      intro x22_2 dP_22 dS_22 dG_22 dF_22 hit
      obtain ⟨y22, hf, hg22⟩ := dz_iter_succ hit
      replace hf : f_X0_look_L22 vD vN vM x22_2 dP_22 dS_22 dG_22 dF_22 = some y22 := hf
      unfold f_X0_look_L22 at hf
      refine j_iload_n C dX0_look_22 rfl 2 rfl ?_
      refine j_aload_n C dX0_look_23 rfl 1 rfl ?_
      refine j_cV C (c_X5_points X.1 hl h5 qn qm vD vA vL vN vM) k_X5_points gX0_look_X5_points rfl (ci := 5) (q0 := 0) rfl rfl (As := []) (rest := [.int x22_2]) (st' := [.int (f_X5_points vD), .int x22_2]) (ws' := [(h0, .inr (0, [.int dP_22, .int dS_22, .int dG_22, .int dF_22])), (h5, .inr (5, [.int vD, .int vA, .int vL, .ref qn, .ref qm])), (qn, .inl (gI X.1, 512, .inl vN)), (qm, .inl (gI X.1, 512, .inl vM))]) rfl rfl dX0_look_24 [1, 2, 3] [0] [0, 1, 2, 3] rfl rfl rfl rfl rfl rfl ?_
      refine j_icmp_ge C (tgt := 102) dX0_look_27 (by decide) (fun e27 => ?_) (fun e27 => ?_)
      · have hf := (if_pos e27).symm.trans hf
        obtain rfl := Option.some.inj hf
        obtain rfl := dz_go_inr hg22
        exact j_vret C hQ rfl dX0_look_102 (Nat.zero_le _) (Nat.zero_le _) ⟨rfl, rfl⟩
      · have hf := (if_neg e27).symm.trans hf
        refine j_aload_n C dX0_look_30 rfl 1 rfl ?_
        refine j_iload_n C dX0_look_31 rfl 2 rfl ?_
        refine j_cV C (c_X5_number X.1 hl h5 qn qm vD vA vL vN vM x22_2) k_X5_number gX0_look_X5_number rfl (ci := 5) (q0 := 0) rfl rfl (As := [.int x22_2]) (rest := []) (st' := [.int (f_X5_number x22_2 vN)]) (ws' := [(h0, .inr (0, [.int dP_22, .int dS_22, .int dG_22, .int dF_22])), (h5, .inr (5, [.int vD, .int vA, .int vL, .ref qn, .ref qm])), (qn, .inl (gI X.1, 512, .inl vN)), (qm, .inl (gI X.1, 512, .inl vM))]) rfl rfl dX0_look_32 [1, 2, 3] [0] [0, 1, 2, 3] rfl rfl rfl rfl rfl rfl ?_
        refine j_aload_n C dX0_look_35 rfl 1 rfl ?_
        refine j_getN5 C 1 rfl 4 (by decide) in_X0_look_5 nw_X0_33 rfl dX0_look_36 ?_
        refine j_iload_n C dX0_look_39 rfl 2 rfl ?_
        refine j_cN C (c_X7_cell X.1 hl qm 512 vM x22_2 (by decide)) k_X7_cell gX0_look_X7_cell_n37 nw_X0_37 wd_X0_look_ini_X7 wd_X0_look_sta_X7_cell (As := [.ref qm, .int x22_2]) (rest := [.int (f_X5_number x22_2 vN)]) (st' := [.int (f_X7_cell 512 vM x22_2), .int (f_X5_number x22_2 vN)]) (ws' := [(h0, .inr (0, [.int dP_22, .int dS_22, .int dG_22, .int dF_22])), (h5, .inr (5, [.int vD, .int vA, .int vL, .ref qn, .ref qm])), (qn, .inl (gI X.1, 512, .inl vN)), (qm, .inl (gI X.1, 512, .inl vM))]) rfl rfl dX0_look_40 [3] [0, 1, 2] [0, 1, 2, 3] rfl rfl rfl rfl rfl rfl ?_
        refine j_isub C dX0_look_43 ?_
        refine j_istore_n (lv' := [(3, .int ((f_X5_number x22_2 vN) - (f_X7_cell 512 vM x22_2))), (0, .ref h0), (1, .ref h5), (2, .int x22_2)]) C dX0_look_44 rfl (by decide) rfl ?_
        refine j_iload_n C dX0_look_45 rfl 0 rfl ?_
        have k96 : ∀ (dP_96 : Int32) (dS_96 : Int32) (dG_96 : Int32) (dF_96 : Int32), f_X0_look_J96 dF_96 dG_96 dP_96 dS_96 x22_2 = some y22 → Jt X [(h0, .inr (0, [.int dP_96, .int dS_96, .int dG_96, .int dF_96])), (h5, .inr (5, [.int vD, .int vA, .int vL, .ref qn, .ref qm])), (qn, .inl (gI X.1, 512, .inl vN)), (qm, .inl (gI X.1, 512, .inl vM))] 0 0 96 [(0, .ref h0), (1, .ref h5), (2, .int x22_2), (3, .int ((f_X5_number x22_2 vN) - (f_X7_cell 512 vM x22_2)))] [] := by
          intro dP_96 dS_96 dG_96 dF_96 hf
          unfold f_X0_look_J96 at hf
          refine j_iinc (v := (x22_2 + 1)) (lv' := [(2, .int (x22_2 + 1)), (0, .ref h0), (1, .ref h5), (3, .int ((f_X5_number x22_2 vN) - (f_X7_cell 512 vM x22_2)))]) C dX0_look_96 2 rfl (by first | rfl | decide) (by decide) rfl ?_
          refine j_goto C (tgt := 22) dX0_look_99 (by decide) ?_
          obtain rfl := Option.some.inj hf
          have hf := dz_go_inl hg22
          refine j_loc [1, 2, 0] rfl ?_
          exact ih22 (x22_2 + 1) dP_96 dS_96 dG_96 dF_96 hf
        refine j_if_eq C (tgt := 96) dX0_look_46 (by decide) (fun e46 => ?_) (fun e46 => ?_)
        · have hf := (if_pos e46).symm.trans hf
          refine j_loc [1, 2, 3, 0] rfl ?_
          exact k96 dP_22 dS_22 dG_22 dF_22 hf
        · have hf := (if_neg e46).symm.trans hf
          refine j_aload_n C dX0_look_49 rfl 1 rfl ?_
          refine j_get0 C 0 rfl 0 (by decide) in_X0_look_0 lk_X0_look_9 rfl dX0_look_50 ?_
          have k61 : ∀ (dF_61 : Int32), f_X0_look_J61 vN vM dF_61 dG_22 dP_22 dS_22 x22_2 = some y22 → Jt X [(h0, .inr (0, [.int dP_22, .int dS_22, .int dG_22, .int dF_61])), (h5, .inr (5, [.int vD, .int vA, .int vL, .ref qn, .ref qm])), (qn, .inl (gI X.1, 512, .inl vN)), (qm, .inl (gI X.1, 512, .inl vM))] 0 0 61 [(0, .ref h0), (1, .ref h5), (2, .int x22_2), (3, .int ((f_X5_number x22_2 vN) - (f_X7_cell 512 vM x22_2)))] [] := by
            intro dF_61 hf
            unfold f_X0_look_J61 at hf
            refine j_aload_n C dX0_look_61 rfl 0 rfl ?_
            refine j_dup C dX0_look_62 rfl ?_
            refine j_get0 C 0 rfl 0 (by decide) in_X0_look_0 lk_X0_look_9 rfl dX0_look_63 ?_
            refine j_iconst C (v := 1) dX0_look_66 (by decide) ?_
            refine j_iadd C dX0_look_67 ?_
            refine j_put0 (ty := .int) (ws' := [(h0, .inr (0, [.int (dP_22 + 1), .int dS_22, .int dG_22, .int dF_61])), (h5, .inr (5, [.int vD, .int vA, .int vL, .ref qn, .ref qm])), (qn, .inl (gI X.1, 512, .inl vN)), (qm, .inl (gI X.1, 512, .inl vM))]) C 0 rfl 0 (by decide) in_X0_look_0 lk_X0_look_9 rfl (by decide +kernel) rfl rfl (Nat.le_of_ble_eq_true rfl) rfl dX0_look_68 ?_
            refine j_aload_n C dX0_look_71 rfl 0 rfl ?_
            refine j_dup C dX0_look_72 rfl ?_
            refine j_get0 C 0 rfl 1 (by decide) in_X0_look_0 lk_X0_look_15 rfl dX0_look_73 ?_
            refine j_iload_n C dX0_look_76 rfl 3 rfl ?_
            refine j_iadd C dX0_look_77 ?_
            refine j_put0 (ty := .int) (ws' := [(h0, .inr (0, [.int (dP_22 + 1), .int (dS_22 + ((f_X5_number x22_2 vN) - (f_X7_cell 512 vM x22_2))), .int dG_22, .int dF_61])), (h5, .inr (5, [.int vD, .int vA, .int vL, .ref qn, .ref qm])), (qn, .inl (gI X.1, 512, .inl vN)), (qm, .inl (gI X.1, 512, .inl vM))]) C 0 rfl 1 (by decide) in_X0_look_0 lk_X0_look_15 rfl (by decide +kernel) rfl rfl (Nat.le_of_ble_eq_true rfl) rfl dX0_look_78 ?_
            refine j_aload_n C dX0_look_81 rfl 0 rfl ?_
            refine j_aload_n C dX0_look_82 rfl 0 rfl ?_
            refine j_get0 C 0 rfl 2 (by decide) in_X0_look_0 lk_X0_look_18 rfl dX0_look_83 ?_
            refine j_iload_n C dX0_look_86 rfl 3 rfl ?_
            refine j_abs C dX0_look_87 wd_X0_look_m41 wd_X0_look_sabs wd_X0_look_iMath wd_X0_look_cabs rfl ?_
            refine j_max C dX0_look_90 wd_X0_look_m46 wd_X0_look_smax wd_X0_look_iMath wd_X0_look_cmax rfl ?_
            refine j_put0 (ty := .int) (ws' := [(h0, .inr (0, [.int (dP_22 + 1), .int (dS_22 + ((f_X5_number x22_2 vN) - (f_X7_cell 512 vM x22_2))), .int (jmax dG_22 (jabs ((f_X5_number x22_2 vN) - (f_X7_cell 512 vM x22_2)))), .int dF_61])), (h5, .inr (5, [.int vD, .int vA, .int vL, .ref qn, .ref qm])), (qn, .inl (gI X.1, 512, .inl vN)), (qm, .inl (gI X.1, 512, .inl vM))]) C 0 rfl 2 (by decide) in_X0_look_0 lk_X0_look_18 rfl (by decide +kernel) rfl rfl (Nat.le_of_ble_eq_true rfl) rfl dX0_look_93 ?_
            refine j_loc [0, 1, 2, 3] rfl ?_
            exact k96 (dP_22 + 1) (dS_22 + ((f_X5_number x22_2 vN) - (f_X7_cell 512 vM x22_2))) (jmax dG_22 (jabs ((f_X5_number x22_2 vN) - (f_X7_cell 512 vM x22_2)))) dF_61 hf
          refine j_if_ne C (tgt := 61) dX0_look_53 (by decide) (fun e53 => ?_) (fun e53 => ?_)
          · have hf := (if_neg e53).symm.trans hf
            refine j_loc [1, 2, 3, 0] rfl ?_
            exact k61 dF_22 hf
          · have hf := (if_pos e53).symm.trans hf
            refine j_aload_n C dX0_look_56 rfl 1 rfl ?_
            refine j_iload_n C dX0_look_57 rfl 3 rfl ?_
            refine j_put0 (ty := .int) (ws' := [(h0, .inr (0, [.int dP_22, .int dS_22, .int dG_22, .int x22_2])), (h5, .inr (5, [.int vD, .int vA, .int vL, .ref qn, .ref qm])), (qn, .inl (gI X.1, 512, .inl vN)), (qm, .inl (gI X.1, 512, .inl vM))]) C 0 rfl 3 (by decide) in_X0_look_0 lk_X0_look_21 rfl (by decide +kernel) rfl rfl (Nat.le_of_ble_eq_true rfl) rfl dX0_look_58 ?_
            refine j_loc [1, 2, 3, 0] rfl ?_
            exact k61 x22_2 hf
  refine j_loc [1, 2, 0] rfl ?_
  exact kk22 _ 0 0 0 0 (-1) hf

theorem lk_X0_told_21 : Cond.fieldLink RX0 21 (TX0 3).1 (TX0 3).2.1 (TX0 3).2.2.1 ∈ wsX0_told := by decide +kernel
theorem in_X0_told_0 : ∀ w ∈ wsX00, w ∈ wsX0_told := by decide +kernel
theorem lk_X0_told_18 : Cond.fieldLink RX0 18 (TX0 2).1 (TX0 2).2.1 (TX0 2).2.2.1 ∈ wsX0_told := by decide +kernel
theorem lk_X0_told_15 : Cond.fieldLink RX0 15 (TX0 1).1 (TX0 1).2.1 (TX0 1).2.2.1 ∈ wsX0_told := by decide +kernel
theorem lk_X0_told_9 : Cond.fieldLink RX0 9 (TX0 0).1 (TX0 0).2.1 (TX0 0).2.2.1 ∈ wsX0_told := by decide +kernel
def f_X0_told (p1 : Int32) (dP : Int32) (dS : Int32) (dG : Int32) (dF : Int32) : Int32 :=
  if p1 = 0 then dP else if p1 = 1 then dS else if p1 = 2 then dG else dF
abbrev rm_X0_told : Room := { frames := 1, cells := 0, slots := 0, locals := 16 }
theorem k_X0_told : Cf yX0_told wsX0_told rm_X0_told cX0_told 2 (some .int) 1 := ⟨⟨_, rfl⟩, by decide +kernel, by decide +kernel, by decide +kernel⟩
set_option maxRecDepth 100000 in
set_option maxHeartbeats 4000000 in
theorem b_X0_told (G : CG) (hl : (gL G).stackTraces = false) (h0 : Nat) (dP : Int32) (dS : Int32) (dG : Int32) (dF : Int32) (p1 : Int32) (y : Int32) (hf : f_X0_told p1 dP dS dG dF = y) : Ct G yX0_told wsX0_told rm_X0_told [.ref h0, .int p1] [(h0, .inr (0, [.int dP, .int dS, .int dG, .int dF]))] (fin1 (some (.int y)) [(h0, .inr (0, [.int dP, .int dS, .int dG, .int dF]))]) 0 0 := by
  refine Ct.of (cc := cX0_told) (N := 2) (ret := (some .int)) RX0 (by decide) rfl rfl hl (Nat.le_of_ble_eq_true rfl) (lv := [(0, .ref h0), (1, .int p1)]) rfl (fun X hXG C hex hnm hQ => ?_)
  subst hXG
  unfold f_X0_told at hf
  refine j_iload_n C dX0_told_0 rfl 1 rfl ?_
  by_cases e1_0 : p1 = 0
  · have hf := (if_pos e1_0).symm.trans hf
    refine j_tabIn C (off := 27) (tgt := 28) dX0_told_1 (by rw [e1_0]; decide) (by rw [e1_0]; decide) (by rw [e1_0]; decide) (by decide) ?_
    refine j_aload_n C dX0_told_28 rfl 0 rfl ?_
    refine j_get0 C 0 rfl 0 (by decide) in_X0_told_0 lk_X0_told_9 rfl dX0_told_29 ?_
    subst hf
    exact j_iret C hQ rfl dX0_told_32 (Nat.zero_le _) (Nat.zero_le _) ⟨rfl, rfl⟩
  have hf := (if_neg e1_0).symm.trans hf
  by_cases e1_1 : p1 = 1
  · have hf := (if_pos e1_1).symm.trans hf
    refine j_tabIn C (off := 32) (tgt := 33) dX0_told_1 (by rw [e1_1]; decide) (by rw [e1_1]; decide) (by rw [e1_1]; decide) (by decide) ?_
    refine j_aload_n C dX0_told_33 rfl 0 rfl ?_
    refine j_get0 C 0 rfl 1 (by decide) in_X0_told_0 lk_X0_told_15 rfl dX0_told_34 ?_
    subst hf
    exact j_iret C hQ rfl dX0_told_37 (Nat.zero_le _) (Nat.zero_le _) ⟨rfl, rfl⟩
  have hf := (if_neg e1_1).symm.trans hf
  by_cases e1_2 : p1 = 2
  · have hf := (if_pos e1_2).symm.trans hf
    refine j_tabIn C (off := 37) (tgt := 38) dX0_told_1 (by rw [e1_2]; decide) (by rw [e1_2]; decide) (by rw [e1_2]; decide) (by decide) ?_
    refine j_aload_n C dX0_told_38 rfl 0 rfl ?_
    refine j_get0 C 0 rfl 2 (by decide) in_X0_told_0 lk_X0_told_18 rfl dX0_told_39 ?_
    subst hf
    exact j_iret C hQ rfl dX0_told_42 (Nat.zero_le _) (Nat.zero_le _) ⟨rfl, rfl⟩
  have hf := (if_neg e1_2).symm.trans hf
  have t1_0 : p1.toInt ≠ 0 := fun h => e1_0 (Int32.toInt_inj.mp h)
  have t1_1 : p1.toInt ≠ 1 := fun h => e1_1 (Int32.toInt_inj.mp h)
  have t1_2 : p1.toInt ≠ 2 := fun h => e1_2 (Int32.toInt_inj.mp h)
  refine j_tabOut C (tgt := 43) dX0_told_1 (by omega) (by decide) ?_
  refine j_aload_n C dX0_told_43 rfl 0 rfl ?_
  refine j_get0 C 0 rfl 3 (by decide) in_X0_told_0 lk_X0_told_21 rfl dX0_told_44 ?_
  subst hf
  exact j_iret C hQ rfl dX0_told_47 (Nat.zero_le _) (Nat.zero_le _) ⟨rfl, rfl⟩
theorem c_X0_told (G : CG) (hl : (gL G).stackTraces = false) (h0 : Nat) (dP : Int32) (dS : Int32) (dG : Int32) (dF : Int32) (p1 : Int32) : Ct G yX0_told wsX0_told rm_X0_told [.ref h0, .int p1] [(h0, .inr (0, [.int dP, .int dS, .int dG, .int dF]))] (fin1 (some (.int (f_X0_told p1 dP dS dG dF))) [(h0, .inr (0, [.int dP, .int dS, .int dG, .int dF]))]) 0 0 := b_X0_told G hl h0 dP dS dG dF p1 _ rfl

theorem wd_X1_look_k24 : Cond.constant RX1 24 (-1000000) ∈ wsX1_look := by decide +kernel
theorem lk_X1_look_21 : Cond.fieldLink RX1 21 (TX1 3).1 (TX1 3).2.1 (TX1 3).2.2.1 ∈ wsX1_look := by decide +kernel
theorem in_X1_look_1 : ∀ w ∈ wsX10, w ∈ wsX1_look := by decide +kernel
theorem in_X1_look_5 : ∀ w ∈ wsX50, w ∈ wsX1_look := by decide +kernel
theorem lk_X1_look_9 : Cond.fieldLink RX1 9 (TX1 0).1 (TX1 0).2.1 (TX1 0).2.2.1 ∈ wsX1_look := by decide +kernel
theorem lk_X1_look_15 : Cond.fieldLink RX1 15 (TX1 1).1 (TX1 1).2.1 (TX1 1).2.2.1 ∈ wsX1_look := by decide +kernel
theorem lk_X1_look_18 : Cond.fieldLink RX1 18 (TX1 2).1 (TX1 2).2.1 (TX1 2).2.2.1 ∈ wsX1_look := by decide +kernel
def f_X1_look_J76 (hA_76 : Int32) (hF_76 : Int32) (hL_76 : Int32) (hS_76 : Int32) (x26_4 : Int32) : Option ((Int32 × Int32 × Int32 × Int32 × Int32) ⊕ ((Int32 × Int32 × Int32 × Int32 × Int32) ⊕ ((Int32 × Int32 × Int32 × Int32 × Int32) ⊕ (Int32 × Int32 × Int32 × Int32)))) :=
  some (.inl ((x26_4 + 1), hA_76, hF_76, hL_76, hS_76))
def f_X1_look_L26 (vD : Int32) (vN : (Nat → Int32)) (x15_3 : Int32) (x8_2 : Int32) (x26_4 : Int32) (hA_26 : Int32) (hF_26 : Int32) (hL_26 : Int32) (hS_26 : Int32) : Option ((Int32 × Int32 × Int32 × Int32 × Int32) ⊕ ((Int32 × Int32 × Int32 × Int32 × Int32) ⊕ ((Int32 × Int32 × Int32 × Int32 × Int32) ⊕ (Int32 × Int32 × Int32 × Int32)))) :=
  if vD ≤ x26_4 then some (.inr (.inl ((x15_3 + 1), hA_26, hF_26, hL_26, hS_26))) else Option.bind (f_X5_lineSum x8_2 x15_3 x26_4 vD vN) (fun r40 => if r40 ≤ hS_26 then (f_X1_look_J76 hA_26 hF_26 hL_26 hS_26 x26_4) else (f_X1_look_J76 x8_2 x15_3 x26_4 r40 x26_4))
def f_X1_look_L15 (vD : Int32) (vN : (Nat → Int32)) (x8_2 : Int32) (x15_3 : Int32) (hA_15 : Int32) (hF_15 : Int32) (hL_15 : Int32) (hS_15 : Int32) : Option ((Int32 × Int32 × Int32 × Int32 × Int32) ⊕ ((Int32 × Int32 × Int32 × Int32 × Int32) ⊕ (Int32 × Int32 × Int32 × Int32))) :=
  if vD ≤ x15_3 then some (.inr (.inl ((x8_2 + 1), hA_15, hF_15, hL_15, hS_15))) else dz_it (fun s : Int32 × Int32 × Int32 × Int32 × Int32 => f_X1_look_L26 vD vN x15_3 x8_2 s.1 s.2.1 s.2.2.1 s.2.2.2.1 s.2.2.2.2) (0, hA_15, hF_15, hL_15, hS_15)
def f_X1_look_L8 (vD : Int32) (vN : (Nat → Int32)) (x8_2 : Int32) (hA_8 : Int32) (hF_8 : Int32) (hL_8 : Int32) (hS_8 : Int32) : Option ((Int32 × Int32 × Int32 × Int32 × Int32) ⊕ (Int32 × Int32 × Int32 × Int32)) :=
  if 3 ≤ x8_2 then some (.inr ((hA_8, hF_8, hL_8, hS_8))) else dz_it (fun s : Int32 × Int32 × Int32 × Int32 × Int32 => f_X1_look_L15 vD vN x8_2 s.1 s.2.1 s.2.2.1 s.2.2.2.1 s.2.2.2.2) (0, hA_8, hF_8, hL_8, hS_8)
def f_X1_look (vD : Int32) (vN : (Nat → Int32)) (hA : Int32) (hF : Int32) (hL : Int32) : Option (Int32 × Int32 × Int32 × Int32) :=
  dz_it (fun s : Int32 × Int32 × Int32 × Int32 × Int32 => f_X1_look_L8 vD vN s.1 s.2.1 s.2.2.1 s.2.2.2.1 s.2.2.2.2) (0, hA, hF, hL, (-1000000))
abbrev rm_X1_look : Room := { frames := 4, cells := 0, slots := 0, locals := 87 }
theorem k_X1_look : Cf yX1_look wsX1_look rm_X1_look cX1_look 6 none 1 := ⟨⟨_, rfl⟩, by decide +kernel, by decide +kernel, by decide +kernel⟩
set_option maxRecDepth 100000 in
set_option maxHeartbeats 4000000 in
theorem b_X1_look (G : CG) (hl : (gL G).stackTraces = false) (h1 : Nat) (h5 : Nat) (qn : Nat) (qm : Nat) (vD : Int32) (vA : Int32) (vL : Int32) (vN : (Nat → Int32)) (vM : (Nat → Int32)) (hA : Int32) (hF : Int32) (hL : Int32) (hS : Int32) (y : Int32 × Int32 × Int32 × Int32) (hf : f_X1_look vD vN hA hF hL = some y) : Ct G yX1_look wsX1_look rm_X1_look [.ref h1, .ref h5] [(h1, .inr (1, [.int hA, .int hF, .int hL, .int hS])), (h5, .inr (5, [.int vD, .int vA, .int vL, .ref qn, .ref qm])), (qn, .inl (gI G, 512, .inl vN)), (qm, .inl (gI G, 512, .inl vM))] (fin1 none [(h1, .inr (1, [.int y.1, .int y.2.1, .int y.2.2.1, .int y.2.2.2])), (h5, .inr (5, [.int vD, .int vA, .int vL, .ref qn, .ref qm])), (qn, .inl (gI G, 512, .inl vN)), (qm, .inl (gI G, 512, .inl vM))]) 0 0 := by
  refine Ct.of (cc := cX1_look) (N := 6) (ret := none) RX1 (by decide) rfl rfl hl (Nat.le_of_ble_eq_true rfl) (lv := [(0, .ref h1), (1, .ref h5)]) rfl (fun X hXG C hex hnm hQ => ?_)
  subst hXG
  unfold f_X1_look at hf
  refine j_aload_n C dX1_look_0 rfl 0 rfl ?_
  refine j_ldc C (v := (-1000000)) dX1_look_1 wd_X1_look_k24 ?_
  refine j_put1 (ty := .int) (ws' := [(h1, .inr (1, [.int hA, .int hF, .int hL, .int (-1000000)])), (h5, .inr (5, [.int vD, .int vA, .int vL, .ref qn, .ref qm])), (qn, .inl (gI X.1, 512, .inl vN)), (qm, .inl (gI X.1, 512, .inl vM))]) C 0 rfl 3 (by decide) in_X1_look_1 lk_X1_look_21 rfl (by decide +kernel) rfl rfl (Nat.le_of_ble_eq_true rfl) rfl dX1_look_3 ?_
  refine j_iconst C (v := 0) dX1_look_6 (by decide) ?_
  refine j_istore_n (lv' := [(2, .int 0), (0, .ref h1), (1, .ref h5)]) C dX1_look_7 rfl (by decide) rfl ?_
  have kk8 : ∀ (n : Nat) (x8_2 : Int32) (hA_8 : Int32) (hF_8 : Int32) (hL_8 : Int32) (hS_8 : Int32), dz_iter n (fun s : Int32 × Int32 × Int32 × Int32 × Int32 => f_X1_look_L8 vD vN s.1 s.2.1 s.2.2.1 s.2.2.2.1 s.2.2.2.2) (x8_2, hA_8, hF_8, hL_8, hS_8) = some y → Jt X [(h1, .inr (1, [.int hA_8, .int hF_8, .int hL_8, .int hS_8])), (h5, .inr (5, [.int vD, .int vA, .int vL, .ref qn, .ref qm])), (qn, .inl (gI X.1, 512, .inl vN)), (qm, .inl (gI X.1, 512, .inl vM))] 0 0 8 [(0, .ref h1), (1, .ref h5), (2, .int x8_2)] [] := by
    intro n
    induction n with
    | zero => intro x8_2 hA_8 hF_8 hL_8 hS_8 hit; exact absurd hit (by simp [dz_iter])
    | succ n ih8 =>
      intro x8_2 hA_8 hF_8 hL_8 hS_8 hit
      obtain ⟨y8, hf, hg8⟩ := dz_iter_succ hit
      replace hf : f_X1_look_L8 vD vN x8_2 hA_8 hF_8 hL_8 hS_8 = some y8 := hf
      unfold f_X1_look_L8 at hf
      refine j_iload_n C dX1_look_8 rfl 2 rfl ?_
      refine j_iconst C (v := 3) dX1_look_9 (by decide) ?_
      refine j_icmp_ge C (tgt := 94) dX1_look_10 (by decide) (fun e10 => ?_) (fun e10 => ?_)
      · have hf := (if_pos e10).symm.trans hf
        obtain rfl := Option.some.inj hf
        obtain rfl := dz_go_inr hg8
        exact j_vret C hQ rfl dX1_look_94 (Nat.zero_le _) (Nat.zero_le _) ⟨rfl, rfl⟩
      · have hf := (if_neg e10).symm.trans hf
        refine j_iconst C (v := 0) dX1_look_13 (by decide) ?_
        refine j_istore_n (lv' := [(3, .int 0), (0, .ref h1), (1, .ref h5), (2, .int x8_2)]) C dX1_look_14 rfl (by decide) rfl ?_
        have kk15 : ∀ (n : Nat) (x15_3 : Int32) (hA_15 : Int32) (hF_15 : Int32) (hL_15 : Int32) (hS_15 : Int32), dz_iter n (fun s : Int32 × Int32 × Int32 × Int32 × Int32 => f_X1_look_L15 vD vN x8_2 s.1 s.2.1 s.2.2.1 s.2.2.2.1 s.2.2.2.2) (x15_3, hA_15, hF_15, hL_15, hS_15) = some y8 → Jt X [(h1, .inr (1, [.int hA_15, .int hF_15, .int hL_15, .int hS_15])), (h5, .inr (5, [.int vD, .int vA, .int vL, .ref qn, .ref qm])), (qn, .inl (gI X.1, 512, .inl vN)), (qm, .inl (gI X.1, 512, .inl vM))] 0 0 15 [(0, .ref h1), (1, .ref h5), (2, .int x8_2), (3, .int x15_3)] [] := by
          intro n
          induction n with
          | zero => intro x15_3 hA_15 hF_15 hL_15 hS_15 hit; exact absurd hit (by simp [dz_iter])
          | succ n ih15 =>
            intro x15_3 hA_15 hF_15 hL_15 hS_15 hit
            obtain ⟨y15, hf, hg15⟩ := dz_iter_succ hit
            replace hf : f_X1_look_L15 vD vN x8_2 x15_3 hA_15 hF_15 hL_15 hS_15 = some y15 := hf
            unfold f_X1_look_L15 at hf
            refine j_iload_n C dX1_look_15 rfl 3 rfl ?_
            refine j_aload_n C dX1_look_16 rfl 1 rfl ?_
            refine j_getN5 C 1 rfl 0 (by decide) in_X1_look_5 nw_X1_25 rfl dX1_look_17 ?_
            refine j_icmp_ge C (tgt := 88) dX1_look_20 (by decide) (fun e20 => ?_) (fun e20 => ?_)
            · have hf := (if_pos e20).symm.trans hf
              refine j_iinc (v := (x8_2 + 1)) (lv' := [(2, .int (x8_2 + 1)), (0, .ref h1), (1, .ref h5), (3, .int x15_3)]) C dX1_look_88 2 rfl (by first | rfl | decide) (by decide) rfl ?_
              refine j_goto C (tgt := 8) dX1_look_91 (by decide) ?_
              obtain rfl := Option.some.inj hf
              obtain rfl := dz_go_inr hg15
              have hf := dz_go_inl hg8
              refine j_loc [1, 2, 0] rfl ?_
              exact ih8 (x8_2 + 1) hA_15 hF_15 hL_15 hS_15 hf
            · have hf := (if_neg e20).symm.trans hf
              refine j_iconst C (v := 0) dX1_look_23 (by decide) ?_
              refine j_istore (lv' := [(4, .int 0), (0, .ref h1), (1, .ref h5), (2, .int x8_2), (3, .int x15_3)]) C dX1_look_24 (by decide) rfl ?_
              have kk26 : ∀ (n : Nat) (x26_4 : Int32) (hA_26 : Int32) (hF_26 : Int32) (hL_26 : Int32) (hS_26 : Int32), dz_iter n (fun s : Int32 × Int32 × Int32 × Int32 × Int32 => f_X1_look_L26 vD vN x15_3 x8_2 s.1 s.2.1 s.2.2.1 s.2.2.2.1 s.2.2.2.2) (x26_4, hA_26, hF_26, hL_26, hS_26) = some y15 → Jt X [(h1, .inr (1, [.int hA_26, .int hF_26, .int hL_26, .int hS_26])), (h5, .inr (5, [.int vD, .int vA, .int vL, .ref qn, .ref qm])), (qn, .inl (gI X.1, 512, .inl vN)), (qm, .inl (gI X.1, 512, .inl vM))] 0 0 26 [(0, .ref h1), (1, .ref h5), (2, .int x8_2), (3, .int x15_3), (4, .int x26_4)] [] := by
                intro n
                induction n with
                | zero => intro x26_4 hA_26 hF_26 hL_26 hS_26 hit; exact absurd hit (by simp [dz_iter])
                | succ n ih26 =>
                  intro x26_4 hA_26 hF_26 hL_26 hS_26 hit
                  obtain ⟨y26, hf, hg26⟩ := dz_iter_succ hit
                  replace hf : f_X1_look_L26 vD vN x15_3 x8_2 x26_4 hA_26 hF_26 hL_26 hS_26 = some y26 := hf
                  unfold f_X1_look_L26 at hf
                  refine j_iload C dX1_look_26 4 rfl ?_
                  refine j_aload_n C dX1_look_28 rfl 1 rfl ?_
                  refine j_getN5 C 1 rfl 0 (by decide) in_X1_look_5 nw_X1_25 rfl dX1_look_29 ?_
                  refine j_icmp_ge C (tgt := 82) dX1_look_32 (by decide) (fun e32 => ?_) (fun e32 => ?_)
                  · have hf := (if_pos e32).symm.trans hf
                    refine j_iinc (v := (x15_3 + 1)) (lv' := [(3, .int (x15_3 + 1)), (0, .ref h1), (1, .ref h5), (2, .int x8_2), (4, .int x26_4)]) C dX1_look_82 3 rfl (by first | rfl | decide) (by decide) rfl ?_
                    refine j_goto C (tgt := 15) dX1_look_85 (by decide) ?_
                    obtain rfl := Option.some.inj hf
                    obtain rfl := dz_go_inr hg26
                    have hf := dz_go_inl hg15
                    refine j_loc [1, 2, 3, 0] rfl ?_
                    exact ih15 (x15_3 + 1) hA_26 hF_26 hL_26 hS_26 hf
                  · have hf := (if_neg e32).symm.trans hf
                    refine j_aload_n C dX1_look_35 rfl 1 rfl ?_
                    refine j_iload_n C dX1_look_36 rfl 2 rfl ?_
                    refine j_iload_n C dX1_look_37 rfl 3 rfl ?_
                    refine j_iload C dX1_look_38 4 rfl ?_
                    obtain ⟨r40, hc40, hf⟩ := Option.bind_eq_some_iff.mp hf
                    refine j_cV C (b_X5_lineSum X.1 hl h5 qn qm vD vA vL vN vM x8_2 x15_3 x26_4 r40 hc40) k_X5_lineSum gX1_look_X5_lineSum rfl (ci := 5) (q0 := 0) rfl rfl (As := [.int x8_2, .int x15_3, .int x26_4]) (rest := []) (st' := [.int r40]) (ws' := [(h1, .inr (1, [.int hA_26, .int hF_26, .int hL_26, .int hS_26])), (h5, .inr (5, [.int vD, .int vA, .int vL, .ref qn, .ref qm])), (qn, .inl (gI X.1, 512, .inl vN)), (qm, .inl (gI X.1, 512, .inl vM))]) rfl rfl dX1_look_40 [1, 2, 3] [0] [0, 1, 2, 3] rfl rfl rfl rfl rfl rfl ?_
                    refine j_istore (lv' := [(5, .int r40), (0, .ref h1), (1, .ref h5), (2, .int x8_2), (3, .int x15_3), (4, .int x26_4)]) C dX1_look_43 (by decide) rfl ?_
                    refine j_iload C dX1_look_45 0 rfl ?_
                    refine j_aload_n C dX1_look_47 rfl 1 rfl ?_
                    refine j_get1 C 0 rfl 3 (by decide) in_X1_look_1 lk_X1_look_21 rfl dX1_look_48 ?_
                    have k76 : ∀ (hA_76 : Int32) (hF_76 : Int32) (hL_76 : Int32) (hS_76 : Int32), f_X1_look_J76 hA_76 hF_76 hL_76 hS_76 x26_4 = some y26 → Jt X [(h1, .inr (1, [.int hA_76, .int hF_76, .int hL_76, .int hS_76])), (h5, .inr (5, [.int vD, .int vA, .int vL, .ref qn, .ref qm])), (qn, .inl (gI X.1, 512, .inl vN)), (qm, .inl (gI X.1, 512, .inl vM))] 0 0 76 [(0, .ref h1), (1, .ref h5), (2, .int x8_2), (3, .int x15_3), (4, .int x26_4), (5, .int r40)] [] := by
                      intro hA_76 hF_76 hL_76 hS_76 hf
                      unfold f_X1_look_J76 at hf
                      refine j_iinc (v := (x26_4 + 1)) (lv' := [(4, .int (x26_4 + 1)), (0, .ref h1), (1, .ref h5), (2, .int x8_2), (3, .int x15_3), (5, .int r40)]) C dX1_look_76 4 rfl (by first | rfl | decide) (by decide) rfl ?_
                      refine j_goto C (tgt := 26) dX1_look_79 (by decide) ?_
                      obtain rfl := Option.some.inj hf
                      have hf := dz_go_inl hg26
                      refine j_loc [1, 2, 3, 4, 0] rfl ?_
                      exact ih26 (x26_4 + 1) hA_76 hF_76 hL_76 hS_76 hf
                    refine j_icmp_le C (tgt := 76) dX1_look_51 (by decide) (fun e51 => ?_) (fun e51 => ?_)
                    · have hf := (if_pos e51).symm.trans hf
                      refine j_loc [1, 2, 3, 4, 5, 0] rfl ?_
                      exact k76 hA_26 hF_26 hL_26 hS_26 hf
                    · have hf := (if_neg e51).symm.trans hf
                      refine j_aload_n C dX1_look_54 rfl 1 rfl ?_
                      refine j_iload_n C dX1_look_55 rfl 3 rfl ?_
                      refine j_put1 (ty := .int) (ws' := [(h1, .inr (1, [.int x8_2, .int hF_26, .int hL_26, .int hS_26])), (h5, .inr (5, [.int vD, .int vA, .int vL, .ref qn, .ref qm])), (qn, .inl (gI X.1, 512, .inl vN)), (qm, .inl (gI X.1, 512, .inl vM))]) C 0 rfl 0 (by decide) in_X1_look_1 lk_X1_look_9 rfl (by decide +kernel) rfl rfl (Nat.le_of_ble_eq_true rfl) rfl dX1_look_56 ?_
                      refine j_aload_n C dX1_look_59 rfl 1 rfl ?_
                      refine j_iload_n C dX1_look_60 rfl 4 rfl ?_
                      refine j_put1 (ty := .int) (ws' := [(h1, .inr (1, [.int x8_2, .int x15_3, .int hL_26, .int hS_26])), (h5, .inr (5, [.int vD, .int vA, .int vL, .ref qn, .ref qm])), (qn, .inl (gI X.1, 512, .inl vN)), (qm, .inl (gI X.1, 512, .inl vM))]) C 0 rfl 1 (by decide) in_X1_look_1 lk_X1_look_15 rfl (by decide +kernel) rfl rfl (Nat.le_of_ble_eq_true rfl) rfl dX1_look_61 ?_
                      refine j_aload_n C dX1_look_64 rfl 1 rfl ?_
                      refine j_iload C dX1_look_65 5 rfl ?_
                      refine j_put1 (ty := .int) (ws' := [(h1, .inr (1, [.int x8_2, .int x15_3, .int x26_4, .int hS_26])), (h5, .inr (5, [.int vD, .int vA, .int vL, .ref qn, .ref qm])), (qn, .inl (gI X.1, 512, .inl vN)), (qm, .inl (gI X.1, 512, .inl vM))]) C 0 rfl 2 (by decide) in_X1_look_1 lk_X1_look_18 rfl (by decide +kernel) rfl rfl (Nat.le_of_ble_eq_true rfl) rfl dX1_look_67 ?_
                      refine j_aload_n C dX1_look_70 rfl 1 rfl ?_
                      refine j_iload C dX1_look_71 0 rfl ?_
                      refine j_put1 (ty := .int) (ws' := [(h1, .inr (1, [.int x8_2, .int x15_3, .int x26_4, .int r40])), (h5, .inr (5, [.int vD, .int vA, .int vL, .ref qn, .ref qm])), (qn, .inl (gI X.1, 512, .inl vN)), (qm, .inl (gI X.1, 512, .inl vM))]) C 0 rfl 3 (by decide) in_X1_look_1 lk_X1_look_21 rfl (by decide +kernel) rfl rfl (Nat.le_of_ble_eq_true rfl) rfl dX1_look_73 ?_
                      refine j_loc [1, 2, 3, 4, 5, 0] rfl ?_
                      exact k76 x8_2 x15_3 x26_4 r40 hf
              refine j_loc [1, 2, 3, 4, 0] rfl ?_
              exact kk26 _ 0 hA_15 hF_15 hL_15 hS_15 hf
        refine j_loc [1, 2, 3, 0] rfl ?_
        exact kk15 _ 0 hA_8 hF_8 hL_8 hS_8 hf
  refine j_loc [1, 2, 0] rfl ?_
  exact kk8 _ 0 hA hF hL (-1000000) hf

theorem lk_X1_told_21 : Cond.fieldLink RX1 21 (TX1 3).1 (TX1 3).2.1 (TX1 3).2.2.1 ∈ wsX1_told := by decide +kernel
theorem in_X1_told_1 : ∀ w ∈ wsX10, w ∈ wsX1_told := by decide +kernel
theorem lk_X1_told_18 : Cond.fieldLink RX1 18 (TX1 2).1 (TX1 2).2.1 (TX1 2).2.2.1 ∈ wsX1_told := by decide +kernel
theorem lk_X1_told_15 : Cond.fieldLink RX1 15 (TX1 1).1 (TX1 1).2.1 (TX1 1).2.2.1 ∈ wsX1_told := by decide +kernel
theorem lk_X1_told_9 : Cond.fieldLink RX1 9 (TX1 0).1 (TX1 0).2.1 (TX1 0).2.2.1 ∈ wsX1_told := by decide +kernel
def f_X1_told (p1 : Int32) (hA : Int32) (hF : Int32) (hL : Int32) (hS : Int32) : Int32 :=
  if p1 = 0 then hA else if p1 = 1 then hF else if p1 = 2 then hL else (hS + 10000)
abbrev rm_X1_told : Room := { frames := 1, cells := 0, slots := 0, locals := 16 }
theorem k_X1_told : Cf yX1_told wsX1_told rm_X1_told cX1_told 2 (some .int) 1 := ⟨⟨_, rfl⟩, by decide +kernel, by decide +kernel, by decide +kernel⟩
set_option maxRecDepth 100000 in
set_option maxHeartbeats 4000000 in
theorem b_X1_told (G : CG) (hl : (gL G).stackTraces = false) (h1 : Nat) (hA : Int32) (hF : Int32) (hL : Int32) (hS : Int32) (p1 : Int32) (y : Int32) (hf : f_X1_told p1 hA hF hL hS = y) : Ct G yX1_told wsX1_told rm_X1_told [.ref h1, .int p1] [(h1, .inr (1, [.int hA, .int hF, .int hL, .int hS]))] (fin1 (some (.int y)) [(h1, .inr (1, [.int hA, .int hF, .int hL, .int hS]))]) 0 0 := by
  refine Ct.of (cc := cX1_told) (N := 2) (ret := (some .int)) RX1 (by decide) rfl rfl hl (Nat.le_of_ble_eq_true rfl) (lv := [(0, .ref h1), (1, .int p1)]) rfl (fun X hXG C hex hnm hQ => ?_)
  subst hXG
  unfold f_X1_told at hf
  refine j_iload_n C dX1_told_0 rfl 1 rfl ?_
  by_cases e1_0 : p1 = 0
  · have hf := (if_pos e1_0).symm.trans hf
    refine j_tabIn C (off := 27) (tgt := 28) dX1_told_1 (by rw [e1_0]; decide) (by rw [e1_0]; decide) (by rw [e1_0]; decide) (by decide) ?_
    refine j_aload_n C dX1_told_28 rfl 0 rfl ?_
    refine j_get1 C 0 rfl 0 (by decide) in_X1_told_1 lk_X1_told_9 rfl dX1_told_29 ?_
    subst hf
    exact j_iret C hQ rfl dX1_told_32 (Nat.zero_le _) (Nat.zero_le _) ⟨rfl, rfl⟩
  have hf := (if_neg e1_0).symm.trans hf
  by_cases e1_1 : p1 = 1
  · have hf := (if_pos e1_1).symm.trans hf
    refine j_tabIn C (off := 32) (tgt := 33) dX1_told_1 (by rw [e1_1]; decide) (by rw [e1_1]; decide) (by rw [e1_1]; decide) (by decide) ?_
    refine j_aload_n C dX1_told_33 rfl 0 rfl ?_
    refine j_get1 C 0 rfl 1 (by decide) in_X1_told_1 lk_X1_told_15 rfl dX1_told_34 ?_
    subst hf
    exact j_iret C hQ rfl dX1_told_37 (Nat.zero_le _) (Nat.zero_le _) ⟨rfl, rfl⟩
  have hf := (if_neg e1_1).symm.trans hf
  by_cases e1_2 : p1 = 2
  · have hf := (if_pos e1_2).symm.trans hf
    refine j_tabIn C (off := 37) (tgt := 38) dX1_told_1 (by rw [e1_2]; decide) (by rw [e1_2]; decide) (by rw [e1_2]; decide) (by decide) ?_
    refine j_aload_n C dX1_told_38 rfl 0 rfl ?_
    refine j_get1 C 0 rfl 2 (by decide) in_X1_told_1 lk_X1_told_18 rfl dX1_told_39 ?_
    subst hf
    exact j_iret C hQ rfl dX1_told_42 (Nat.zero_le _) (Nat.zero_le _) ⟨rfl, rfl⟩
  have hf := (if_neg e1_2).symm.trans hf
  have t1_0 : p1.toInt ≠ 0 := fun h => e1_0 (Int32.toInt_inj.mp h)
  have t1_1 : p1.toInt ≠ 1 := fun h => e1_1 (Int32.toInt_inj.mp h)
  have t1_2 : p1.toInt ≠ 2 := fun h => e1_2 (Int32.toInt_inj.mp h)
  refine j_tabOut C (tgt := 43) dX1_told_1 (by omega) (by decide) ?_
  refine j_aload_n C dX1_told_43 rfl 0 rfl ?_
  refine j_get1 C 0 rfl 3 (by decide) in_X1_told_1 lk_X1_told_21 rfl dX1_told_44 ?_
  refine j_sipush C (v := 10000) dX1_told_47 (by decide) ?_
  refine j_iadd C dX1_told_50 ?_
  subst hf
  exact j_iret C hQ rfl dX1_told_51 (Nat.zero_le _) (Nat.zero_le _) ⟨rfl, rfl⟩
theorem c_X1_told (G : CG) (hl : (gL G).stackTraces = false) (h1 : Nat) (hA : Int32) (hF : Int32) (hL : Int32) (hS : Int32) (p1 : Int32) : Ct G yX1_told wsX1_told rm_X1_told [.ref h1, .int p1] [(h1, .inr (1, [.int hA, .int hF, .int hL, .int hS]))] (fin1 (some (.int (f_X1_told p1 hA hF hL hS))) [(h1, .inr (1, [.int hA, .int hF, .int hL, .int hS]))]) 0 0 := b_X1_told G hl h1 hA hF hL hS p1 _ rfl

theorem wd_X3_look_k21 : Cond.constant RX3 21 1000000 ∈ wsX3_look := by decide +kernel
theorem lk_X3_look_18 : Cond.fieldLink RX3 18 (TX3 2).1 (TX3 2).2.1 (TX3 2).2.2.1 ∈ wsX3_look := by decide +kernel
theorem in_X3_look_3 : ∀ w ∈ wsX30, w ∈ wsX3_look := by decide +kernel
theorem lk_X3_look_9 : Cond.fieldLink RX3 9 (TX3 0).1 (TX3 0).2.1 (TX3 0).2.2.1 ∈ wsX3_look := by decide +kernel
theorem lk_X3_look_15 : Cond.fieldLink RX3 15 (TX3 1).1 (TX3 1).2.1 (TX3 1).2.2.1 ∈ wsX3_look := by decide +kernel
def f_X3_look_J63 (eA_63 : Int32) (eM_63 : Int32) (eR_63 : Int32) (x22_4 : Int32) : Option ((Int32 × Int32 × Int32 × Int32) ⊕ ((Int32 × Int32 × (Nat → Int32) × (Nat → Int32) × (Nat → Int32) × (Nat → Int32) × Int32 × Int32 × Int32) ⊕ (Int32 × (Nat → Int32) × (Nat → Int32) × (Nat → Int32) × (Nat → Int32) × Int32 × Int32 × Int32))) :=
  some (.inl ((x22_4 + 1), eA_63, eM_63, eR_63))
def f_X3_look_L22 (r16 : Int32 × (Nat → Int32) × (Nat → Int32) × (Nat → Int32) × (Nat → Int32)) (x8_3 : Int32) (x22_4 : Int32) (eA_22 : Int32) (eM_22 : Int32) (eR_22 : Int32) : Option ((Int32 × Int32 × Int32 × Int32) ⊕ ((Int32 × Int32 × (Nat → Int32) × (Nat → Int32) × (Nat → Int32) × (Nat → Int32) × Int32 × Int32 × Int32) ⊕ (Int32 × (Nat → Int32) × (Nat → Int32) × (Nat → Int32) × (Nat → Int32) × Int32 × Int32 × Int32))) :=
  if 64 < x22_4 then some (.inr (.inl ((x8_3 + 1), r16.1, r16.2.1, r16.2.2.1, r16.2.2.2.1, r16.2.2.2.2, eA_22, eM_22, eR_22))) else Option.bind (f_X4_roomOfAll x22_4 r16.1 r16.2.2.1 r16.2.2.2.2) (fun r32 => if eR_22 ≤ r32 then (f_X3_look_J63 eA_22 eM_22 eR_22 x22_4) else (f_X3_look_J63 x8_3 x22_4 r32 x22_4))
def f_X3_look_L8 (vD : Int32) (vN : (Nat → Int32)) (x8_3 : Int32) (lD_8 : Int32) (lS_8 : (Nat → Int32)) (lF_8 : (Nat → Int32)) (lG_8 : (Nat → Int32)) (lR_8 : (Nat → Int32)) (eA_8 : Int32) (eM_8 : Int32) (eR_8 : Int32) : Option ((Int32 × Int32 × (Nat → Int32) × (Nat → Int32) × (Nat → Int32) × (Nat → Int32) × Int32 × Int32 × Int32) ⊕ (Int32 × (Nat → Int32) × (Nat → Int32) × (Nat → Int32) × (Nat → Int32) × Int32 × Int32 × Int32)) :=
  if 3 ≤ x8_3 then some (.inr ((lD_8, lS_8, lF_8, lG_8, lR_8, eA_8, eM_8, eR_8))) else Option.bind (f_X4_look x8_3 vD vN lD_8 lS_8 lF_8 lG_8 lR_8) (fun r16 => dz_it (fun s : Int32 × Int32 × Int32 × Int32 => f_X3_look_L22 r16 x8_3 s.1 s.2.1 s.2.2.1 s.2.2.2) (1, eA_8, eM_8, eR_8))
def f_X3_look (vD : Int32) (vN : (Nat → Int32)) (lD : Int32) (lS : (Nat → Int32)) (lF : (Nat → Int32)) (lG : (Nat → Int32)) (lR : (Nat → Int32)) (eA : Int32) (eM : Int32) : Option (Int32 × (Nat → Int32) × (Nat → Int32) × (Nat → Int32) × (Nat → Int32) × Int32 × Int32 × Int32) :=
  dz_it (fun s : Int32 × Int32 × (Nat → Int32) × (Nat → Int32) × (Nat → Int32) × (Nat → Int32) × Int32 × Int32 × Int32 => f_X3_look_L8 vD vN s.1 s.2.1 s.2.2.1 s.2.2.2.1 s.2.2.2.2.1 s.2.2.2.2.2.1 s.2.2.2.2.2.2.1 s.2.2.2.2.2.2.2.1 s.2.2.2.2.2.2.2.2) (0, lD, lS, lF, lG, lR, eA, eM, 1000000)
abbrev rm_X3_look : Room := { frames := 5, cells := 0, slots := 0, locals := 116 }
theorem k_X3_look : Cf yX3_look wsX3_look rm_X3_look cX3_look 6 none 2 := ⟨⟨_, rfl⟩, by decide +kernel, by decide +kernel, by decide +kernel⟩
set_option maxRecDepth 100000 in
set_option maxHeartbeats 4000000 in
theorem b_X3_look (G : CG) (hl : (gL G).stackTraces = false) (h3 : Nat) (h5 : Nat) (qn : Nat) (qm : Nat) (h4 : Nat) (a1 : Nat) (a2 : Nat) (a3 : Nat) (a4 : Nat) (vD : Int32) (vA : Int32) (vL : Int32) (vN : (Nat → Int32)) (vM : (Nat → Int32)) (lD : Int32) (lS : (Nat → Int32)) (lF : (Nat → Int32)) (lG : (Nat → Int32)) (lR : (Nat → Int32)) (eA : Int32) (eM : Int32) (eR : Int32) (y : Int32 × (Nat → Int32) × (Nat → Int32) × (Nat → Int32) × (Nat → Int32) × Int32 × Int32 × Int32) (hf : f_X3_look vD vN lD lS lF lG lR eA eM = some y) : Ct G yX3_look wsX3_look rm_X3_look [.ref h3, .ref h5, .ref h4] [(h3, .inr (3, [.int eA, .int eM, .int eR])), (h5, .inr (5, [.int vD, .int vA, .int vL, .ref qn, .ref qm])), (qn, .inl (gI G, 512, .inl vN)), (qm, .inl (gI G, 512, .inl vM)), (h4, .inr (4, [.int lD, .ref a1, .ref a2, .ref a3, .ref a4])), (a1, .inl (gI G, 8, .inl lS)), (a2, .inl (gI G, 8, .inl lF)), (a3, .inl (gI G, 8, .inl lG)), (a4, .inl (gI G, 8, .inl lR))] (fin1 none [(h3, .inr (3, [.int y.2.2.2.2.2.1, .int y.2.2.2.2.2.2.1, .int y.2.2.2.2.2.2.2])), (h5, .inr (5, [.int vD, .int vA, .int vL, .ref qn, .ref qm])), (qn, .inl (gI G, 512, .inl vN)), (qm, .inl (gI G, 512, .inl vM)), (h4, .inr (4, [.int y.1, .ref a1, .ref a2, .ref a3, .ref a4])), (a1, .inl (gI G, 8, .inl y.2.1)), (a2, .inl (gI G, 8, .inl y.2.2.1)), (a3, .inl (gI G, 8, .inl y.2.2.2.1)), (a4, .inl (gI G, 8, .inl y.2.2.2.2.1))]) 0 0 := by
  refine Ct.of (cc := cX3_look) (N := 6) (ret := none) RX3 (by decide) rfl rfl hl (Nat.le_of_ble_eq_true rfl) (lv := [(0, .ref h3), (1, .ref h5), (2, .ref h4)]) rfl (fun X hXG C hex hnm hQ => ?_)
  subst hXG
  unfold f_X3_look at hf
  refine j_aload_n C dX3_look_0 rfl 0 rfl ?_
  refine j_ldc C (v := 1000000) dX3_look_1 wd_X3_look_k21 ?_
  refine j_put3 (ty := .int) (ws' := [(h3, .inr (3, [.int eA, .int eM, .int 1000000])), (h5, .inr (5, [.int vD, .int vA, .int vL, .ref qn, .ref qm])), (qn, .inl (gI X.1, 512, .inl vN)), (qm, .inl (gI X.1, 512, .inl vM)), (h4, .inr (4, [.int lD, .ref a1, .ref a2, .ref a3, .ref a4])), (a1, .inl (gI X.1, 8, .inl lS)), (a2, .inl (gI X.1, 8, .inl lF)), (a3, .inl (gI X.1, 8, .inl lG)), (a4, .inl (gI X.1, 8, .inl lR))]) C 0 rfl 2 (by decide) in_X3_look_3 lk_X3_look_18 rfl (by decide +kernel) rfl rfl (Nat.le_of_ble_eq_true rfl) rfl dX3_look_3 ?_
  refine j_iconst C (v := 0) dX3_look_6 (by decide) ?_
  refine j_istore_n (lv' := [(3, .int 0), (0, .ref h3), (1, .ref h5), (2, .ref h4)]) C dX3_look_7 rfl (by decide) rfl ?_
  have kk8 : ∀ (n : Nat) (x8_3 : Int32) (lD_8 : Int32) (lS_8 : (Nat → Int32)) (lF_8 : (Nat → Int32)) (lG_8 : (Nat → Int32)) (lR_8 : (Nat → Int32)) (eA_8 : Int32) (eM_8 : Int32) (eR_8 : Int32), dz_iter n (fun s : Int32 × Int32 × (Nat → Int32) × (Nat → Int32) × (Nat → Int32) × (Nat → Int32) × Int32 × Int32 × Int32 => f_X3_look_L8 vD vN s.1 s.2.1 s.2.2.1 s.2.2.2.1 s.2.2.2.2.1 s.2.2.2.2.2.1 s.2.2.2.2.2.2.1 s.2.2.2.2.2.2.2.1 s.2.2.2.2.2.2.2.2) (x8_3, lD_8, lS_8, lF_8, lG_8, lR_8, eA_8, eM_8, eR_8) = some y → Jt X [(h3, .inr (3, [.int eA_8, .int eM_8, .int eR_8])), (h5, .inr (5, [.int vD, .int vA, .int vL, .ref qn, .ref qm])), (qn, .inl (gI X.1, 512, .inl vN)), (qm, .inl (gI X.1, 512, .inl vM)), (h4, .inr (4, [.int lD_8, .ref a1, .ref a2, .ref a3, .ref a4])), (a1, .inl (gI X.1, 8, .inl lS_8)), (a2, .inl (gI X.1, 8, .inl lF_8)), (a3, .inl (gI X.1, 8, .inl lG_8)), (a4, .inl (gI X.1, 8, .inl lR_8))] 0 0 8 [(0, .ref h3), (1, .ref h5), (2, .ref h4), (3, .int x8_3)] [] := by
    intro n
    induction n with
    | zero => intro x8_3 lD_8 lS_8 lF_8 lG_8 lR_8 eA_8 eM_8 eR_8 hit; exact absurd hit (by simp [dz_iter])
    | succ n ih8 =>
      intro x8_3 lD_8 lS_8 lF_8 lG_8 lR_8 eA_8 eM_8 eR_8 hit
      obtain ⟨y8, hf, hg8⟩ := dz_iter_succ hit
      replace hf : f_X3_look_L8 vD vN x8_3 lD_8 lS_8 lF_8 lG_8 lR_8 eA_8 eM_8 eR_8 = some y8 := hf
      unfold f_X3_look_L8 at hf
      refine j_iload_n C dX3_look_8 rfl 3 rfl ?_
      refine j_iconst C (v := 3) dX3_look_9 (by decide) ?_
      refine j_icmp_ge C (tgt := 75) dX3_look_10 (by decide) (fun e10 => ?_) (fun e10 => ?_)
      · have hf := (if_pos e10).symm.trans hf
        obtain rfl := Option.some.inj hf
        obtain rfl := dz_go_inr hg8
        exact j_vret C hQ rfl dX3_look_75 (Nat.zero_le _) (Nat.zero_le _) ⟨rfl, rfl⟩
      · have hf := (if_neg e10).symm.trans hf
        refine j_aload_n C dX3_look_13 rfl 2 rfl ?_
        refine j_aload_n C dX3_look_14 rfl 1 rfl ?_
        refine j_iload_n C dX3_look_15 rfl 3 rfl ?_
        obtain ⟨r16, hc16, hf⟩ := Option.bind_eq_some_iff.mp hf
        refine j_cV C (b_X4_look X.1 hl h4 a1 a2 a3 a4 h5 qn qm vD vA vL vN vM lD_8 lS_8 lF_8 lG_8 lR_8 x8_3 r16 hc16) k_X4_look gX3_look_X4_look rfl (ci := 4) (q0 := 0) rfl rfl (As := [.ref h5, .int x8_3]) (rest := []) (st' := []) (ws' := [(h3, .inr (3, [.int eA_8, .int eM_8, .int eR_8])), (h5, .inr (5, [.int vD, .int vA, .int vL, .ref qn, .ref qm])), (qn, .inl (gI X.1, 512, .inl vN)), (qm, .inl (gI X.1, 512, .inl vM)), (h4, .inr (4, [.int r16.1, .ref a1, .ref a2, .ref a3, .ref a4])), (a1, .inl (gI X.1, 8, .inl r16.2.1)), (a2, .inl (gI X.1, 8, .inl r16.2.2.1)), (a3, .inl (gI X.1, 8, .inl r16.2.2.2.1)), (a4, .inl (gI X.1, 8, .inl r16.2.2.2.2))]) rfl rfl dX3_look_16 [4, 5, 6, 7, 8, 1, 2, 3] [0] [0, 6, 7, 8, 1, 2, 3, 4, 5] rfl rfl rfl rfl rfl rfl ?_
        refine j_iconst C (v := 1) dX3_look_19 (by decide) ?_
        refine j_istore (lv' := [(4, .int 1), (0, .ref h3), (1, .ref h5), (2, .ref h4), (3, .int x8_3)]) C dX3_look_20 (by decide) rfl ?_
        have kk22 : ∀ (n : Nat) (x22_4 : Int32) (eA_22 : Int32) (eM_22 : Int32) (eR_22 : Int32), dz_iter n (fun s : Int32 × Int32 × Int32 × Int32 => f_X3_look_L22 r16 x8_3 s.1 s.2.1 s.2.2.1 s.2.2.2) (x22_4, eA_22, eM_22, eR_22) = some y8 → Jt X [(h3, .inr (3, [.int eA_22, .int eM_22, .int eR_22])), (h5, .inr (5, [.int vD, .int vA, .int vL, .ref qn, .ref qm])), (qn, .inl (gI X.1, 512, .inl vN)), (qm, .inl (gI X.1, 512, .inl vM)), (h4, .inr (4, [.int r16.1, .ref a1, .ref a2, .ref a3, .ref a4])), (a1, .inl (gI X.1, 8, .inl r16.2.1)), (a2, .inl (gI X.1, 8, .inl r16.2.2.1)), (a3, .inl (gI X.1, 8, .inl r16.2.2.2.1)), (a4, .inl (gI X.1, 8, .inl r16.2.2.2.2))] 0 0 22 [(0, .ref h3), (1, .ref h5), (2, .ref h4), (3, .int x8_3), (4, .int x22_4)] [] := by
          intro n
          induction n with
          | zero => intro x22_4 eA_22 eM_22 eR_22 hit; exact absurd hit (by simp [dz_iter])
          | succ n ih22 =>
            intro x22_4 eA_22 eM_22 eR_22 hit
            obtain ⟨y22, hf, hg22⟩ := dz_iter_succ hit
            replace hf : f_X3_look_L22 r16 x8_3 x22_4 eA_22 eM_22 eR_22 = some y22 := hf
            unfold f_X3_look_L22 at hf
            refine j_iload C dX3_look_22 4 rfl ?_
            refine j_bipush C (v := 64) dX3_look_24 (by decide) ?_
            refine j_icmp_gt C (tgt := 69) dX3_look_26 (by decide) (fun e26 => ?_) (fun e26 => ?_)
            · have hf := (if_pos e26).symm.trans hf
              refine j_iinc (v := (x8_3 + 1)) (lv' := [(3, .int (x8_3 + 1)), (0, .ref h3), (1, .ref h5), (2, .ref h4), (4, .int x22_4)]) C dX3_look_69 3 rfl (by first | rfl | decide) (by decide) rfl ?_
              refine j_goto C (tgt := 8) dX3_look_72 (by decide) ?_
              obtain rfl := Option.some.inj hf
              obtain rfl := dz_go_inr hg22
              have hf := dz_go_inl hg8
              refine j_loc [1, 2, 3, 0] rfl ?_
              exact ih8 (x8_3 + 1) r16.1 r16.2.1 r16.2.2.1 r16.2.2.2.1 r16.2.2.2.2 eA_22 eM_22 eR_22 hf
            · have hf := (if_neg e26).symm.trans hf
              refine j_aload_n C dX3_look_29 rfl 2 rfl ?_
              refine j_iload C dX3_look_30 4 rfl ?_
              obtain ⟨r32, hc32, hf⟩ := Option.bind_eq_some_iff.mp hf
              refine j_cV C (b_X4_roomOfAll X.1 hl h4 a1 a2 a3 a4 r16.1 r16.2.1 r16.2.2.1 r16.2.2.2.1 r16.2.2.2.2 x22_4 r32 hc32) k_X4_roomOfAll gX3_look_X4_roomOfAll rfl (ci := 4) (q0 := 0) rfl rfl (As := [.int x22_4]) (rest := []) (st' := [.int r32]) (ws' := [(h3, .inr (3, [.int eA_22, .int eM_22, .int eR_22])), (h5, .inr (5, [.int vD, .int vA, .int vL, .ref qn, .ref qm])), (qn, .inl (gI X.1, 512, .inl vN)), (qm, .inl (gI X.1, 512, .inl vM)), (h4, .inr (4, [.int r16.1, .ref a1, .ref a2, .ref a3, .ref a4])), (a1, .inl (gI X.1, 8, .inl r16.2.1)), (a2, .inl (gI X.1, 8, .inl r16.2.2.1)), (a3, .inl (gI X.1, 8, .inl r16.2.2.2.1)), (a4, .inl (gI X.1, 8, .inl r16.2.2.2.2))]) rfl rfl dX3_look_32 [4, 5, 6, 7, 8] [0, 1, 2, 3] [0, 1, 2, 3, 4, 5, 6, 7, 8] rfl rfl rfl rfl rfl rfl ?_
              refine j_istore (lv' := [(5, .int r32), (0, .ref h3), (1, .ref h5), (2, .ref h4), (3, .int x8_3), (4, .int x22_4)]) C dX3_look_35 (by decide) rfl ?_
              refine j_iload C dX3_look_37 0 rfl ?_
              refine j_aload_n C dX3_look_39 rfl 1 rfl ?_
              refine j_get3 C 0 rfl 2 (by decide) in_X3_look_3 lk_X3_look_18 rfl dX3_look_40 ?_
              have k63 : ∀ (eA_63 : Int32) (eM_63 : Int32) (eR_63 : Int32), f_X3_look_J63 eA_63 eM_63 eR_63 x22_4 = some y22 → Jt X [(h3, .inr (3, [.int eA_63, .int eM_63, .int eR_63])), (h5, .inr (5, [.int vD, .int vA, .int vL, .ref qn, .ref qm])), (qn, .inl (gI X.1, 512, .inl vN)), (qm, .inl (gI X.1, 512, .inl vM)), (h4, .inr (4, [.int r16.1, .ref a1, .ref a2, .ref a3, .ref a4])), (a1, .inl (gI X.1, 8, .inl r16.2.1)), (a2, .inl (gI X.1, 8, .inl r16.2.2.1)), (a3, .inl (gI X.1, 8, .inl r16.2.2.2.1)), (a4, .inl (gI X.1, 8, .inl r16.2.2.2.2))] 0 0 63 [(0, .ref h3), (1, .ref h5), (2, .ref h4), (3, .int x8_3), (4, .int x22_4), (5, .int r32)] [] := by
                intro eA_63 eM_63 eR_63 hf
                unfold f_X3_look_J63 at hf
                refine j_iinc (v := (x22_4 + 1)) (lv' := [(4, .int (x22_4 + 1)), (0, .ref h3), (1, .ref h5), (2, .ref h4), (3, .int x8_3), (5, .int r32)]) C dX3_look_63 4 rfl (by first | rfl | decide) (by decide) rfl ?_
                refine j_goto C (tgt := 22) dX3_look_66 (by decide) ?_
                obtain rfl := Option.some.inj hf
                have hf := dz_go_inl hg22
                refine j_loc [1, 2, 3, 4, 0] rfl ?_
                exact ih22 (x22_4 + 1) eA_63 eM_63 eR_63 hf
              refine j_icmp_ge C (tgt := 63) dX3_look_43 (by decide) (fun e43 => ?_) (fun e43 => ?_)
              · have hf := (if_pos e43).symm.trans hf
                refine j_loc [1, 2, 3, 4, 5, 0] rfl ?_
                exact k63 eA_22 eM_22 eR_22 hf
              · have hf := (if_neg e43).symm.trans hf
                refine j_aload_n C dX3_look_46 rfl 1 rfl ?_
                refine j_iload_n C dX3_look_47 rfl 4 rfl ?_
                refine j_put3 (ty := .int) (ws' := [(h3, .inr (3, [.int x8_3, .int eM_22, .int eR_22])), (h5, .inr (5, [.int vD, .int vA, .int vL, .ref qn, .ref qm])), (qn, .inl (gI X.1, 512, .inl vN)), (qm, .inl (gI X.1, 512, .inl vM)), (h4, .inr (4, [.int r16.1, .ref a1, .ref a2, .ref a3, .ref a4])), (a1, .inl (gI X.1, 8, .inl r16.2.1)), (a2, .inl (gI X.1, 8, .inl r16.2.2.1)), (a3, .inl (gI X.1, 8, .inl r16.2.2.2.1)), (a4, .inl (gI X.1, 8, .inl r16.2.2.2.2))]) C 0 rfl 0 (by decide) in_X3_look_3 lk_X3_look_9 rfl (by decide +kernel) rfl rfl (Nat.le_of_ble_eq_true rfl) rfl dX3_look_48 ?_
                refine j_aload_n C dX3_look_51 rfl 1 rfl ?_
                refine j_iload C dX3_look_52 5 rfl ?_
                refine j_put3 (ty := .int) (ws' := [(h3, .inr (3, [.int x8_3, .int x22_4, .int eR_22])), (h5, .inr (5, [.int vD, .int vA, .int vL, .ref qn, .ref qm])), (qn, .inl (gI X.1, 512, .inl vN)), (qm, .inl (gI X.1, 512, .inl vM)), (h4, .inr (4, [.int r16.1, .ref a1, .ref a2, .ref a3, .ref a4])), (a1, .inl (gI X.1, 8, .inl r16.2.1)), (a2, .inl (gI X.1, 8, .inl r16.2.2.1)), (a3, .inl (gI X.1, 8, .inl r16.2.2.2.1)), (a4, .inl (gI X.1, 8, .inl r16.2.2.2.2))]) C 0 rfl 1 (by decide) in_X3_look_3 lk_X3_look_15 rfl (by decide +kernel) rfl rfl (Nat.le_of_ble_eq_true rfl) rfl dX3_look_54 ?_
                refine j_aload_n C dX3_look_57 rfl 1 rfl ?_
                refine j_iload C dX3_look_58 0 rfl ?_
                refine j_put3 (ty := .int) (ws' := [(h3, .inr (3, [.int x8_3, .int x22_4, .int r32])), (h5, .inr (5, [.int vD, .int vA, .int vL, .ref qn, .ref qm])), (qn, .inl (gI X.1, 512, .inl vN)), (qm, .inl (gI X.1, 512, .inl vM)), (h4, .inr (4, [.int r16.1, .ref a1, .ref a2, .ref a3, .ref a4])), (a1, .inl (gI X.1, 8, .inl r16.2.1)), (a2, .inl (gI X.1, 8, .inl r16.2.2.1)), (a3, .inl (gI X.1, 8, .inl r16.2.2.2.1)), (a4, .inl (gI X.1, 8, .inl r16.2.2.2.2))]) C 0 rfl 2 (by decide) in_X3_look_3 lk_X3_look_18 rfl (by decide +kernel) rfl rfl (Nat.le_of_ble_eq_true rfl) rfl dX3_look_60 ?_
                refine j_loc [1, 2, 3, 4, 5, 0] rfl ?_
                exact k63 x8_3 x22_4 r32 hf
        refine j_loc [1, 2, 3, 4, 0] rfl ?_
        exact kk22 _ 1 eA_8 eM_8 eR_8 hf
  refine j_loc [1, 2, 3, 0] rfl ?_
  exact kk8 _ 0 lD lS lF lG lR eA eM 1000000 hf

theorem lk_X3_told_18 : Cond.fieldLink RX3 18 (TX3 2).1 (TX3 2).2.1 (TX3 2).2.2.1 ∈ wsX3_told := by decide +kernel
theorem in_X3_told_3 : ∀ w ∈ wsX30, w ∈ wsX3_told := by decide +kernel
theorem lk_X3_told_15 : Cond.fieldLink RX3 15 (TX3 1).1 (TX3 1).2.1 (TX3 1).2.2.1 ∈ wsX3_told := by decide +kernel
theorem lk_X3_told_9 : Cond.fieldLink RX3 9 (TX3 0).1 (TX3 0).2.1 (TX3 0).2.2.1 ∈ wsX3_told := by decide +kernel
def f_X3_told (p1 : Int32) (eA : Int32) (eM : Int32) (eR : Int32) : Int32 :=
  if p1 = 0 then eA else if p1 = 1 then eM else eR
abbrev rm_X3_told : Room := { frames := 1, cells := 0, slots := 0, locals := 16 }
theorem k_X3_told : Cf yX3_told wsX3_told rm_X3_told cX3_told 2 (some .int) 1 := ⟨⟨_, rfl⟩, by decide +kernel, by decide +kernel, by decide +kernel⟩
set_option maxRecDepth 100000 in
set_option maxHeartbeats 4000000 in
theorem b_X3_told (G : CG) (hl : (gL G).stackTraces = false) (h3 : Nat) (eA : Int32) (eM : Int32) (eR : Int32) (p1 : Int32) (y : Int32) (hf : f_X3_told p1 eA eM eR = y) : Ct G yX3_told wsX3_told rm_X3_told [.ref h3, .int p1] [(h3, .inr (3, [.int eA, .int eM, .int eR]))] (fin1 (some (.int y)) [(h3, .inr (3, [.int eA, .int eM, .int eR]))]) 0 0 := by
  refine Ct.of (cc := cX3_told) (N := 2) (ret := (some .int)) RX3 (by decide) rfl rfl hl (Nat.le_of_ble_eq_true rfl) (lv := [(0, .ref h3), (1, .int p1)]) rfl (fun X hXG C hex hnm hQ => ?_)
  subst hXG
  unfold f_X3_told at hf
  refine j_iload_n C dX3_told_0 rfl 1 rfl ?_
  by_cases e1_0 : p1 = 0
  · have hf := (if_pos e1_0).symm.trans hf
    refine j_lookup C (off := 27) (tgt := 28) dX3_told_1 (by decide) (by rw [e1_0]; decide) (by decide) ?_
    refine j_aload_n C dX3_told_28 rfl 0 rfl ?_
    refine j_get3 C 0 rfl 0 (by decide) in_X3_told_3 lk_X3_told_9 rfl dX3_told_29 ?_
    subst hf
    exact j_iret C hQ rfl dX3_told_32 (Nat.zero_le _) (Nat.zero_le _) ⟨rfl, rfl⟩
  have hf := (if_neg e1_0).symm.trans hf
  by_cases e1_1 : p1 = 1
  · have hf := (if_pos e1_1).symm.trans hf
    refine j_lookup C (off := 32) (tgt := 33) dX3_told_1 (by decide) (by rw [e1_1]; decide) (by decide) ?_
    refine j_aload_n C dX3_told_33 rfl 0 rfl ?_
    refine j_get3 C 0 rfl 1 (by decide) in_X3_told_3 lk_X3_told_15 rfl dX3_told_34 ?_
    subst hf
    exact j_iret C hQ rfl dX3_told_37 (Nat.zero_le _) (Nat.zero_le _) ⟨rfl, rfl⟩
  have hf := (if_neg e1_1).symm.trans hf
  have t1_0 : p1.toInt ≠ 0 := fun h => e1_0 (Int32.toInt_inj.mp h)
  have t1_1 : p1.toInt ≠ 1 := fun h => e1_1 (Int32.toInt_inj.mp h)
  refine j_lookup C (off := 37) (tgt := 38) dX3_told_1 (by decide) (by simp [Op.lookupswitch.offset, Ne.symm t1_0, Ne.symm t1_1]) (by decide) ?_
  refine j_aload_n C dX3_told_38 rfl 0 rfl ?_
  refine j_get3 C 0 rfl 2 (by decide) in_X3_told_3 lk_X3_told_18 rfl dX3_told_39 ?_
  subst hf
  exact j_iret C hQ rfl dX3_told_42 (Nat.zero_le _) (Nat.zero_le _) ⟨rfl, rfl⟩
theorem c_X3_told (G : CG) (hl : (gL G).stackTraces = false) (h3 : Nat) (eA : Int32) (eM : Int32) (eR : Int32) (p1 : Int32) : Ct G yX3_told wsX3_told rm_X3_told [.ref h3, .int p1] [(h3, .inr (3, [.int eA, .int eM, .int eR]))] (fin1 (some (.int (f_X3_told p1 eA eM eR))) [(h3, .inr (3, [.int eA, .int eM, .int eR]))]) 0 0 := b_X3_told G hl h3 eA eM eR p1 _ rfl

end
