noncomputable section
theorem in_X4_lookAt_5 : ∀ w ∈ wsX50, w ∈ wsX4_lookAt := by decide +kernel
theorem lk_X4_lookAt_9 : Cond.fieldLink RX4 9 (TX4 0).1 (TX4 0).2.1 (TX4 0).2.2.1 ∈ wsX4_lookAt := by decide +kernel
theorem in_X4_lookAt_4 : ∀ w ∈ wsX40, w ∈ wsX4_lookAt := by decide +kernel
theorem wd_X4_lookAt_m49 : Cond.methodLink RX4 49 Lib.Math.max.name ∈ wsX4_lookAt := by decide +kernel
theorem wd_X4_lookAt_smax : Cond.static Lib.Math.max.name ∈ wsX4_lookAt := by decide +kernel
theorem wd_X4_lookAt_iMath : Cond.initialized "java/lang/Math" ∈ wsX4_lookAt := by decide +kernel
theorem wd_X4_lookAt_cmax : Cond.code Lib.Math.max.name Lib.Math.max.code 2 (some .int) ∈ wsX4_lookAt := by decide +kernel
theorem lk_X4_lookAt_15 : Cond.fieldLink RX4 15 (TX4 1).1 (TX4 1).2.1 (TX4 1).2.2.1 ∈ wsX4_lookAt := by decide +kernel
theorem lk_X4_lookAt_19 : Cond.fieldLink RX4 19 (TX4 2).1 (TX4 2).2.1 (TX4 2).2.2.1 ∈ wsX4_lookAt := by decide +kernel
theorem lk_X4_lookAt_22 : Cond.fieldLink RX4 22 (TX4 3).1 (TX4 3).2.1 (TX4 3).2.2.1 ∈ wsX4_lookAt := by decide +kernel
theorem lk_X4_lookAt_25 : Cond.fieldLink RX4 25 (TX4 4).1 (TX4 4).2.1 (TX4 4).2.2.1 ∈ wsX4_lookAt := by decide +kernel
theorem wd_X4_lookAt_ini_X7 : Cond.initialized RX7 ∈ wsX4_lookAt := by decide +kernel
theorem wd_X4_lookAt_sta_X7_formerOf : Cond.static yX7_formerOf ∈ wsX4_lookAt := by decide +kernel
theorem wd_X4_lookAt_sta_X7_setCell : Cond.static yX7_setCell ∈ wsX4_lookAt := by decide +kernel
def f_X4_lookAt_J133 (p2 : Int32) (vD : Int32) (vN : (Nat → Int32)) (s133_0 : Int32) (x123_5 : Int32) (x123_7 : Int32) (x60_11 : Int32) (x60_12 : Int32) (x60_4 : Int32) (x60_6 : Int32) : Option ((Int32 × Int32 × Int32 × Int32 × Int32 × Int32 × Int32) ⊕ ((Int32 × Int32 × Int32 × Int32 × Int32 × Int32) ⊕ (Int32 × (Nat → Int32) × (Nat → Int32) × (Nat → Int32) × (Nat → Int32)))) :=
  some (.inl ((x60_4 + (f_X5_number x60_11 vN)), x123_5, (jmax x60_6 (f_X5_number x60_11 vN)), x123_7, s133_0, (x60_11 + (f_X5_step (f_X7_formerOf p2) vD)), (x60_12 + 1)))
def f_X4_lookAt_J123 (p2 : Int32) (vD : Int32) (vN : (Nat → Int32)) (x123_5 : Int32) (x123_7 : Int32) (x60_11 : Int32) (x60_12 : Int32) (x60_4 : Int32) (x60_6 : Int32) : Option ((Int32 × Int32 × Int32 × Int32 × Int32 × Int32 × Int32) ⊕ ((Int32 × Int32 × Int32 × Int32 × Int32 × Int32) ⊕ (Int32 × (Nat → Int32) × (Nat → Int32) × (Nat → Int32) × (Nat → Int32)))) :=
  if (f_X5_number x60_11 vN) = 0 then (f_X4_lookAt_J133 p2 vD vN 0 x123_5 x123_7 x60_11 x60_12 x60_4 x60_6) else (f_X4_lookAt_J133 p2 vD vN 1 x123_5 x123_7 x60_11 x60_12 x60_4 x60_6)
def f_X4_lookAt_J120 (p2 : Int32) (vD : Int32) (vN : (Nat → Int32)) (s120_0 : Int32) (x60_11 : Int32) (x60_12 : Int32) (x60_4 : Int32) (x60_5 : Int32) (x60_6 : Int32) (x60_7 : Int32) : Option ((Int32 × Int32 × Int32 × Int32 × Int32 × Int32 × Int32) ⊕ ((Int32 × Int32 × Int32 × Int32 × Int32 × Int32) ⊕ (Int32 × (Nat → Int32) × (Nat → Int32) × (Nat → Int32) × (Nat → Int32)))) :=
  (f_X4_lookAt_J123 p2 vD vN (x60_5 + 1) (x60_7 + s120_0) x60_11 x60_12 x60_4 x60_6)
def f_X4_lookAt_L60 (p2 : Int32) (vD : Int32) (vN : (Nat → Int32)) (x38_10 : Int32) (x60_4 : Int32) (x60_5 : Int32) (x60_6 : Int32) (x60_7 : Int32) (x60_8 : Int32) (x60_11 : Int32) (x60_12 : Int32) : Option ((Int32 × Int32 × Int32 × Int32 × Int32 × Int32 × Int32) ⊕ ((Int32 × Int32 × Int32 × Int32 × Int32 × Int32) ⊕ (Int32 × (Nat → Int32) × (Nat → Int32) × (Nat → Int32) × (Nat → Int32)))) :=
  if vD ≤ x60_12 then some (.inr (.inl (x60_4, x60_5, x60_6, x60_7, x60_8, (x38_10 + 1)))) else if (f_X5_number x60_11 vN) = 0 then (f_X4_lookAt_J123 p2 vD vN x60_5 x60_7 x60_11 x60_12 x60_4 x60_6) else if x60_8 = 0 then (f_X4_lookAt_J120 p2 vD vN 2 x60_11 x60_12 x60_4 x60_5 x60_6 x60_7) else (f_X4_lookAt_J120 p2 vD vN 1 x60_11 x60_12 x60_4 x60_5 x60_6 x60_7)
def f_X4_lookAt_L38 (p2 : Int32) (p3 : Int32) (vD : Int32) (vN : (Nat → Int32)) (lS : (Nat → Int32)) (lF : (Nat → Int32)) (lG : (Nat → Int32)) (lR : (Nat → Int32)) (x38_4 : Int32) (x38_5 : Int32) (x38_6 : Int32) (x38_7 : Int32) (x38_8 : Int32) (x38_10 : Int32) : Option ((Int32 × Int32 × Int32 × Int32 × Int32 × Int32) ⊕ (Int32 × (Nat → Int32) × (Nat → Int32) × (Nat → Int32) × (Nat → Int32))) :=
  if vD ≤ x38_10 then some (.inr ((vD, (f_X7_setCell 8 lS p3 x38_4), (f_X7_setCell 8 lF p3 x38_5), (f_X7_setCell 8 lG p3 x38_6), (f_X7_setCell 8 lR p3 x38_7)))) else dz_it (fun s : Int32 × Int32 × Int32 × Int32 × Int32 × Int32 × Int32 => f_X4_lookAt_L60 p2 vD vN x38_10 s.1 s.2.1 s.2.2.1 s.2.2.2.1 s.2.2.2.2.1 s.2.2.2.2.2.1 s.2.2.2.2.2.2) (x38_4, x38_5, x38_6, x38_7, x38_8, (f_X5_rowStart p2 p3 x38_10 vD), 0)
def f_X4_lookAt (p2 : Int32) (p3 : Int32) (vD : Int32) (vN : (Nat → Int32)) (lS : (Nat → Int32)) (lF : (Nat → Int32)) (lG : (Nat → Int32)) (lR : (Nat → Int32)) : Option (Int32 × (Nat → Int32) × (Nat → Int32) × (Nat → Int32) × (Nat → Int32)) :=
  dz_it (fun s : Int32 × Int32 × Int32 × Int32 × Int32 × Int32 => f_X4_lookAt_L38 p2 p3 vD vN lS lF lG lR s.1 s.2.1 s.2.2.1 s.2.2.2.1 s.2.2.2.2.1 s.2.2.2.2.2) (0, 0, (-999), 1, 0, 0)
abbrev rm_X4_lookAt : Room := { frames := 3, cells := 0, slots := 0, locals := 60 }
theorem k_X4_lookAt : Cf yX4_lookAt wsX4_lookAt rm_X4_lookAt cX4_lookAt 14 none 3 := ⟨⟨_, rfl⟩, by decide +kernel, by decide +kernel, by decide +kernel⟩
set_option maxRecDepth 100000 in
set_option maxHeartbeats 4000000 in
theorem b_X4_lookAt (G : CG) (hl : (gL G).stackTraces = false) (h4 : Nat) (a1 : Nat) (a2 : Nat) (a3 : Nat) (a4 : Nat) (h5 : Nat) (qn : Nat) (qm : Nat) (vD : Int32) (vA : Int32) (vL : Int32) (vN : (Nat → Int32)) (vM : (Nat → Int32)) (lD : Int32) (lS : (Nat → Int32)) (lF : (Nat → Int32)) (lG : (Nat → Int32)) (lR : (Nat → Int32)) (p2 : Int32) (p3 : Int32) (y : Int32 × (Nat → Int32) × (Nat → Int32) × (Nat → Int32) × (Nat → Int32)) (hf : f_X4_lookAt p2 p3 vD vN lS lF lG lR = some y) : Ct G yX4_lookAt wsX4_lookAt rm_X4_lookAt [.ref h4, .ref h5, .int p2, .int p3] [(h4, .inr (4, [.int lD, .ref a1, .ref a2, .ref a3, .ref a4])), (a1, .inl (gI G, 8, .inl lS)), (a2, .inl (gI G, 8, .inl lF)), (a3, .inl (gI G, 8, .inl lG)), (a4, .inl (gI G, 8, .inl lR)), (h5, .inr (5, [.int vD, .int vA, .int vL, .ref qn, .ref qm])), (qn, .inl (gI G, 512, .inl vN)), (qm, .inl (gI G, 512, .inl vM))] (fin1 none [(h4, .inr (4, [.int y.1, .ref a1, .ref a2, .ref a3, .ref a4])), (a1, .inl (gI G, 8, .inl y.2.1)), (a2, .inl (gI G, 8, .inl y.2.2.1)), (a3, .inl (gI G, 8, .inl y.2.2.2.1)), (a4, .inl (gI G, 8, .inl y.2.2.2.2)), (h5, .inr (5, [.int vD, .int vA, .int vL, .ref qn, .ref qm])), (qn, .inl (gI G, 512, .inl vN)), (qm, .inl (gI G, 512, .inl vM))]) 0 0 := by
  refine Ct.of (cc := cX4_lookAt) (N := 14) (ret := none) RX4 (by decide) rfl rfl hl (Nat.le_of_ble_eq_true rfl) (lv := [(0, .ref h4), (1, .ref h5), (2, .int p2), (3, .int p3)]) rfl (fun X hXG C hex hnm hQ => ?_)
  subst hXG
  unfold f_X4_lookAt at hf
  refine j_aload_n C dX4_lookAt_0 rfl 0 rfl ?_
  refine j_aload_n C dX4_lookAt_1 rfl 1 rfl ?_
  refine j_getN5 C 5 rfl 0 (by decide) in_X4_lookAt_5 nw_X4_28 rfl dX4_lookAt_2 ?_
  refine j_put4 (ty := .int) (ws' := [(h4, .inr (4, [.int vD, .ref a1, .ref a2, .ref a3, .ref a4])), (a1, .inl (gI X.1, 8, .inl lS)), (a2, .inl (gI X.1, 8, .inl lF)), (a3, .inl (gI X.1, 8, .inl lG)), (a4, .inl (gI X.1, 8, .inl lR)), (h5, .inr (5, [.int vD, .int vA, .int vL, .ref qn, .ref qm])), (qn, .inl (gI X.1, 512, .inl vN)), (qm, .inl (gI X.1, 512, .inl vM))]) C 0 rfl 0 (by decide) in_X4_lookAt_4 lk_X4_lookAt_9 rfl (by decide +kernel) rfl rfl (Nat.le_of_ble_eq_true rfl) rfl dX4_lookAt_5 ?_
  refine j_iconst C (v := 0) dX4_lookAt_8 (by decide) ?_
  refine j_istore (lv' := [(4, .int 0), (0, .ref h4), (1, .ref h5), (2, .int p2), (3, .int p3)]) C dX4_lookAt_9 (by decide) rfl ?_
  refine j_iconst C (v := 0) dX4_lookAt_11 (by decide) ?_
  refine j_istore (lv' := [(5, .int 0), (4, .int 0), (0, .ref h4), (1, .ref h5), (2, .int p2), (3, .int p3)]) C dX4_lookAt_12 (by decide) rfl ?_
  refine j_sipush C (v := (-999)) dX4_lookAt_14 (by decide) ?_
  refine j_istore (lv' := [(6, .int (-999)), (5, .int 0), (4, .int 0), (0, .ref h4), (1, .ref h5), (2, .int p2), (3, .int p3)]) C dX4_lookAt_17 (by decide) rfl ?_
  refine j_iconst C (v := 1) dX4_lookAt_19 (by decide) ?_
  refine j_istore (lv' := [(7, .int 1), (6, .int (-999)), (5, .int 0), (4, .int 0), (0, .ref h4), (1, .ref h5), (2, .int p2), (3, .int p3)]) C dX4_lookAt_20 (by decide) rfl ?_
  refine j_iconst C (v := 0) dX4_lookAt_22 (by decide) ?_
  refine j_istore (lv' := [(8, .int 0), (7, .int 1), (6, .int (-999)), (5, .int 0), (4, .int 0), (0, .ref h4), (1, .ref h5), (2, .int p2), (3, .int p3)]) C dX4_lookAt_23 (by decide) rfl ?_
  refine j_aload_n C dX4_lookAt_25 rfl 6 rfl ?_
  refine j_iload_n C dX4_lookAt_26 rfl 7 rfl ?_
  refine j_cN C (c_X7_formerOf X.1 hl p2) k_X7_formerOf gX4_lookAt_X7_formerOf_n35 nw_X4_35 wd_X4_lookAt_ini_X7 wd_X4_lookAt_sta_X7_formerOf (As := [.int p2]) (rest := [.ref h5]) (st' := [.int (f_X7_formerOf p2), .ref h5]) (ws' := [(h4, .inr (4, [.int vD, .ref a1, .ref a2, .ref a3, .ref a4])), (a1, .inl (gI X.1, 8, .inl lS)), (a2, .inl (gI X.1, 8, .inl lF)), (a3, .inl (gI X.1, 8, .inl lG)), (a4, .inl (gI X.1, 8, .inl lR)), (h5, .inr (5, [.int vD, .int vA, .int vL, .ref qn, .ref qm])), (qn, .inl (gI X.1, 512, .inl vN)), (qm, .inl (gI X.1, 512, .inl vM))]) rfl rfl dX4_lookAt_27 [] [0, 1, 2, 3, 4, 5, 6, 7] [0, 1, 2, 3, 4, 5, 6, 7] rfl rfl rfl rfl rfl rfl ?_
  refine j_cV C (c_X5_step X.1 hl h5 qn qm vD vA vL vN vM (f_X7_formerOf p2)) k_X5_step gX4_lookAt_X5_step rfl (ci := 5) (q0 := 0) rfl rfl (As := [.int (f_X7_formerOf p2)]) (rest := []) (st' := [.int (f_X5_step (f_X7_formerOf p2) vD)]) (ws' := [(h4, .inr (4, [.int vD, .ref a1, .ref a2, .ref a3, .ref a4])), (a1, .inl (gI X.1, 8, .inl lS)), (a2, .inl (gI X.1, 8, .inl lF)), (a3, .inl (gI X.1, 8, .inl lG)), (a4, .inl (gI X.1, 8, .inl lR)), (h5, .inr (5, [.int vD, .int vA, .int vL, .ref qn, .ref qm])), (qn, .inl (gI X.1, 512, .inl vN)), (qm, .inl (gI X.1, 512, .inl vM))]) rfl rfl dX4_lookAt_30 [5, 6, 7] [0, 1, 2, 3, 4] [0, 1, 2, 3, 4, 5, 6, 7] rfl rfl rfl rfl rfl rfl ?_
  refine j_istore (lv' := [(9, .int (f_X5_step (f_X7_formerOf p2) vD)), (8, .int 0), (7, .int 1), (6, .int (-999)), (5, .int 0), (4, .int 0), (0, .ref h4), (1, .ref h5), (2, .int p2), (3, .int p3)]) C dX4_lookAt_33 (by decide) rfl ?_
  refine j_iconst C (v := 0) dX4_lookAt_35 (by decide) ?_
  refine j_istore (lv' := [(10, .int 0), (9, .int (f_X5_step (f_X7_formerOf p2) vD)), (8, .int 0), (7, .int 1), (6, .int (-999)), (5, .int 0), (4, .int 0), (0, .ref h4), (1, .ref h5), (2, .int p2), (3, .int p3)]) C dX4_lookAt_36 (by decide) rfl ?_
  have kk38 : ∀ (n : Nat) (x38_4 : Int32) (x38_5 : Int32) (x38_6 : Int32) (x38_7 : Int32) (x38_8 : Int32) (x38_10 : Int32), dz_iter n (fun s : Int32 × Int32 × Int32 × Int32 × Int32 × Int32 => f_X4_lookAt_L38 p2 p3 vD vN lS lF lG lR s.1 s.2.1 s.2.2.1 s.2.2.2.1 s.2.2.2.2.1 s.2.2.2.2.2) (x38_4, x38_5, x38_6, x38_7, x38_8, x38_10) = some y → Jt X [(h4, .inr (4, [.int vD, .ref a1, .ref a2, .ref a3, .ref a4])), (a1, .inl (gI X.1, 8, .inl lS)), (a2, .inl (gI X.1, 8, .inl lF)), (a3, .inl (gI X.1, 8, .inl lG)), (a4, .inl (gI X.1, 8, .inl lR)), (h5, .inr (5, [.int vD, .int vA, .int vL, .ref qn, .ref qm])), (qn, .inl (gI X.1, 512, .inl vN)), (qm, .inl (gI X.1, 512, .inl vM))] 0 0 38 [(0, .ref h4), (1, .ref h5), (2, .int p2), (3, .int p3), (4, .int x38_4), (5, .int x38_5), (6, .int x38_6), (7, .int x38_7), (8, .int x38_8), (9, .int (f_X5_step (f_X7_formerOf p2) vD)), (10, .int x38_10)] [] := by
    intro n
    induction n with
    | zero => intro x38_4 x38_5 x38_6 x38_7 x38_8 x38_10 hit; exact absurd hit (by simp [dz_iter])
    | succ n ih38 =>
      intro x38_4 x38_5 x38_6 x38_7 x38_8 x38_10 hit
      obtain ⟨y38, hf, hg38⟩ := dz_iter_succ hit
      replace hf : f_X4_lookAt_L38 p2 p3 vD vN lS lF lG lR x38_4 x38_5 x38_6 x38_7 x38_8 x38_10 = some y38 := hf
      unfold f_X4_lookAt_L38 at hf
      refine j_iload C dX4_lookAt_38 10 rfl ?_
      refine j_aload_n C dX4_lookAt_40 rfl 0 rfl ?_
      refine j_get4 C 0 rfl 0 (by decide) in_X4_lookAt_4 lk_X4_lookAt_9 rfl dX4_lookAt_41 ?_
      refine j_icmp_ge C (tgt := 147) dX4_lookAt_44 (by decide) (fun e44 => ?_) (fun e44 => ?_)
      · have hf := (if_pos e44).symm.trans hf
        refine j_aload_n C dX4_lookAt_147 rfl 0 rfl ?_
        refine j_get4 C 0 rfl 1 (by decide) in_X4_lookAt_4 lk_X4_lookAt_15 rfl dX4_lookAt_148 ?_
        refine j_iload_n C dX4_lookAt_151 rfl 3 rfl ?_
        refine j_iload C dX4_lookAt_152 4 rfl ?_
        refine j_cN C (c_X7_setCell X.1 hl a1 8 lS p3 x38_4 (by decide)) k_X7_setCell gX4_lookAt_X7_setCell_n55 nw_X4_55 wd_X4_lookAt_ini_X7 wd_X4_lookAt_sta_X7_setCell (As := [.ref a1, .int p3, .int x38_4]) (rest := []) (st' := []) (ws' := [(h4, .inr (4, [.int vD, .ref a1, .ref a2, .ref a3, .ref a4])), (a1, .inl (gI X.1, 8, .inl (f_X7_setCell 8 lS p3 x38_4))), (a2, .inl (gI X.1, 8, .inl lF)), (a3, .inl (gI X.1, 8, .inl lG)), (a4, .inl (gI X.1, 8, .inl lR)), (h5, .inr (5, [.int vD, .int vA, .int vL, .ref qn, .ref qm])), (qn, .inl (gI X.1, 512, .inl vN)), (qm, .inl (gI X.1, 512, .inl vM))]) rfl rfl dX4_lookAt_154 [1] [0, 2, 3, 4, 5, 6, 7] [0, 7, 1, 2, 3, 4, 5, 6] rfl rfl rfl rfl rfl rfl ?_
        refine j_aload_n C dX4_lookAt_157 rfl 0 rfl ?_
        refine j_get4 C 0 rfl 2 (by decide) in_X4_lookAt_4 lk_X4_lookAt_19 rfl dX4_lookAt_158 ?_
        refine j_iload_n C dX4_lookAt_161 rfl 3 rfl ?_
        refine j_iload C dX4_lookAt_162 5 rfl ?_
        refine j_cN C (c_X7_setCell X.1 hl a2 8 lF p3 x38_5 (by decide)) k_X7_setCell gX4_lookAt_X7_setCell_n55 nw_X4_55 wd_X4_lookAt_ini_X7 wd_X4_lookAt_sta_X7_setCell (As := [.ref a2, .int p3, .int x38_5]) (rest := []) (st' := []) (ws' := [(h4, .inr (4, [.int vD, .ref a1, .ref a2, .ref a3, .ref a4])), (a1, .inl (gI X.1, 8, .inl (f_X7_setCell 8 lS p3 x38_4))), (a2, .inl (gI X.1, 8, .inl (f_X7_setCell 8 lF p3 x38_5))), (a3, .inl (gI X.1, 8, .inl lG)), (a4, .inl (gI X.1, 8, .inl lR)), (h5, .inr (5, [.int vD, .int vA, .int vL, .ref qn, .ref qm])), (qn, .inl (gI X.1, 512, .inl vN)), (qm, .inl (gI X.1, 512, .inl vM))]) rfl rfl dX4_lookAt_164 [2] [0, 1, 3, 4, 5, 6, 7] [0, 1, 7, 2, 3, 4, 5, 6] rfl rfl rfl rfl rfl rfl ?_
        refine j_aload_n C dX4_lookAt_167 rfl 0 rfl ?_
        refine j_get4 C 0 rfl 3 (by decide) in_X4_lookAt_4 lk_X4_lookAt_22 rfl dX4_lookAt_168 ?_
        refine j_iload_n C dX4_lookAt_171 rfl 3 rfl ?_
        refine j_iload C dX4_lookAt_172 6 rfl ?_
        refine j_cN C (c_X7_setCell X.1 hl a3 8 lG p3 x38_6 (by decide)) k_X7_setCell gX4_lookAt_X7_setCell_n55 nw_X4_55 wd_X4_lookAt_ini_X7 wd_X4_lookAt_sta_X7_setCell (As := [.ref a3, .int p3, .int x38_6]) (rest := []) (st' := []) (ws' := [(h4, .inr (4, [.int vD, .ref a1, .ref a2, .ref a3, .ref a4])), (a1, .inl (gI X.1, 8, .inl (f_X7_setCell 8 lS p3 x38_4))), (a2, .inl (gI X.1, 8, .inl (f_X7_setCell 8 lF p3 x38_5))), (a3, .inl (gI X.1, 8, .inl (f_X7_setCell 8 lG p3 x38_6))), (a4, .inl (gI X.1, 8, .inl lR)), (h5, .inr (5, [.int vD, .int vA, .int vL, .ref qn, .ref qm])), (qn, .inl (gI X.1, 512, .inl vN)), (qm, .inl (gI X.1, 512, .inl vM))]) rfl rfl dX4_lookAt_174 [3] [0, 1, 2, 4, 5, 6, 7] [0, 1, 2, 7, 3, 4, 5, 6] rfl rfl rfl rfl rfl rfl ?_
        refine j_aload_n C dX4_lookAt_177 rfl 0 rfl ?_
        refine j_get4 C 0 rfl 4 (by decide) in_X4_lookAt_4 lk_X4_lookAt_25 rfl dX4_lookAt_178 ?_
        refine j_iload_n C dX4_lookAt_181 rfl 3 rfl ?_
        refine j_iload C dX4_lookAt_182 7 rfl ?_
        refine j_cN C (c_X7_setCell X.1 hl a4 8 lR p3 x38_7 (by decide)) k_X7_setCell gX4_lookAt_X7_setCell_n55 nw_X4_55 wd_X4_lookAt_ini_X7 wd_X4_lookAt_sta_X7_setCell (As := [.ref a4, .int p3, .int x38_7]) (rest := []) (st' := []) (ws' := [(h4, .inr (4, [.int vD, .ref a1, .ref a2, .ref a3, .ref a4])), (a1, .inl (gI X.1, 8, .inl (f_X7_setCell 8 lS p3 x38_4))), (a2, .inl (gI X.1, 8, .inl (f_X7_setCell 8 lF p3 x38_5))), (a3, .inl (gI X.1, 8, .inl (f_X7_setCell 8 lG p3 x38_6))), (a4, .inl (gI X.1, 8, .inl (f_X7_setCell 8 lR p3 x38_7))), (h5, .inr (5, [.int vD, .int vA, .int vL, .ref qn, .ref qm])), (qn, .inl (gI X.1, 512, .inl vN)), (qm, .inl (gI X.1, 512, .inl vM))]) rfl rfl dX4_lookAt_184 [4] [0, 1, 2, 3, 5, 6, 7] [0, 1, 2, 3, 7, 4, 5, 6] rfl rfl rfl rfl rfl rfl ?_
        obtain rfl := Option.some.inj hf
        obtain rfl := dz_go_inr hg38
        exact j_vret C hQ rfl dX4_lookAt_187 (Nat.zero_le _) (Nat.zero_le _) ⟨rfl, rfl⟩
      · have hf := (if_neg e44).symm.trans hf
        refine j_aload_n C dX4_lookAt_47 rfl 1 rfl ?_
        refine j_iload_n C dX4_lookAt_48 rfl 2 rfl ?_
        refine j_iload_n C dX4_lookAt_49 rfl 3 rfl ?_
        refine j_iload C dX4_lookAt_50 10 rfl ?_
        refine j_cV C (c_X5_rowStart X.1 hl h5 qn qm vD vA vL vN vM p2 p3 x38_10) k_X5_rowStart gX4_lookAt_X5_rowStart rfl (ci := 5) (q0 := 0) rfl rfl (As := [.int p2, .int p3, .int x38_10]) (rest := []) (st' := [.int (f_X5_rowStart p2 p3 x38_10 vD)]) (ws' := [(h4, .inr (4, [.int vD, .ref a1, .ref a2, .ref a3, .ref a4])), (a1, .inl (gI X.1, 8, .inl lS)), (a2, .inl (gI X.1, 8, .inl lF)), (a3, .inl (gI X.1, 8, .inl lG)), (a4, .inl (gI X.1, 8, .inl lR)), (h5, .inr (5, [.int vD, .int vA, .int vL, .ref qn, .ref qm])), (qn, .inl (gI X.1, 512, .inl vN)), (qm, .inl (gI X.1, 512, .inl vM))]) rfl rfl dX4_lookAt_52 [5, 6, 7] [0, 1, 2, 3, 4] [0, 1, 2, 3, 4, 5, 6, 7] rfl rfl rfl rfl rfl rfl ?_
        refine j_istore (lv' := [(11, .int (f_X5_rowStart p2 p3 x38_10 vD)), (0, .ref h4), (1, .ref h5), (2, .int p2), (3, .int p3), (4, .int x38_4), (5, .int x38_5), (6, .int x38_6), (7, .int x38_7), (8, .int x38_8), (9, .int (f_X5_step (f_X7_formerOf p2) vD)), (10, .int x38_10)]) C dX4_lookAt_55 (by decide) rfl ?_
        refine j_iconst C (v := 0) dX4_lookAt_57 (by decide) ?_
        refine j_istore (lv' := [(12, .int 0), (11, .int (f_X5_rowStart p2 p3 x38_10 vD)), (0, .ref h4), (1, .ref h5), (2, .int p2), (3, .int p3), (4, .int x38_4), (5, .int x38_5), (6, .int x38_6), (7, .int x38_7), (8, .int x38_8), (9, .int (f_X5_step (f_X7_formerOf p2) vD)), (10, .int x38_10)]) C dX4_lookAt_58 (by decide) rfl ?_
        have kk60 : ∀ (n : Nat) (x60_4 : Int32) (x60_5 : Int32) (x60_6 : Int32) (x60_7 : Int32) (x60_8 : Int32) (x60_11 : Int32) (x60_12 : Int32), dz_iter n (fun s : Int32 × Int32 × Int32 × Int32 × Int32 × Int32 × Int32 => f_X4_lookAt_L60 p2 vD vN x38_10 s.1 s.2.1 s.2.2.1 s.2.2.2.1 s.2.2.2.2.1 s.2.2.2.2.2.1 s.2.2.2.2.2.2) (x60_4, x60_5, x60_6, x60_7, x60_8, x60_11, x60_12) = some y38 → Jt X [(h4, .inr (4, [.int vD, .ref a1, .ref a2, .ref a3, .ref a4])), (a1, .inl (gI X.1, 8, .inl lS)), (a2, .inl (gI X.1, 8, .inl lF)), (a3, .inl (gI X.1, 8, .inl lG)), (a4, .inl (gI X.1, 8, .inl lR)), (h5, .inr (5, [.int vD, .int vA, .int vL, .ref qn, .ref qm])), (qn, .inl (gI X.1, 512, .inl vN)), (qm, .inl (gI X.1, 512, .inl vM))] 0 0 60 [(0, .ref h4), (1, .ref h5), (2, .int p2), (3, .int p3), (4, .int x60_4), (5, .int x60_5), (6, .int x60_6), (7, .int x60_7), (8, .int x60_8), (9, .int (f_X5_step (f_X7_formerOf p2) vD)), (10, .int x38_10), (11, .int x60_11), (12, .int x60_12)] [] := by
          intro n
          induction n with
          | zero => intro x60_4 x60_5 x60_6 x60_7 x60_8 x60_11 x60_12 hit; exact absurd hit (by simp [dz_iter])
          | succ n ih60 =>
            intro x60_4 x60_5 x60_6 x60_7 x60_8 x60_11 x60_12 hit
            obtain ⟨y60, hf, hg60⟩ := dz_iter_succ hit
            replace hf : f_X4_lookAt_L60 p2 vD vN x38_10 x60_4 x60_5 x60_6 x60_7 x60_8 x60_11 x60_12 = some y60 := hf
            unfold f_X4_lookAt_L60 at hf
            refine j_iload C dX4_lookAt_60 12 rfl ?_
            refine j_aload_n C dX4_lookAt_62 rfl 0 rfl ?_
            refine j_get4 C 0 rfl 0 (by decide) in_X4_lookAt_4 lk_X4_lookAt_9 rfl dX4_lookAt_63 ?_
            refine j_icmp_ge C (tgt := 141) dX4_lookAt_66 (by decide) (fun e66 => ?_) (fun e66 => ?_)
            · have hf := (if_pos e66).symm.trans hf
              refine j_iinc (v := (x38_10 + 1)) (lv' := [(10, .int (x38_10 + 1)), (0, .ref h4), (1, .ref h5), (2, .int p2), (3, .int p3), (4, .int x60_4), (5, .int x60_5), (6, .int x60_6), (7, .int x60_7), (8, .int x60_8), (9, .int (f_X5_step (f_X7_formerOf p2) vD)), (11, .int x60_11), (12, .int x60_12)]) C dX4_lookAt_141 10 rfl (by first | rfl | decide) (by decide) rfl ?_
              refine j_goto C (tgt := 38) dX4_lookAt_144 (by decide) ?_
              obtain rfl := Option.some.inj hf
              obtain rfl := dz_go_inr hg60
              have hf := dz_go_inl hg38
              refine j_loc [1, 2, 3, 4, 5, 6, 7, 8, 9, 10, 0] rfl ?_
              exact ih38 x60_4 x60_5 x60_6 x60_7 x60_8 (x38_10 + 1) hf
            · have hf := (if_neg e66).symm.trans hf
              refine j_aload_n C dX4_lookAt_69 rfl 1 rfl ?_
              refine j_iload C dX4_lookAt_70 11 rfl ?_
              refine j_cV C (c_X5_number X.1 hl h5 qn qm vD vA vL vN vM x60_11) k_X5_number gX4_lookAt_X5_number rfl (ci := 5) (q0 := 0) rfl rfl (As := [.int x60_11]) (rest := []) (st' := [.int (f_X5_number x60_11 vN)]) (ws' := [(h4, .inr (4, [.int vD, .ref a1, .ref a2, .ref a3, .ref a4])), (a1, .inl (gI X.1, 8, .inl lS)), (a2, .inl (gI X.1, 8, .inl lF)), (a3, .inl (gI X.1, 8, .inl lG)), (a4, .inl (gI X.1, 8, .inl lR)), (h5, .inr (5, [.int vD, .int vA, .int vL, .ref qn, .ref qm])), (qn, .inl (gI X.1, 512, .inl vN)), (qm, .inl (gI X.1, 512, .inl vM))]) rfl rfl dX4_lookAt_72 [5, 6, 7] [0, 1, 2, 3, 4] [0, 1, 2, 3, 4, 5, 6, 7] rfl rfl rfl rfl rfl rfl ?_
              refine j_istore (lv' := [(13, .int (f_X5_number x60_11 vN)), (0, .ref h4), (1, .ref h5), (2, .int p2), (3, .int p3), (4, .int x60_4), (5, .int x60_5), (6, .int x60_6), (7, .int x60_7), (8, .int x60_8), (9, .int (f_X5_step (f_X7_formerOf p2) vD)), (10, .int x38_10), (11, .int x60_11), (12, .int x60_12)]) C dX4_lookAt_75 (by decide) rfl ?_
              refine j_iload C dX4_lookAt_77 12 rfl ?_
              refine j_iload C dX4_lookAt_79 10 rfl ?_
              refine j_iadd C dX4_lookAt_81 ?_
              refine j_istore (lv' := [(11, .int (x60_11 + (f_X5_step (f_X7_formerOf p2) vD))), (13, .int (f_X5_number x60_11 vN)), (0, .ref h4), (1, .ref h5), (2, .int p2), (3, .int p3), (4, .int x60_4), (5, .int x60_5), (6, .int x60_6), (7, .int x60_7), (8, .int x60_8), (9, .int (f_X5_step (f_X7_formerOf p2) vD)), (10, .int x38_10), (12, .int x60_12)]) C dX4_lookAt_82 (by decide) rfl ?_
              refine j_iload C dX4_lookAt_84 6 rfl ?_
              refine j_iload C dX4_lookAt_86 1 rfl ?_
              refine j_iadd C dX4_lookAt_88 ?_
              refine j_istore (lv' := [(4, .int (x60_4 + (f_X5_number x60_11 vN))), (11, .int (x60_11 + (f_X5_step (f_X7_formerOf p2) vD))), (13, .int (f_X5_number x60_11 vN)), (0, .ref h4), (1, .ref h5), (2, .int p2), (3, .int p3), (5, .int x60_5), (6, .int x60_6), (7, .int x60_7), (8, .int x60_8), (9, .int (f_X5_step (f_X7_formerOf p2) vD)), (10, .int x38_10), (12, .int x60_12)]) C dX4_lookAt_89 (by decide) rfl ?_
              refine j_iload C dX4_lookAt_91 8 rfl ?_
              refine j_iload C dX4_lookAt_93 2 rfl ?_
              refine j_max C dX4_lookAt_95 wd_X4_lookAt_m49 wd_X4_lookAt_smax wd_X4_lookAt_iMath wd_X4_lookAt_cmax rfl ?_
              refine j_istore (lv' := [(6, .int (jmax x60_6 (f_X5_number x60_11 vN))), (4, .int (x60_4 + (f_X5_number x60_11 vN))), (11, .int (x60_11 + (f_X5_step (f_X7_formerOf p2) vD))), (13, .int (f_X5_number x60_11 vN)), (0, .ref h4), (1, .ref h5), (2, .int p2), (3, .int p3), (5, .int x60_5), (7, .int x60_7), (8, .int x60_8), (9, .int (f_X5_step (f_X7_formerOf p2) vD)), (10, .int x38_10), (12, .int x60_12)]) C dX4_lookAt_98 (by decide) rfl ?_
              refine j_iload C dX4_lookAt_100 3 rfl ?_
              have k123 : ∀ (x123_5 : Int32) (x123_7 : Int32), f_X4_lookAt_J123 p2 vD vN x123_5 x123_7 x60_11 x60_12 x60_4 x60_6 = some y60 → Jt X [(h4, .inr (4, [.int vD, .ref a1, .ref a2, .ref a3, .ref a4])), (a1, .inl (gI X.1, 8, .inl lS)), (a2, .inl (gI X.1, 8, .inl lF)), (a3, .inl (gI X.1, 8, .inl lG)), (a4, .inl (gI X.1, 8, .inl lR)), (h5, .inr (5, [.int vD, .int vA, .int vL, .ref qn, .ref qm])), (qn, .inl (gI X.1, 512, .inl vN)), (qm, .inl (gI X.1, 512, .inl vM))] 0 0 123 [(0, .ref h4), (1, .ref h5), (2, .int p2), (3, .int p3), (4, .int (x60_4 + (f_X5_number x60_11 vN))), (5, .int x123_5), (6, .int (jmax x60_6 (f_X5_number x60_11 vN))), (7, .int x123_7), (8, .int x60_8), (9, .int (f_X5_step (f_X7_formerOf p2) vD)), (10, .int x38_10), (11, .int (x60_11 + (f_X5_step (f_X7_formerOf p2) vD))), (12, .int x60_12), (13, .int (f_X5_number x60_11 vN))] [] := by
                intro x123_5 x123_7 hf
                unfold f_X4_lookAt_J123 at hf
                refine j_iload C dX4_lookAt_123 13 rfl ?_
                have k133 : ∀ (s133_0 : Int32), f_X4_lookAt_J133 p2 vD vN s133_0 x123_5 x123_7 x60_11 x60_12 x60_4 x60_6 = some y60 → Jt X [(h4, .inr (4, [.int vD, .ref a1, .ref a2, .ref a3, .ref a4])), (a1, .inl (gI X.1, 8, .inl lS)), (a2, .inl (gI X.1, 8, .inl lF)), (a3, .inl (gI X.1, 8, .inl lG)), (a4, .inl (gI X.1, 8, .inl lR)), (h5, .inr (5, [.int vD, .int vA, .int vL, .ref qn, .ref qm])), (qn, .inl (gI X.1, 512, .inl vN)), (qm, .inl (gI X.1, 512, .inl vM))] 0 0 133 [(0, .ref h4), (1, .ref h5), (2, .int p2), (3, .int p3), (4, .int (x60_4 + (f_X5_number x60_11 vN))), (5, .int x123_5), (6, .int (jmax x60_6 (f_X5_number x60_11 vN))), (7, .int x123_7), (8, .int x60_8), (9, .int (f_X5_step (f_X7_formerOf p2) vD)), (10, .int x38_10), (11, .int (x60_11 + (f_X5_step (f_X7_formerOf p2) vD))), (12, .int x60_12), (13, .int (f_X5_number x60_11 vN))] [.int s133_0] := by
                  intro s133_0 hf
                  unfold f_X4_lookAt_J133 at hf
                  refine j_istore (lv' := [(8, .int s133_0), (0, .ref h4), (1, .ref h5), (2, .int p2), (3, .int p3), (4, .int (x60_4 + (f_X5_number x60_11 vN))), (5, .int x123_5), (6, .int (jmax x60_6 (f_X5_number x60_11 vN))), (7, .int x123_7), (9, .int (f_X5_step (f_X7_formerOf p2) vD)), (10, .int x38_10), (11, .int (x60_11 + (f_X5_step (f_X7_formerOf p2) vD))), (12, .int x60_12), (13, .int (f_X5_number x60_11 vN))]) C dX4_lookAt_133 (by decide) rfl ?_
                  refine j_iinc (v := (x60_12 + 1)) (lv' := [(12, .int (x60_12 + 1)), (8, .int s133_0), (0, .ref h4), (1, .ref h5), (2, .int p2), (3, .int p3), (4, .int (x60_4 + (f_X5_number x60_11 vN))), (5, .int x123_5), (6, .int (jmax x60_6 (f_X5_number x60_11 vN))), (7, .int x123_7), (9, .int (f_X5_step (f_X7_formerOf p2) vD)), (10, .int x38_10), (11, .int (x60_11 + (f_X5_step (f_X7_formerOf p2) vD))), (13, .int (f_X5_number x60_11 vN))]) C dX4_lookAt_135 12 rfl (by first | rfl | decide) (by decide) rfl ?_
                  refine j_goto C (tgt := 60) dX4_lookAt_138 (by decide) ?_
                  obtain rfl := Option.some.inj hf
                  have hf := dz_go_inl hg60
                  refine j_loc [2, 3, 4, 5, 6, 7, 8, 9, 1, 10, 11, 12, 0] rfl ?_
                  exact ih60 (x60_4 + (f_X5_number x60_11 vN)) x123_5 (jmax x60_6 (f_X5_number x60_11 vN)) x123_7 s133_0 (x60_11 + (f_X5_step (f_X7_formerOf p2) vD)) (x60_12 + 1) hf
                refine j_if_eq C (tgt := 132) dX4_lookAt_125 (by decide) (fun e125 => ?_) (fun e125 => ?_)
                · have hf := (if_pos e125).symm.trans hf
                  refine j_iconst C (v := 0) dX4_lookAt_132 (by decide) ?_
                  refine j_loc [0, 1, 2, 3, 4, 5, 6, 7, 8, 9, 10, 11, 12, 13] rfl ?_
                  exact k133 0 hf
                · have hf := (if_neg e125).symm.trans hf
                  refine j_iconst C (v := 1) dX4_lookAt_128 (by decide) ?_
                  refine j_goto C (tgt := 133) dX4_lookAt_129 (by decide) ?_
                  refine j_loc [0, 1, 2, 3, 4, 5, 6, 7, 8, 9, 10, 11, 12, 13] rfl ?_
                  exact k133 1 hf
              refine j_if_eq C (tgt := 123) dX4_lookAt_102 (by decide) (fun e102 => ?_) (fun e102 => ?_)
              · have hf := (if_pos e102).symm.trans hf
                refine j_loc [4, 5, 6, 7, 1, 8, 0, 9, 10, 11, 12, 2, 13, 3] rfl ?_
                exact k123 x60_5 x60_7 hf
              · have hf := (if_neg e102).symm.trans hf
                refine j_iinc (v := (x60_5 + 1)) (lv' := [(5, .int (x60_5 + 1)), (6, .int (jmax x60_6 (f_X5_number x60_11 vN))), (4, .int (x60_4 + (f_X5_number x60_11 vN))), (11, .int (x60_11 + (f_X5_step (f_X7_formerOf p2) vD))), (13, .int (f_X5_number x60_11 vN)), (0, .ref h4), (1, .ref h5), (2, .int p2), (3, .int p3), (7, .int x60_7), (8, .int x60_8), (9, .int (f_X5_step (f_X7_formerOf p2) vD)), (10, .int x38_10), (12, .int x60_12)]) C dX4_lookAt_105 8 rfl (by first | rfl | decide) (by decide) rfl ?_
                refine j_iload C dX4_lookAt_108 9 rfl ?_
                refine j_iload C dX4_lookAt_110 10 rfl ?_
                have k120 : ∀ (s120_0 : Int32), f_X4_lookAt_J120 p2 vD vN s120_0 x60_11 x60_12 x60_4 x60_5 x60_6 x60_7 = some y60 → Jt X [(h4, .inr (4, [.int vD, .ref a1, .ref a2, .ref a3, .ref a4])), (a1, .inl (gI X.1, 8, .inl lS)), (a2, .inl (gI X.1, 8, .inl lF)), (a3, .inl (gI X.1, 8, .inl lG)), (a4, .inl (gI X.1, 8, .inl lR)), (h5, .inr (5, [.int vD, .int vA, .int vL, .ref qn, .ref qm])), (qn, .inl (gI X.1, 512, .inl vN)), (qm, .inl (gI X.1, 512, .inl vM))] 0 0 120 [(0, .ref h4), (1, .ref h5), (2, .int p2), (3, .int p3), (4, .int (x60_4 + (f_X5_number x60_11 vN))), (5, .int (x60_5 + 1)), (6, .int (jmax x60_6 (f_X5_number x60_11 vN))), (7, .int x60_7), (8, .int x60_8), (9, .int (f_X5_step (f_X7_formerOf p2) vD)), (10, .int x38_10), (11, .int (x60_11 + (f_X5_step (f_X7_formerOf p2) vD))), (12, .int x60_12), (13, .int (f_X5_number x60_11 vN))] [.int s120_0, .int x60_7] := by
                  intro s120_0 hf
                  unfold f_X4_lookAt_J120 at hf
                  refine j_iadd C dX4_lookAt_120 ?_
                  refine j_istore (lv' := [(7, .int (x60_7 + s120_0)), (0, .ref h4), (1, .ref h5), (2, .int p2), (3, .int p3), (4, .int (x60_4 + (f_X5_number x60_11 vN))), (5, .int (x60_5 + 1)), (6, .int (jmax x60_6 (f_X5_number x60_11 vN))), (8, .int x60_8), (9, .int (f_X5_step (f_X7_formerOf p2) vD)), (10, .int x38_10), (11, .int (x60_11 + (f_X5_step (f_X7_formerOf p2) vD))), (12, .int x60_12), (13, .int (f_X5_number x60_11 vN))]) C dX4_lookAt_121 (by decide) rfl ?_
                  refine j_loc [1, 2, 3, 4, 5, 6, 7, 0, 8, 9, 10, 11, 12, 13] rfl ?_
                  exact k123 (x60_5 + 1) (x60_7 + s120_0) hf
                refine j_if_eq C (tgt := 119) dX4_lookAt_112 (by decide) (fun e112 => ?_) (fun e112 => ?_)
                · have hf := (if_pos e112).symm.trans hf
                  refine j_iconst C (v := 2) dX4_lookAt_119 (by decide) ?_
                  refine j_loc [5, 6, 7, 8, 2, 0, 1, 9, 10, 11, 12, 3, 13, 4] rfl ?_
                  exact k120 2 hf
                · have hf := (if_neg e112).symm.trans hf
                  refine j_iconst C (v := 1) dX4_lookAt_115 (by decide) ?_
                  refine j_goto C (tgt := 120) dX4_lookAt_116 (by decide) ?_
                  refine j_loc [5, 6, 7, 8, 2, 0, 1, 9, 10, 11, 12, 3, 13, 4] rfl ?_
                  exact k120 1 hf
        refine j_loc [2, 3, 4, 5, 6, 7, 8, 9, 10, 11, 12, 1, 0] rfl ?_
        exact kk60 _ x38_4 x38_5 x38_6 x38_7 x38_8 (f_X5_rowStart p2 p3 x38_10 vD) 0 hf
  refine j_loc [7, 8, 9, 10, 6, 5, 4, 3, 2, 1, 0] rfl ?_
  exact kk38 _ 0 0 (-999) 1 0 0 hf

theorem in_X4_look_5 : ∀ w ∈ wsX50, w ∈ wsX4_look := by decide +kernel
def f_X4_look_L2 (p2 : Int32) (vD : Int32) (vN : (Nat → Int32)) (x2_3 : Int32) (lD_2 : Int32) (lS_2 : (Nat → Int32)) (lF_2 : (Nat → Int32)) (lG_2 : (Nat → Int32)) (lR_2 : (Nat → Int32)) : Option ((Int32 × Int32 × (Nat → Int32) × (Nat → Int32) × (Nat → Int32) × (Nat → Int32)) ⊕ (Int32 × (Nat → Int32) × (Nat → Int32) × (Nat → Int32) × (Nat → Int32))) :=
  if vD ≤ x2_3 then some (.inr ((lD_2, lS_2, lF_2, lG_2, lR_2))) else Option.bind (f_X4_lookAt p2 x2_3 vD vN lS_2 lF_2 lG_2 lR_2) (fun r14 => some (.inl ((x2_3 + 1), r14.1, r14.2.1, r14.2.2.1, r14.2.2.2.1, r14.2.2.2.2)))
def f_X4_look (p2 : Int32) (vD : Int32) (vN : (Nat → Int32)) (lD : Int32) (lS : (Nat → Int32)) (lF : (Nat → Int32)) (lG : (Nat → Int32)) (lR : (Nat → Int32)) : Option (Int32 × (Nat → Int32) × (Nat → Int32) × (Nat → Int32) × (Nat → Int32)) :=
  dz_it (fun s : Int32 × Int32 × (Nat → Int32) × (Nat → Int32) × (Nat → Int32) × (Nat → Int32) => f_X4_look_L2 p2 vD vN s.1 s.2.1 s.2.2.1 s.2.2.2.1 s.2.2.2.2.1 s.2.2.2.2.2) (0, lD, lS, lF, lG, lR)
abbrev rm_X4_look : Room := { frames := 4, cells := 0, slots := 0, locals := 93 }
theorem k_X4_look : Cf yX4_look wsX4_look rm_X4_look cX4_look 4 none 2 := ⟨⟨_, rfl⟩, by decide +kernel, by decide +kernel, by decide +kernel⟩
set_option maxRecDepth 100000 in
set_option maxHeartbeats 4000000 in
theorem b_X4_look (G : CG) (hl : (gL G).stackTraces = false) (h4 : Nat) (a1 : Nat) (a2 : Nat) (a3 : Nat) (a4 : Nat) (h5 : Nat) (qn : Nat) (qm : Nat) (vD : Int32) (vA : Int32) (vL : Int32) (vN : (Nat → Int32)) (vM : (Nat → Int32)) (lD : Int32) (lS : (Nat → Int32)) (lF : (Nat → Int32)) (lG : (Nat → Int32)) (lR : (Nat → Int32)) (p2 : Int32) (y : Int32 × (Nat → Int32) × (Nat → Int32) × (Nat → Int32) × (Nat → Int32)) (hf : f_X4_look p2 vD vN lD lS lF lG lR = some y) : Ct G yX4_look wsX4_look rm_X4_look [.ref h4, .ref h5, .int p2] [(h4, .inr (4, [.int lD, .ref a1, .ref a2, .ref a3, .ref a4])), (a1, .inl (gI G, 8, .inl lS)), (a2, .inl (gI G, 8, .inl lF)), (a3, .inl (gI G, 8, .inl lG)), (a4, .inl (gI G, 8, .inl lR)), (h5, .inr (5, [.int vD, .int vA, .int vL, .ref qn, .ref qm])), (qn, .inl (gI G, 512, .inl vN)), (qm, .inl (gI G, 512, .inl vM))] (fin1 none [(h4, .inr (4, [.int y.1, .ref a1, .ref a2, .ref a3, .ref a4])), (a1, .inl (gI G, 8, .inl y.2.1)), (a2, .inl (gI G, 8, .inl y.2.2.1)), (a3, .inl (gI G, 8, .inl y.2.2.2.1)), (a4, .inl (gI G, 8, .inl y.2.2.2.2)), (h5, .inr (5, [.int vD, .int vA, .int vL, .ref qn, .ref qm])), (qn, .inl (gI G, 512, .inl vN)), (qm, .inl (gI G, 512, .inl vM))]) 0 0 := by
  refine Ct.of (cc := cX4_look) (N := 4) (ret := none) RX4 (by decide) rfl rfl hl (Nat.le_of_ble_eq_true rfl) (lv := [(0, .ref h4), (1, .ref h5), (2, .int p2)]) rfl (fun X hXG C hex hnm hQ => ?_)
  subst hXG
  unfold f_X4_look at hf
  refine j_iconst C (v := 0) dX4_look_0 (by decide) ?_
  refine j_istore_n (lv' := [(3, .int 0), (0, .ref h4), (1, .ref h5), (2, .int p2)]) C dX4_look_1 rfl (by decide) rfl ?_
  have kk2 : ∀ (n : Nat) (x2_3 : Int32) (lD_2 : Int32) (lS_2 : (Nat → Int32)) (lF_2 : (Nat → Int32)) (lG_2 : (Nat → Int32)) (lR_2 : (Nat → Int32)), dz_iter n (fun s : Int32 × Int32 × (Nat → Int32) × (Nat → Int32) × (Nat → Int32) × (Nat → Int32) => f_X4_look_L2 p2 vD vN s.1 s.2.1 s.2.2.1 s.2.2.2.1 s.2.2.2.2.1 s.2.2.2.2.2) (x2_3, lD_2, lS_2, lF_2, lG_2, lR_2) = some y → Jt X [(h4, .inr (4, [.int lD_2, .ref a1, .ref a2, .ref a3, .ref a4])), (a1, .inl (gI X.1, 8, .inl lS_2)), (a2, .inl (gI X.1, 8, .inl lF_2)), (a3, .inl (gI X.1, 8, .inl lG_2)), (a4, .inl (gI X.1, 8, .inl lR_2)), (h5, .inr (5, [.int vD, .int vA, .int vL, .ref qn, .ref qm])), (qn, .inl (gI X.1, 512, .inl vN)), (qm, .inl (gI X.1, 512, .inl vM))] 0 0 2 [(0, .ref h4), (1, .ref h5), (2, .int p2), (3, .int x2_3)] [] := by
    intro n
    induction n with
    | zero => intro x2_3 lD_2 lS_2 lF_2 lG_2 lR_2 hit; exact absurd hit (by simp [dz_iter])
    | succ n ih2 =>
      intro x2_3 lD_2 lS_2 lF_2 lG_2 lR_2 hit
      obtain ⟨y2, hf, hg2⟩ := dz_iter_succ hit
      replace hf : f_X4_look_L2 p2 vD vN x2_3 lD_2 lS_2 lF_2 lG_2 lR_2 = some y2 := hf
      unfold f_X4_look_L2 at hf
      refine j_iload_n C dX4_look_2 rfl 3 rfl ?_
      refine j_aload_n C dX4_look_3 rfl 1 rfl ?_
      refine j_getN5 C 5 rfl 0 (by decide) in_X4_look_5 nw_X4_28 rfl dX4_look_4 ?_
      refine j_icmp_ge C (tgt := 23) dX4_look_7 (by decide) (fun e7 => ?_) (fun e7 => ?_)
      · have hf := (if_pos e7).symm.trans hf
        obtain rfl := Option.some.inj hf
        obtain rfl := dz_go_inr hg2
        exact j_vret C hQ rfl dX4_look_23 (Nat.zero_le _) (Nat.zero_le _) ⟨rfl, rfl⟩
      · have hf := (if_neg e7).symm.trans hf
        refine j_aload_n C dX4_look_10 rfl 0 rfl ?_
        refine j_aload_n C dX4_look_11 rfl 1 rfl ?_
        refine j_iload_n C dX4_look_12 rfl 2 rfl ?_
        refine j_iload_n C dX4_look_13 rfl 3 rfl ?_
        obtain ⟨r14, hc14, hf⟩ := Option.bind_eq_some_iff.mp hf
        refine j_cV C (b_X4_lookAt X.1 hl h4 a1 a2 a3 a4 h5 qn qm vD vA vL vN vM lD_2 lS_2 lF_2 lG_2 lR_2 p2 x2_3 r14 hc14) k_X4_lookAt gX4_look_X4_lookAt rfl (ci := 4) (q0 := 0) rfl rfl (As := [.ref h5, .int p2, .int x2_3]) (rest := []) (st' := []) (ws' := [(h4, .inr (4, [.int r14.1, .ref a1, .ref a2, .ref a3, .ref a4])), (a1, .inl (gI X.1, 8, .inl r14.2.1)), (a2, .inl (gI X.1, 8, .inl r14.2.2.1)), (a3, .inl (gI X.1, 8, .inl r14.2.2.2.1)), (a4, .inl (gI X.1, 8, .inl r14.2.2.2.2)), (h5, .inr (5, [.int vD, .int vA, .int vL, .ref qn, .ref qm])), (qn, .inl (gI X.1, 512, .inl vN)), (qm, .inl (gI X.1, 512, .inl vM))]) rfl rfl dX4_look_14 [0, 1, 2, 3, 4, 5, 6, 7] [] [0, 1, 2, 3, 4, 5, 6, 7] rfl rfl rfl rfl rfl rfl ?_
        refine j_iinc (v := (x2_3 + 1)) (lv' := [(3, .int (x2_3 + 1)), (0, .ref h4), (1, .ref h5), (2, .int p2)]) C dX4_look_17 3 rfl (by first | rfl | decide) (by decide) rfl ?_
        refine j_goto C (tgt := 2) dX4_look_20 (by decide) ?_
        obtain rfl := Option.some.inj hf
        have hf := dz_go_inl hg2
        refine j_loc [1, 2, 3, 0] rfl ?_
        exact ih2 (x2_3 + 1) r14.1 r14.2.1 r14.2.2.1 r14.2.2.2.1 r14.2.2.2.2 hf
  refine j_loc [1, 2, 3, 0] rfl ?_
  exact kk2 _ 0 lD lS lF lG lR hf

theorem lk_X4_form_19 : Cond.fieldLink RX4 19 (TX4 2).1 (TX4 2).2.1 (TX4 2).2.2.1 ∈ wsX4_form := by decide +kernel
theorem in_X4_form_4 : ∀ w ∈ wsX40, w ∈ wsX4_form := by decide +kernel
theorem wd_X4_form_ini_X7 : Cond.initialized RX7 ∈ wsX4_form := by decide +kernel
theorem wd_X4_form_sta_X7_cell : Cond.static yX7_cell ∈ wsX4_form := by decide +kernel
def f_X4_form (p1 : Int32) (p2 : Int32) (lF : (Nat → Int32)) : Int32 :=
  if (f_X7_cell 8 lF p1) = 0 then 0 else if p2 < (f_X7_cell 8 lF p1) then 2 else 1
abbrev rm_X4_form : Room := { frames := 2, cells := 0, slots := 0, locals := 37 }
theorem k_X4_form : Cf yX4_form wsX4_form rm_X4_form cX4_form 4 (some .int) 2 := ⟨⟨_, rfl⟩, by decide +kernel, by decide +kernel, by decide +kernel⟩
set_option maxRecDepth 100000 in
set_option maxHeartbeats 4000000 in
theorem b_X4_form (G : CG) (hl : (gL G).stackTraces = false) (h4 : Nat) (a1 : Nat) (a2 : Nat) (a3 : Nat) (a4 : Nat) (lD : Int32) (lS : (Nat → Int32)) (lF : (Nat → Int32)) (lG : (Nat → Int32)) (lR : (Nat → Int32)) (p1 : Int32) (p2 : Int32) (y : Int32) (hf : f_X4_form p1 p2 lF = y) : Ct G yX4_form wsX4_form rm_X4_form [.ref h4, .int p1, .int p2] [(h4, .inr (4, [.int lD, .ref a1, .ref a2, .ref a3, .ref a4])), (a1, .inl (gI G, 8, .inl lS)), (a2, .inl (gI G, 8, .inl lF)), (a3, .inl (gI G, 8, .inl lG)), (a4, .inl (gI G, 8, .inl lR))] (fin1 (some (.int y)) [(h4, .inr (4, [.int lD, .ref a1, .ref a2, .ref a3, .ref a4])), (a1, .inl (gI G, 8, .inl lS)), (a2, .inl (gI G, 8, .inl lF)), (a3, .inl (gI G, 8, .inl lG)), (a4, .inl (gI G, 8, .inl lR))]) 0 0 := by
  refine Ct.of (cc := cX4_form) (N := 4) (ret := (some .int)) RX4 (by decide) rfl rfl hl (Nat.le_of_ble_eq_true rfl) (lv := [(0, .ref h4), (1, .int p1), (2, .int p2)]) rfl (fun X hXG C hex hnm hQ => ?_)
  subst hXG
  unfold f_X4_form at hf
  refine j_aload_n C dX4_form_0 rfl 0 rfl ?_
  refine j_get4 C 0 rfl 2 (by decide) in_X4_form_4 lk_X4_form_19 rfl dX4_form_1 ?_
  refine j_iload_n C dX4_form_4 rfl 1 rfl ?_
  refine j_cN C (c_X7_cell X.1 hl a2 8 lF p1 (by decide)) k_X7_cell gX4_form_X7_cell_n59 nw_X4_59 wd_X4_form_ini_X7 wd_X4_form_sta_X7_cell (As := [.ref a2, .int p1]) (rest := []) (st' := [.int (f_X7_cell 8 lF p1)]) (ws' := [(h4, .inr (4, [.int lD, .ref a1, .ref a2, .ref a3, .ref a4])), (a1, .inl (gI X.1, 8, .inl lS)), (a2, .inl (gI X.1, 8, .inl lF)), (a3, .inl (gI X.1, 8, .inl lG)), (a4, .inl (gI X.1, 8, .inl lR))]) rfl rfl dX4_form_5 [2] [0, 1, 3, 4] [0, 1, 4, 2, 3] rfl rfl rfl rfl rfl rfl ?_
  refine j_istore_n (lv' := [(3, .int (f_X7_cell 8 lF p1)), (0, .ref h4), (1, .int p1), (2, .int p2)]) C dX4_form_8 rfl (by decide) rfl ?_
  refine j_iload_n C dX4_form_9 rfl 0 rfl ?_
  refine j_if_ne C (tgt := 15) dX4_form_10 (by decide) (fun e10 => ?_) (fun e10 => ?_)
  · have hf := (if_neg e10).symm.trans hf
    refine j_iload_n C dX4_form_15 rfl 0 rfl ?_
    refine j_iload_n C dX4_form_16 rfl 3 rfl ?_
    refine j_icmp_gt C (tgt := 24) dX4_form_17 (by decide) (fun e17 => ?_) (fun e17 => ?_)
    · have hf := (if_pos e17).symm.trans hf
      refine j_iconst C (v := 2) dX4_form_24 (by decide) ?_
      subst hf
      exact j_iret C hQ rfl dX4_form_25 (Nat.zero_le _) (Nat.zero_le _) ⟨rfl, rfl⟩
    · have hf := (if_neg e17).symm.trans hf
      refine j_iconst C (v := 1) dX4_form_20 (by decide) ?_
      refine j_goto C (tgt := 25) dX4_form_21 (by decide) ?_
      subst hf
      exact j_iret C hQ rfl dX4_form_25 (Nat.zero_le _) (Nat.zero_le _) ⟨rfl, rfl⟩
  · have hf := (if_pos e10).symm.trans hf
    refine j_iconst C (v := 0) dX4_form_13 (by decide) ?_
    subst hf
    exact j_iret C hQ rfl dX4_form_14 (Nat.zero_le _) (Nat.zero_le _) ⟨rfl, rfl⟩
theorem c_X4_form (G : CG) (hl : (gL G).stackTraces = false) (h4 : Nat) (a1 : Nat) (a2 : Nat) (a3 : Nat) (a4 : Nat) (lD : Int32) (lS : (Nat → Int32)) (lF : (Nat → Int32)) (lG : (Nat → Int32)) (lR : (Nat → Int32)) (p1 : Int32) (p2 : Int32) : Ct G yX4_form wsX4_form rm_X4_form [.ref h4, .int p1, .int p2] [(h4, .inr (4, [.int lD, .ref a1, .ref a2, .ref a3, .ref a4])), (a1, .inl (gI G, 8, .inl lS)), (a2, .inl (gI G, 8, .inl lF)), (a3, .inl (gI G, 8, .inl lG)), (a4, .inl (gI G, 8, .inl lR))] (fin1 (some (.int (f_X4_form p1 p2 lF))) [(h4, .inr (4, [.int lD, .ref a1, .ref a2, .ref a3, .ref a4])), (a1, .inl (gI G, 8, .inl lS)), (a2, .inl (gI G, 8, .inl lF)), (a3, .inl (gI G, 8, .inl lG)), (a4, .inl (gI G, 8, .inl lR))]) 0 0 := b_X4_form G hl h4 a1 a2 a3 a4 lD lS lF lG lR p1 p2 _ rfl

theorem lk_X4_room_9 : Cond.fieldLink RX4 9 (TX4 0).1 (TX4 0).2.1 (TX4 0).2.2.1 ∈ wsX4_room := by decide +kernel
theorem in_X4_room_4 : ∀ w ∈ wsX40, w ∈ wsX4_room := by decide +kernel
theorem lk_X4_room_25 : Cond.fieldLink RX4 25 (TX4 4).1 (TX4 4).2.1 (TX4 4).2.2.1 ∈ wsX4_room := by decide +kernel
theorem wd_X4_room_ini_X7 : Cond.initialized RX7 ∈ wsX4_room := by decide +kernel
theorem wd_X4_room_sta_X7_cell : Cond.static yX7_cell ∈ wsX4_room := by decide +kernel
def f_X4_room (p1 : Int32) (p2 : Int32) (lD : Int32) (lF : (Nat → Int32)) (lR : (Nat → Int32)) : Int32 :=
  if (f_X4_form p1 p2 lF) = 0 then 1 else if (f_X4_form p1 p2 lF) = 1 then (f_X7_cell 8 lR p1) else (1 + (lD * lD))
abbrev rm_X4_room : Room := { frames := 3, cells := 0, slots := 0, locals := 60 }
theorem k_X4_room : Cf yX4_room wsX4_room rm_X4_room cX4_room 3 (some .int) 2 := ⟨⟨_, rfl⟩, by decide +kernel, by decide +kernel, by decide +kernel⟩
set_option maxRecDepth 100000 in
set_option maxHeartbeats 4000000 in
theorem b_X4_room (G : CG) (hl : (gL G).stackTraces = false) (h4 : Nat) (a1 : Nat) (a2 : Nat) (a3 : Nat) (a4 : Nat) (lD : Int32) (lS : (Nat → Int32)) (lF : (Nat → Int32)) (lG : (Nat → Int32)) (lR : (Nat → Int32)) (p1 : Int32) (p2 : Int32) (y : Int32) (hf : f_X4_room p1 p2 lD lF lR = y) : Ct G yX4_room wsX4_room rm_X4_room [.ref h4, .int p1, .int p2] [(h4, .inr (4, [.int lD, .ref a1, .ref a2, .ref a3, .ref a4])), (a1, .inl (gI G, 8, .inl lS)), (a2, .inl (gI G, 8, .inl lF)), (a3, .inl (gI G, 8, .inl lG)), (a4, .inl (gI G, 8, .inl lR))] (fin1 (some (.int y)) [(h4, .inr (4, [.int lD, .ref a1, .ref a2, .ref a3, .ref a4])), (a1, .inl (gI G, 8, .inl lS)), (a2, .inl (gI G, 8, .inl lF)), (a3, .inl (gI G, 8, .inl lG)), (a4, .inl (gI G, 8, .inl lR))]) 0 0 := by
  refine Ct.of (cc := cX4_room) (N := 3) (ret := (some .int)) RX4 (by decide) rfl rfl hl (Nat.le_of_ble_eq_true rfl) (lv := [(0, .ref h4), (1, .int p1), (2, .int p2)]) rfl (fun X hXG C hex hnm hQ => ?_)
  subst hXG
  unfold f_X4_room at hf
  refine j_aload_n C dX4_room_0 rfl 0 rfl ?_
  refine j_iload_n C dX4_room_1 rfl 1 rfl ?_
  refine j_iload_n C dX4_room_2 rfl 2 rfl ?_
  refine j_cV C (c_X4_form X.1 hl h4 a1 a2 a3 a4 lD lS lF lG lR p1 p2) k_X4_form gX4_room_X4_form rfl (ci := 4) (q0 := 0) rfl rfl (As := [.int p1, .int p2]) (rest := []) (st' := [.int (f_X4_form p1 p2 lF)]) (ws' := [(h4, .inr (4, [.int lD, .ref a1, .ref a2, .ref a3, .ref a4])), (a1, .inl (gI X.1, 8, .inl lS)), (a2, .inl (gI X.1, 8, .inl lF)), (a3, .inl (gI X.1, 8, .inl lG)), (a4, .inl (gI X.1, 8, .inl lR))]) rfl rfl dX4_room_3 [0, 1, 2, 3, 4] [] [0, 1, 2, 3, 4] rfl rfl rfl rfl rfl rfl ?_
  by_cases e6_0 : (f_X4_form p1 p2 lF) = 0
  · have hf := (if_pos e6_0).symm.trans hf
    refine j_lookup C (off := 26) (tgt := 32) dX4_room_6 (by decide) (by rw [e6_0]; decide) (by decide) ?_
    refine j_iconst C (v := 1) dX4_room_32 (by decide) ?_
    subst hf
    exact j_iret C hQ rfl dX4_room_33 (Nat.zero_le _) (Nat.zero_le _) ⟨rfl, rfl⟩
  have hf := (if_neg e6_0).symm.trans hf
  by_cases e6_1 : (f_X4_form p1 p2 lF) = 1
  · have hf := (if_pos e6_1).symm.trans hf
    refine j_lookup C (off := 28) (tgt := 34) dX4_room_6 (by decide) (by rw [e6_1]; decide) (by decide) ?_
    refine j_aload_n C dX4_room_34 rfl 0 rfl ?_
    refine j_get4 C 0 rfl 4 (by decide) in_X4_room_4 lk_X4_room_25 rfl dX4_room_35 ?_
    refine j_iload_n C dX4_room_38 rfl 1 rfl ?_
    refine j_cN C (c_X7_cell X.1 hl a4 8 lR p1 (by decide)) k_X7_cell gX4_room_X7_cell_n59 nw_X4_59 wd_X4_room_ini_X7 wd_X4_room_sta_X7_cell (As := [.ref a4, .int p1]) (rest := []) (st' := [.int (f_X7_cell 8 lR p1)]) (ws' := [(h4, .inr (4, [.int lD, .ref a1, .ref a2, .ref a3, .ref a4])), (a1, .inl (gI X.1, 8, .inl lS)), (a2, .inl (gI X.1, 8, .inl lF)), (a3, .inl (gI X.1, 8, .inl lG)), (a4, .inl (gI X.1, 8, .inl lR))]) rfl rfl dX4_room_39 [4] [0, 1, 2, 3] [0, 1, 2, 3, 4] rfl rfl rfl rfl rfl rfl ?_
    subst hf
    exact j_iret C hQ rfl dX4_room_42 (Nat.zero_le _) (Nat.zero_le _) ⟨rfl, rfl⟩
  have hf := (if_neg e6_1).symm.trans hf
  have t6_0 : (f_X4_form p1 p2 lF).toInt ≠ 0 := fun h => e6_0 (Int32.toInt_inj.mp h)
  have t6_1 : (f_X4_form p1 p2 lF).toInt ≠ 1 := fun h => e6_1 (Int32.toInt_inj.mp h)
  refine j_lookup C (off := 37) (tgt := 43) dX4_room_6 (by decide) (by simp [Op.lookupswitch.offset, Ne.symm t6_0, Ne.symm t6_1]) (by decide) ?_
  refine j_iconst C (v := 1) dX4_room_43 (by decide) ?_
  refine j_aload_n C dX4_room_44 rfl 0 rfl ?_
  refine j_get4 C 0 rfl 0 (by decide) in_X4_room_4 lk_X4_room_9 rfl dX4_room_45 ?_
  refine j_aload_n C dX4_room_48 rfl 0 rfl ?_
  refine j_get4 C 0 rfl 0 (by decide) in_X4_room_4 lk_X4_room_9 rfl dX4_room_49 ?_
  refine j_imul C dX4_room_52 ?_
  refine j_iadd C dX4_room_53 ?_
  subst hf
  exact j_iret C hQ rfl dX4_room_54 (Nat.zero_le _) (Nat.zero_le _) ⟨rfl, rfl⟩
theorem c_X4_room (G : CG) (hl : (gL G).stackTraces = false) (h4 : Nat) (a1 : Nat) (a2 : Nat) (a3 : Nat) (a4 : Nat) (lD : Int32) (lS : (Nat → Int32)) (lF : (Nat → Int32)) (lG : (Nat → Int32)) (lR : (Nat → Int32)) (p1 : Int32) (p2 : Int32) : Ct G yX4_room wsX4_room rm_X4_room [.ref h4, .int p1, .int p2] [(h4, .inr (4, [.int lD, .ref a1, .ref a2, .ref a3, .ref a4])), (a1, .inl (gI G, 8, .inl lS)), (a2, .inl (gI G, 8, .inl lF)), (a3, .inl (gI G, 8, .inl lG)), (a4, .inl (gI G, 8, .inl lR))] (fin1 (some (.int (f_X4_room p1 p2 lD lF lR))) [(h4, .inr (4, [.int lD, .ref a1, .ref a2, .ref a3, .ref a4])), (a1, .inl (gI G, 8, .inl lS)), (a2, .inl (gI G, 8, .inl lF)), (a3, .inl (gI G, 8, .inl lG)), (a4, .inl (gI G, 8, .inl lR))]) 0 0 := b_X4_room G hl h4 a1 a2 a3 a4 lD lS lF lG lR p1 p2 _ rfl

theorem lk_X4_roomOfAll_9 : Cond.fieldLink RX4 9 (TX4 0).1 (TX4 0).2.1 (TX4 0).2.2.1 ∈ wsX4_roomOfAll := by decide +kernel
theorem in_X4_roomOfAll_4 : ∀ w ∈ wsX40, w ∈ wsX4_roomOfAll := by decide +kernel
def f_X4_roomOfAll_J52 (s31_0 : Int32) (x52_2 : Int32) (x7_4 : Int32) : Option ((Int32 × Int32 × Int32) ⊕ (Int32)) :=
  some (.inl (x52_2, s31_0, (x7_4 + 1)))
def f_X4_roomOfAll_J42 (p1 : Int32) (lD : Int32) (lF : (Nat → Int32)) (lR : (Nat → Int32)) (s31_0 : Int32) (x7_2 : Int32) (x7_4 : Int32) : Option ((Int32 × Int32 × Int32) ⊕ (Int32)) :=
  (f_X4_roomOfAll_J52 s31_0 (x7_2 + (f_X4_room x7_4 p1 lD lF lR)) x7_4)
def f_X4_roomOfAll_J31 (p1 : Int32) (lD : Int32) (lF : (Nat → Int32)) (lR : (Nat → Int32)) (s31_0 : Int32) (x7_2 : Int32) (x7_3 : Int32) (x7_4 : Int32) : Option ((Int32 × Int32 × Int32) ⊕ (Int32)) :=
  if s31_0 = 0 then (f_X4_roomOfAll_J42 p1 lD lF lR s31_0 x7_2 x7_4) else if x7_3 = 0 then (f_X4_roomOfAll_J42 p1 lD lF lR s31_0 x7_2 x7_4) else (f_X4_roomOfAll_J52 s31_0 x7_2 x7_4)
def f_X4_roomOfAll_L7 (p1 : Int32) (lD : Int32) (lF : (Nat → Int32)) (lR : (Nat → Int32)) (x7_2 : Int32) (x7_3 : Int32) (x7_4 : Int32) : Option ((Int32 × Int32 × Int32) ⊕ (Int32)) :=
  if lD ≤ x7_4 then some (.inr (x7_2)) else if (f_X4_form x7_4 p1 lF) = 0 then (f_X4_roomOfAll_J31 p1 lD lF lR 1 x7_2 x7_3 x7_4) else (f_X4_roomOfAll_J31 p1 lD lF lR 0 x7_2 x7_3 x7_4)
def f_X4_roomOfAll (p1 : Int32) (lD : Int32) (lF : (Nat → Int32)) (lR : (Nat → Int32)) : Option (Int32) :=
  dz_it (fun s : Int32 × Int32 × Int32 => f_X4_roomOfAll_L7 p1 lD lF lR s.1 s.2.1 s.2.2) (0, 0, 0)
abbrev rm_X4_roomOfAll : Room := { frames := 4, cells := 0, slots := 0, locals := 82 }
theorem k_X4_roomOfAll : Cf yX4_roomOfAll wsX4_roomOfAll rm_X4_roomOfAll cX4_roomOfAll 6 (some .int) 1 := ⟨⟨_, rfl⟩, by decide +kernel, by decide +kernel, by decide +kernel⟩
set_option maxRecDepth 100000 in
set_option maxHeartbeats 4000000 in
theorem b_X4_roomOfAll (G : CG) (hl : (gL G).stackTraces = false) (h4 : Nat) (a1 : Nat) (a2 : Nat) (a3 : Nat) (a4 : Nat) (lD : Int32) (lS : (Nat → Int32)) (lF : (Nat → Int32)) (lG : (Nat → Int32)) (lR : (Nat → Int32)) (p1 : Int32) (y : Int32) (hf : f_X4_roomOfAll p1 lD lF lR = some y) : Ct G yX4_roomOfAll wsX4_roomOfAll rm_X4_roomOfAll [.ref h4, .int p1] [(h4, .inr (4, [.int lD, .ref a1, .ref a2, .ref a3, .ref a4])), (a1, .inl (gI G, 8, .inl lS)), (a2, .inl (gI G, 8, .inl lF)), (a3, .inl (gI G, 8, .inl lG)), (a4, .inl (gI G, 8, .inl lR))] (fin1 (some (.int y)) [(h4, .inr (4, [.int lD, .ref a1, .ref a2, .ref a3, .ref a4])), (a1, .inl (gI G, 8, .inl lS)), (a2, .inl (gI G, 8, .inl lF)), (a3, .inl (gI G, 8, .inl lG)), (a4, .inl (gI G, 8, .inl lR))]) 0 0 := by
  refine Ct.of (cc := cX4_roomOfAll) (N := 6) (ret := (some .int)) RX4 (by decide) rfl rfl hl (Nat.le_of_ble_eq_true rfl) (lv := [(0, .ref h4), (1, .int p1)]) rfl (fun X hXG C hex hnm hQ => ?_)
  subst hXG
  unfold f_X4_roomOfAll at hf
  refine j_iconst C (v := 0) dX4_roomOfAll_0 (by decide) ?_
  refine j_istore_n (lv' := [(2, .int 0), (0, .ref h4), (1, .int p1)]) C dX4_roomOfAll_1 rfl (by decide) rfl ?_
  refine j_iconst C (v := 0) dX4_roomOfAll_2 (by decide) ?_
  refine j_istore_n (lv' := [(3, .int 0), (2, .int 0), (0, .ref h4), (1, .int p1)]) C dX4_roomOfAll_3 rfl (by decide) rfl ?_
  refine j_iconst C (v := 0) dX4_roomOfAll_4 (by decide) ?_
  refine j_istore (lv' := [(4, .int 0), (3, .int 0), (2, .int 0), (0, .ref h4), (1, .int p1)]) C dX4_roomOfAll_5 (by decide) rfl ?_
  have kk7 : ∀ (n : Nat) (x7_2 : Int32) (x7_3 : Int32) (x7_4 : Int32), dz_iter n (fun s : Int32 × Int32 × Int32 => f_X4_roomOfAll_L7 p1 lD lF lR s.1 s.2.1 s.2.2) (x7_2, x7_3, x7_4) = some y → Jt X [(h4, .inr (4, [.int lD, .ref a1, .ref a2, .ref a3, .ref a4])), (a1, .inl (gI X.1, 8, .inl lS)), (a2, .inl (gI X.1, 8, .inl lF)), (a3, .inl (gI X.1, 8, .inl lG)), (a4, .inl (gI X.1, 8, .inl lR))] 0 0 7 [(0, .ref h4), (1, .int p1), (2, .int x7_2), (3, .int x7_3), (4, .int x7_4)] [] := by
    intro n
    induction n with
    | zero => intro x7_2 x7_3 x7_4 hit; exact absurd hit (by simp [dz_iter])
    | succ n ih7 =>
      intro x7_2 x7_3 x7_4 hit
      obtain ⟨y7, hf, hg7⟩ := dz_iter_succ hit
      replace hf : f_X4_roomOfAll_L7 p1 lD lF lR x7_2 x7_3 x7_4 = some y7 := hf
      unfold f_X4_roomOfAll_L7 at hf
      refine j_iload C dX4_roomOfAll_7 4 rfl ?_
      refine j_aload_n C dX4_roomOfAll_9 rfl 0 rfl ?_
      refine j_get4 C 0 rfl 0 (by decide) in_X4_roomOfAll_4 lk_X4_roomOfAll_9 rfl dX4_roomOfAll_10 ?_
      refine j_icmp_ge C (tgt := 61) dX4_roomOfAll_13 (by decide) (fun e13 => ?_) (fun e13 => ?_)
      · have hf := (if_pos e13).symm.trans hf
        refine j_iload_n C dX4_roomOfAll_61 rfl 2 rfl ?_
        obtain rfl := Option.some.inj hf
        obtain rfl := dz_go_inr hg7
        exact j_iret C hQ rfl dX4_roomOfAll_62 (Nat.zero_le _) (Nat.zero_le _) ⟨rfl, rfl⟩
      · have hf := (if_neg e13).symm.trans hf
        refine j_aload_n C dX4_roomOfAll_16 rfl 0 rfl ?_
        refine j_iload C dX4_roomOfAll_17 4 rfl ?_
        refine j_iload_n C dX4_roomOfAll_19 rfl 1 rfl ?_
        refine j_cV C (c_X4_form X.1 hl h4 a1 a2 a3 a4 lD lS lF lG lR x7_4 p1) k_X4_form gX4_roomOfAll_X4_form rfl (ci := 4) (q0 := 0) rfl rfl (As := [.int x7_4, .int p1]) (rest := []) (st' := [.int (f_X4_form x7_4 p1 lF)]) (ws' := [(h4, .inr (4, [.int lD, .ref a1, .ref a2, .ref a3, .ref a4])), (a1, .inl (gI X.1, 8, .inl lS)), (a2, .inl (gI X.1, 8, .inl lF)), (a3, .inl (gI X.1, 8, .inl lG)), (a4, .inl (gI X.1, 8, .inl lR))]) rfl rfl dX4_roomOfAll_20 [0, 1, 2, 3, 4] [] [0, 1, 2, 3, 4] rfl rfl rfl rfl rfl rfl ?_
        have k31 : ∀ (s31_0 : Int32), f_X4_roomOfAll_J31 p1 lD lF lR s31_0 x7_2 x7_3 x7_4 = some y7 → Jt X [(h4, .inr (4, [.int lD, .ref a1, .ref a2, .ref a3, .ref a4])), (a1, .inl (gI X.1, 8, .inl lS)), (a2, .inl (gI X.1, 8, .inl lF)), (a3, .inl (gI X.1, 8, .inl lG)), (a4, .inl (gI X.1, 8, .inl lR))] 0 0 31 [(0, .ref h4), (1, .int p1), (2, .int x7_2), (3, .int x7_3), (4, .int x7_4)] [.int s31_0] := by
          intro s31_0 hf
          unfold f_X4_roomOfAll_J31 at hf
          refine j_istore (lv' := [(5, .int s31_0), (0, .ref h4), (1, .int p1), (2, .int x7_2), (3, .int x7_3), (4, .int x7_4)]) C dX4_roomOfAll_31 (by decide) rfl ?_
          refine j_iload C dX4_roomOfAll_33 0 rfl ?_
          have k52 : ∀ (x52_2 : Int32), f_X4_roomOfAll_J52 s31_0 x52_2 x7_4 = some y7 → Jt X [(h4, .inr (4, [.int lD, .ref a1, .ref a2, .ref a3, .ref a4])), (a1, .inl (gI X.1, 8, .inl lS)), (a2, .inl (gI X.1, 8, .inl lF)), (a3, .inl (gI X.1, 8, .inl lG)), (a4, .inl (gI X.1, 8, .inl lR))] 0 0 52 [(0, .ref h4), (1, .int p1), (2, .int x52_2), (3, .int x7_3), (4, .int x7_4), (5, .int s31_0)] [] := by
            intro x52_2 hf
            unfold f_X4_roomOfAll_J52 at hf
            refine j_iload C dX4_roomOfAll_52 5 rfl ?_
            refine j_istore_n (lv' := [(3, .int s31_0), (0, .ref h4), (1, .int p1), (2, .int x52_2), (4, .int x7_4), (5, .int s31_0)]) C dX4_roomOfAll_54 rfl (by decide) rfl ?_
            refine j_iinc (v := (x7_4 + 1)) (lv' := [(4, .int (x7_4 + 1)), (3, .int s31_0), (0, .ref h4), (1, .int p1), (2, .int x52_2), (5, .int s31_0)]) C dX4_roomOfAll_55 4 rfl (by first | rfl | decide) (by decide) rfl ?_
            refine j_goto C (tgt := 7) dX4_roomOfAll_58 (by decide) ?_
            obtain rfl := Option.some.inj hf
            have hf := dz_go_inl hg7
            refine j_loc [2, 3, 4, 1, 0] rfl ?_
            exact ih7 x52_2 s31_0 (x7_4 + 1) hf
          have k42 : f_X4_roomOfAll_J42 p1 lD lF lR s31_0 x7_2 x7_4 = some y7 → Jt X [(h4, .inr (4, [.int lD, .ref a1, .ref a2, .ref a3, .ref a4])), (a1, .inl (gI X.1, 8, .inl lS)), (a2, .inl (gI X.1, 8, .inl lF)), (a3, .inl (gI X.1, 8, .inl lG)), (a4, .inl (gI X.1, 8, .inl lR))] 0 0 42 [(0, .ref h4), (1, .int p1), (2, .int x7_2), (3, .int x7_3), (4, .int x7_4), (5, .int s31_0)] [] := by
            intro  hf
            unfold f_X4_roomOfAll_J42 at hf
            refine j_iload_n C dX4_roomOfAll_42 rfl 2 rfl ?_
            refine j_aload_n C dX4_roomOfAll_43 rfl 0 rfl ?_
            refine j_iload C dX4_roomOfAll_44 4 rfl ?_
            refine j_iload_n C dX4_roomOfAll_46 rfl 1 rfl ?_
            refine j_cV C (c_X4_room X.1 hl h4 a1 a2 a3 a4 lD lS lF lG lR x7_4 p1) k_X4_room gX4_roomOfAll_X4_room rfl (ci := 4) (q0 := 0) rfl rfl (As := [.int x7_4, .int p1]) (rest := [.int x7_2]) (st' := [.int (f_X4_room x7_4 p1 lD lF lR), .int x7_2]) (ws' := [(h4, .inr (4, [.int lD, .ref a1, .ref a2, .ref a3, .ref a4])), (a1, .inl (gI X.1, 8, .inl lS)), (a2, .inl (gI X.1, 8, .inl lF)), (a3, .inl (gI X.1, 8, .inl lG)), (a4, .inl (gI X.1, 8, .inl lR))]) rfl rfl dX4_roomOfAll_47 [0, 1, 2, 3, 4] [] [0, 1, 2, 3, 4] rfl rfl rfl rfl rfl rfl ?_
            refine j_iadd C dX4_roomOfAll_50 ?_
            refine j_istore_n (lv' := [(2, .int (x7_2 + (f_X4_room x7_4 p1 lD lF lR))), (0, .ref h4), (1, .int p1), (3, .int x7_3), (4, .int x7_4), (5, .int s31_0)]) C dX4_roomOfAll_51 rfl (by decide) rfl ?_
            refine j_loc [1, 2, 0, 3, 4, 5] rfl ?_
            exact k52 (x7_2 + (f_X4_room x7_4 p1 lD lF lR)) hf
          refine j_if_eq C (tgt := 42) dX4_roomOfAll_35 (by decide) (fun e35 => ?_) (fun e35 => ?_)
          · have hf := (if_pos e35).symm.trans hf
            refine j_loc [1, 2, 3, 4, 5, 0] rfl ?_
            exact k42  hf
          · have hf := (if_neg e35).symm.trans hf
            refine j_iload_n C dX4_roomOfAll_38 rfl 4 rfl ?_
            refine j_if_ne C (tgt := 52) dX4_roomOfAll_39 (by decide) (fun e39 => ?_) (fun e39 => ?_)
            · have hf := (if_neg e39).symm.trans hf
              refine j_loc [1, 2, 3, 4, 5, 0] rfl ?_
              exact k52 x7_2 hf
            · have hf := (if_pos e39).symm.trans hf
              refine j_loc [1, 2, 3, 4, 5, 0] rfl ?_
              exact k42  hf
        refine j_if_ne C (tgt := 30) dX4_roomOfAll_23 (by decide) (fun e23 => ?_) (fun e23 => ?_)
        · have hf := (if_neg e23).symm.trans hf
          refine j_iconst C (v := 0) dX4_roomOfAll_30 (by decide) ?_
          refine j_loc [0, 1, 2, 3, 4] rfl ?_
          exact k31 0 hf
        · have hf := (if_pos e23).symm.trans hf
          refine j_iconst C (v := 1) dX4_roomOfAll_26 (by decide) ?_
          refine j_goto C (tgt := 31) dX4_roomOfAll_27 (by decide) ?_
          refine j_loc [0, 1, 2, 3, 4] rfl ?_
          exact k31 1 hf
  refine j_loc [3, 4, 2, 1, 0] rfl ?_
  exact kk7 _ 0 0 0 hf

theorem lk_X4_countOfForm_9 : Cond.fieldLink RX4 9 (TX4 0).1 (TX4 0).2.1 (TX4 0).2.2.1 ∈ wsX4_countOfForm := by decide +kernel
theorem in_X4_countOfForm_4 : ∀ w ∈ wsX40, w ∈ wsX4_countOfForm := by decide +kernel
def f_X4_countOfForm_J28 (x28_3 : Int32) (x5_4 : Int32) : Option ((Int32 × Int32) ⊕ (Int32)) :=
  some (.inl (x28_3, (x5_4 + 1)))
def f_X4_countOfForm_L5 (p1 : Int32) (p2 : Int32) (lD : Int32) (lF : (Nat → Int32)) (x5_3 : Int32) (x5_4 : Int32) : Option ((Int32 × Int32) ⊕ (Int32)) :=
  if lD ≤ x5_4 then some (.inr (x5_3)) else if (f_X4_form x5_4 p2 lF) = p1 then (f_X4_countOfForm_J28 (x5_3 + 1) x5_4) else (f_X4_countOfForm_J28 x5_3 x5_4)
def f_X4_countOfForm (p1 : Int32) (p2 : Int32) (lD : Int32) (lF : (Nat → Int32)) : Option (Int32) :=
  dz_it (fun s : Int32 × Int32 => f_X4_countOfForm_L5 p1 p2 lD lF s.1 s.2) (0, 0)
abbrev rm_X4_countOfForm : Room := { frames := 3, cells := 0, slots := 0, locals := 60 }
theorem k_X4_countOfForm : Cf yX4_countOfForm wsX4_countOfForm rm_X4_countOfForm cX4_countOfForm 5 (some .int) 2 := ⟨⟨_, rfl⟩, by decide +kernel, by decide +kernel, by decide +kernel⟩
set_option maxRecDepth 100000 in
set_option maxHeartbeats 4000000 in
theorem b_X4_countOfForm (G : CG) (hl : (gL G).stackTraces = false) (h4 : Nat) (a1 : Nat) (a2 : Nat) (a3 : Nat) (a4 : Nat) (lD : Int32) (lS : (Nat → Int32)) (lF : (Nat → Int32)) (lG : (Nat → Int32)) (lR : (Nat → Int32)) (p1 : Int32) (p2 : Int32) (y : Int32) (hf : f_X4_countOfForm p1 p2 lD lF = some y) : Ct G yX4_countOfForm wsX4_countOfForm rm_X4_countOfForm [.ref h4, .int p1, .int p2] [(h4, .inr (4, [.int lD, .ref a1, .ref a2, .ref a3, .ref a4])), (a1, .inl (gI G, 8, .inl lS)), (a2, .inl (gI G, 8, .inl lF)), (a3, .inl (gI G, 8, .inl lG)), (a4, .inl (gI G, 8, .inl lR))] (fin1 (some (.int y)) [(h4, .inr (4, [.int lD, .ref a1, .ref a2, .ref a3, .ref a4])), (a1, .inl (gI G, 8, .inl lS)), (a2, .inl (gI G, 8, .inl lF)), (a3, .inl (gI G, 8, .inl lG)), (a4, .inl (gI G, 8, .inl lR))]) 0 0 := by
  refine Ct.of (cc := cX4_countOfForm) (N := 5) (ret := (some .int)) RX4 (by decide) rfl rfl hl (Nat.le_of_ble_eq_true rfl) (lv := [(0, .ref h4), (1, .int p1), (2, .int p2)]) rfl (fun X hXG C hex hnm hQ => ?_)
  subst hXG
  unfold f_X4_countOfForm at hf
  refine j_iconst C (v := 0) dX4_countOfForm_0 (by decide) ?_
  refine j_istore_n (lv' := [(3, .int 0), (0, .ref h4), (1, .int p1), (2, .int p2)]) C dX4_countOfForm_1 rfl (by decide) rfl ?_
  refine j_iconst C (v := 0) dX4_countOfForm_2 (by decide) ?_
  refine j_istore (lv' := [(4, .int 0), (3, .int 0), (0, .ref h4), (1, .int p1), (2, .int p2)]) C dX4_countOfForm_3 (by decide) rfl ?_
  have kk5 : ∀ (n : Nat) (x5_3 : Int32) (x5_4 : Int32), dz_iter n (fun s : Int32 × Int32 => f_X4_countOfForm_L5 p1 p2 lD lF s.1 s.2) (x5_3, x5_4) = some y → Jt X [(h4, .inr (4, [.int lD, .ref a1, .ref a2, .ref a3, .ref a4])), (a1, .inl (gI X.1, 8, .inl lS)), (a2, .inl (gI X.1, 8, .inl lF)), (a3, .inl (gI X.1, 8, .inl lG)), (a4, .inl (gI X.1, 8, .inl lR))] 0 0 5 [(0, .ref h4), (1, .int p1), (2, .int p2), (3, .int x5_3), (4, .int x5_4)] [] := by
    intro n
    induction n with
    | zero => intro x5_3 x5_4 hit; exact absurd hit (by simp [dz_iter])
    | succ n ih5 =>
      intro x5_3 x5_4 hit
      obtain ⟨y5, hf, hg5⟩ := dz_iter_succ hit
      replace hf : f_X4_countOfForm_L5 p1 p2 lD lF x5_3 x5_4 = some y5 := hf
      unfold f_X4_countOfForm_L5 at hf
      refine j_iload C dX4_countOfForm_5 4 rfl ?_
      refine j_aload_n C dX4_countOfForm_7 rfl 0 rfl ?_
      refine j_get4 C 0 rfl 0 (by decide) in_X4_countOfForm_4 lk_X4_countOfForm_9 rfl dX4_countOfForm_8 ?_
      refine j_icmp_ge C (tgt := 34) dX4_countOfForm_11 (by decide) (fun e11 => ?_) (fun e11 => ?_)
      · have hf := (if_pos e11).symm.trans hf
        refine j_iload_n C dX4_countOfForm_34 rfl 3 rfl ?_
        obtain rfl := Option.some.inj hf
        obtain rfl := dz_go_inr hg5
        exact j_iret C hQ rfl dX4_countOfForm_35 (Nat.zero_le _) (Nat.zero_le _) ⟨rfl, rfl⟩
      · have hf := (if_neg e11).symm.trans hf
        refine j_aload_n C dX4_countOfForm_14 rfl 0 rfl ?_
        refine j_iload C dX4_countOfForm_15 4 rfl ?_
        refine j_iload_n C dX4_countOfForm_17 rfl 2 rfl ?_
        refine j_cV C (c_X4_form X.1 hl h4 a1 a2 a3 a4 lD lS lF lG lR x5_4 p2) k_X4_form gX4_countOfForm_X4_form rfl (ci := 4) (q0 := 0) rfl rfl (As := [.int x5_4, .int p2]) (rest := []) (st' := [.int (f_X4_form x5_4 p2 lF)]) (ws' := [(h4, .inr (4, [.int lD, .ref a1, .ref a2, .ref a3, .ref a4])), (a1, .inl (gI X.1, 8, .inl lS)), (a2, .inl (gI X.1, 8, .inl lF)), (a3, .inl (gI X.1, 8, .inl lG)), (a4, .inl (gI X.1, 8, .inl lR))]) rfl rfl dX4_countOfForm_18 [0, 1, 2, 3, 4] [] [0, 1, 2, 3, 4] rfl rfl rfl rfl rfl rfl ?_
        refine j_iload_n C dX4_countOfForm_21 rfl 1 rfl ?_
        have k28 : ∀ (x28_3 : Int32), f_X4_countOfForm_J28 x28_3 x5_4 = some y5 → Jt X [(h4, .inr (4, [.int lD, .ref a1, .ref a2, .ref a3, .ref a4])), (a1, .inl (gI X.1, 8, .inl lS)), (a2, .inl (gI X.1, 8, .inl lF)), (a3, .inl (gI X.1, 8, .inl lG)), (a4, .inl (gI X.1, 8, .inl lR))] 0 0 28 [(0, .ref h4), (1, .int p1), (2, .int p2), (3, .int x28_3), (4, .int x5_4)] [] := by
          intro x28_3 hf
          unfold f_X4_countOfForm_J28 at hf
          refine j_iinc (v := (x5_4 + 1)) (lv' := [(4, .int (x5_4 + 1)), (0, .ref h4), (1, .int p1), (2, .int p2), (3, .int x28_3)]) C dX4_countOfForm_28 4 rfl (by first | rfl | decide) (by decide) rfl ?_
          refine j_goto C (tgt := 5) dX4_countOfForm_31 (by decide) ?_
          obtain rfl := Option.some.inj hf
          have hf := dz_go_inl hg5
          refine j_loc [1, 2, 3, 4, 0] rfl ?_
          exact ih5 x28_3 (x5_4 + 1) hf
        refine j_icmp_ne C (tgt := 28) dX4_countOfForm_22 (by decide) (fun e22 => ?_) (fun e22 => ?_)
        · have hf := (if_neg e22).symm.trans hf
          refine j_loc [0, 1, 2, 3, 4] rfl ?_
          exact k28 x5_3 hf
        · have hf := (if_pos e22).symm.trans hf
          refine j_iinc (v := (x5_3 + 1)) (lv' := [(3, .int (x5_3 + 1)), (0, .ref h4), (1, .int p1), (2, .int p2), (4, .int x5_4)]) C dX4_countOfForm_25 3 rfl (by first | rfl | decide) (by decide) rfl ?_
          refine j_loc [1, 2, 3, 0, 4] rfl ?_
          exact k28 (x5_3 + 1) hf
  refine j_loc [2, 3, 4, 1, 0] rfl ?_
  exact kk5 _ 0 0 hf

theorem lk_X4_told_22 : Cond.fieldLink RX4 22 (TX4 3).1 (TX4 3).2.1 (TX4 3).2.2.1 ∈ wsX4_told := by decide +kernel
theorem in_X4_told_4 : ∀ w ∈ wsX40, w ∈ wsX4_told := by decide +kernel
theorem lk_X4_told_19 : Cond.fieldLink RX4 19 (TX4 2).1 (TX4 2).2.1 (TX4 2).2.2.1 ∈ wsX4_told := by decide +kernel
theorem lk_X4_told_15 : Cond.fieldLink RX4 15 (TX4 1).1 (TX4 1).2.1 (TX4 1).2.2.1 ∈ wsX4_told := by decide +kernel
theorem wd_X4_told_ini_X7 : Cond.initialized RX7 ∈ wsX4_told := by decide +kernel
theorem wd_X4_told_sta_X7_cell : Cond.static yX7_cell ∈ wsX4_told := by decide +kernel
def f_X4_told (p1 : Int32) (p2 : Int32) (p3 : Int32) (lD : Int32) (lS : (Nat → Int32)) (lF : (Nat → Int32)) (lG : (Nat → Int32)) (lR : (Nat → Int32)) : Int32 :=
  if p2 = 0 then (f_X7_cell 8 lS p1) else if p2 = 1 then (f_X7_cell 8 lF p1) else if p2 = 2 then (f_X7_cell 8 lG p1) else if p2 = 3 then (f_X4_form p1 p3 lF) else (f_X4_room p1 p3 lD lF lR)
abbrev rm_X4_told : Room := { frames := 4, cells := 0, slots := 0, locals := 82 }
theorem k_X4_told : Cf yX4_told wsX4_told rm_X4_told cX4_told 4 (some .int) 3 := ⟨⟨_, rfl⟩, by decide +kernel, by decide +kernel, by decide +kernel⟩
set_option maxRecDepth 100000 in
set_option maxHeartbeats 4000000 in
theorem b_X4_told (G : CG) (hl : (gL G).stackTraces = false) (h4 : Nat) (a1 : Nat) (a2 : Nat) (a3 : Nat) (a4 : Nat) (lD : Int32) (lS : (Nat → Int32)) (lF : (Nat → Int32)) (lG : (Nat → Int32)) (lR : (Nat → Int32)) (p1 : Int32) (p2 : Int32) (p3 : Int32) (y : Int32) (hf : f_X4_told p1 p2 p3 lD lS lF lG lR = y) : Ct G yX4_told wsX4_told rm_X4_told [.ref h4, .int p1, .int p2, .int p3] [(h4, .inr (4, [.int lD, .ref a1, .ref a2, .ref a3, .ref a4])), (a1, .inl (gI G, 8, .inl lS)), (a2, .inl (gI G, 8, .inl lF)), (a3, .inl (gI G, 8, .inl lG)), (a4, .inl (gI G, 8, .inl lR))] (fin1 (some (.int y)) [(h4, .inr (4, [.int lD, .ref a1, .ref a2, .ref a3, .ref a4])), (a1, .inl (gI G, 8, .inl lS)), (a2, .inl (gI G, 8, .inl lF)), (a3, .inl (gI G, 8, .inl lG)), (a4, .inl (gI G, 8, .inl lR))]) 0 0 := by
  refine Ct.of (cc := cX4_told) (N := 4) (ret := (some .int)) RX4 (by decide) rfl rfl hl (Nat.le_of_ble_eq_true rfl) (lv := [(0, .ref h4), (1, .int p1), (2, .int p2), (3, .int p3)]) rfl (fun X hXG C hex hnm hQ => ?_)
  subst hXG
  unfold f_X4_told at hf
  refine j_iload_n C dX4_told_0 rfl 2 rfl ?_
  by_cases e1_0 : p2 = 0
  · have hf := (if_pos e1_0).symm.trans hf
    refine j_tabIn C (off := 31) (tgt := 32) dX4_told_1 (by rw [e1_0]; decide) (by rw [e1_0]; decide) (by rw [e1_0]; decide) (by decide) ?_
    refine j_aload_n C dX4_told_32 rfl 0 rfl ?_
    refine j_get4 C 0 rfl 1 (by decide) in_X4_told_4 lk_X4_told_15 rfl dX4_told_33 ?_
    refine j_iload_n C dX4_told_36 rfl 1 rfl ?_
    refine j_cN C (c_X7_cell X.1 hl a1 8 lS p1 (by decide)) k_X7_cell gX4_told_X7_cell_n59 nw_X4_59 wd_X4_told_ini_X7 wd_X4_told_sta_X7_cell (As := [.ref a1, .int p1]) (rest := []) (st' := [.int (f_X7_cell 8 lS p1)]) (ws' := [(h4, .inr (4, [.int lD, .ref a1, .ref a2, .ref a3, .ref a4])), (a1, .inl (gI X.1, 8, .inl lS)), (a2, .inl (gI X.1, 8, .inl lF)), (a3, .inl (gI X.1, 8, .inl lG)), (a4, .inl (gI X.1, 8, .inl lR))]) rfl rfl dX4_told_37 [1] [0, 2, 3, 4] [0, 4, 1, 2, 3] rfl rfl rfl rfl rfl rfl ?_
    subst hf
    exact j_iret C hQ rfl dX4_told_40 (Nat.zero_le _) (Nat.zero_le _) ⟨rfl, rfl⟩
  have hf := (if_neg e1_0).symm.trans hf
  by_cases e1_1 : p2 = 1
  · have hf := (if_pos e1_1).symm.trans hf
    refine j_tabIn C (off := 40) (tgt := 41) dX4_told_1 (by rw [e1_1]; decide) (by rw [e1_1]; decide) (by rw [e1_1]; decide) (by decide) ?_
    refine j_aload_n C dX4_told_41 rfl 0 rfl ?_
    refine j_get4 C 0 rfl 2 (by decide) in_X4_told_4 lk_X4_told_19 rfl dX4_told_42 ?_
    refine j_iload_n C dX4_told_45 rfl 1 rfl ?_
    refine j_cN C (c_X7_cell X.1 hl a2 8 lF p1 (by decide)) k_X7_cell gX4_told_X7_cell_n59 nw_X4_59 wd_X4_told_ini_X7 wd_X4_told_sta_X7_cell (As := [.ref a2, .int p1]) (rest := []) (st' := [.int (f_X7_cell 8 lF p1)]) (ws' := [(h4, .inr (4, [.int lD, .ref a1, .ref a2, .ref a3, .ref a4])), (a1, .inl (gI X.1, 8, .inl lS)), (a2, .inl (gI X.1, 8, .inl lF)), (a3, .inl (gI X.1, 8, .inl lG)), (a4, .inl (gI X.1, 8, .inl lR))]) rfl rfl dX4_told_46 [2] [0, 1, 3, 4] [0, 1, 4, 2, 3] rfl rfl rfl rfl rfl rfl ?_
    subst hf
    exact j_iret C hQ rfl dX4_told_49 (Nat.zero_le _) (Nat.zero_le _) ⟨rfl, rfl⟩
  have hf := (if_neg e1_1).symm.trans hf
  by_cases e1_2 : p2 = 2
  · have hf := (if_pos e1_2).symm.trans hf
    refine j_tabIn C (off := 49) (tgt := 50) dX4_told_1 (by rw [e1_2]; decide) (by rw [e1_2]; decide) (by rw [e1_2]; decide) (by decide) ?_
    refine j_aload_n C dX4_told_50 rfl 0 rfl ?_
    refine j_get4 C 0 rfl 3 (by decide) in_X4_told_4 lk_X4_told_22 rfl dX4_told_51 ?_
    refine j_iload_n C dX4_told_54 rfl 1 rfl ?_
    refine j_cN C (c_X7_cell X.1 hl a3 8 lG p1 (by decide)) k_X7_cell gX4_told_X7_cell_n59 nw_X4_59 wd_X4_told_ini_X7 wd_X4_told_sta_X7_cell (As := [.ref a3, .int p1]) (rest := []) (st' := [.int (f_X7_cell 8 lG p1)]) (ws' := [(h4, .inr (4, [.int lD, .ref a1, .ref a2, .ref a3, .ref a4])), (a1, .inl (gI X.1, 8, .inl lS)), (a2, .inl (gI X.1, 8, .inl lF)), (a3, .inl (gI X.1, 8, .inl lG)), (a4, .inl (gI X.1, 8, .inl lR))]) rfl rfl dX4_told_55 [3] [0, 1, 2, 4] [0, 1, 2, 4, 3] rfl rfl rfl rfl rfl rfl ?_
    subst hf
    exact j_iret C hQ rfl dX4_told_58 (Nat.zero_le _) (Nat.zero_le _) ⟨rfl, rfl⟩
  have hf := (if_neg e1_2).symm.trans hf
  by_cases e1_3 : p2 = 3
  · have hf := (if_pos e1_3).symm.trans hf
    refine j_tabIn C (off := 58) (tgt := 59) dX4_told_1 (by rw [e1_3]; decide) (by rw [e1_3]; decide) (by rw [e1_3]; decide) (by decide) ?_
    refine j_aload_n C dX4_told_59 rfl 0 rfl ?_
    refine j_iload_n C dX4_told_60 rfl 1 rfl ?_
    refine j_iload_n C dX4_told_61 rfl 3 rfl ?_
    refine j_cV C (c_X4_form X.1 hl h4 a1 a2 a3 a4 lD lS lF lG lR p1 p3) k_X4_form gX4_told_X4_form rfl (ci := 4) (q0 := 0) rfl rfl (As := [.int p1, .int p3]) (rest := []) (st' := [.int (f_X4_form p1 p3 lF)]) (ws' := [(h4, .inr (4, [.int lD, .ref a1, .ref a2, .ref a3, .ref a4])), (a1, .inl (gI X.1, 8, .inl lS)), (a2, .inl (gI X.1, 8, .inl lF)), (a3, .inl (gI X.1, 8, .inl lG)), (a4, .inl (gI X.1, 8, .inl lR))]) rfl rfl dX4_told_62 [0, 1, 2, 3, 4] [] [0, 1, 2, 3, 4] rfl rfl rfl rfl rfl rfl ?_
    subst hf
    exact j_iret C hQ rfl dX4_told_65 (Nat.zero_le _) (Nat.zero_le _) ⟨rfl, rfl⟩
  have hf := (if_neg e1_3).symm.trans hf
  have t1_0 : p2.toInt ≠ 0 := fun h => e1_0 (Int32.toInt_inj.mp h)
  have t1_1 : p2.toInt ≠ 1 := fun h => e1_1 (Int32.toInt_inj.mp h)
  have t1_2 : p2.toInt ≠ 2 := fun h => e1_2 (Int32.toInt_inj.mp h)
  have t1_3 : p2.toInt ≠ 3 := fun h => e1_3 (Int32.toInt_inj.mp h)
  refine j_tabOut C (tgt := 66) dX4_told_1 (by omega) (by decide) ?_
  refine j_aload_n C dX4_told_66 rfl 0 rfl ?_
  refine j_iload_n C dX4_told_67 rfl 1 rfl ?_
  refine j_iload_n C dX4_told_68 rfl 3 rfl ?_
  refine j_cV C (c_X4_room X.1 hl h4 a1 a2 a3 a4 lD lS lF lG lR p1 p3) k_X4_room gX4_told_X4_room rfl (ci := 4) (q0 := 0) rfl rfl (As := [.int p1, .int p3]) (rest := []) (st' := [.int (f_X4_room p1 p3 lD lF lR)]) (ws' := [(h4, .inr (4, [.int lD, .ref a1, .ref a2, .ref a3, .ref a4])), (a1, .inl (gI X.1, 8, .inl lS)), (a2, .inl (gI X.1, 8, .inl lF)), (a3, .inl (gI X.1, 8, .inl lG)), (a4, .inl (gI X.1, 8, .inl lR))]) rfl rfl dX4_told_69 [0, 1, 2, 3, 4] [] [0, 1, 2, 3, 4] rfl rfl rfl rfl rfl rfl ?_
  subst hf
  exact j_iret C hQ rfl dX4_told_72 (Nat.zero_le _) (Nat.zero_le _) ⟨rfl, rfl⟩
theorem c_X4_told (G : CG) (hl : (gL G).stackTraces = false) (h4 : Nat) (a1 : Nat) (a2 : Nat) (a3 : Nat) (a4 : Nat) (lD : Int32) (lS : (Nat → Int32)) (lF : (Nat → Int32)) (lG : (Nat → Int32)) (lR : (Nat → Int32)) (p1 : Int32) (p2 : Int32) (p3 : Int32) : Ct G yX4_told wsX4_told rm_X4_told [.ref h4, .int p1, .int p2, .int p3] [(h4, .inr (4, [.int lD, .ref a1, .ref a2, .ref a3, .ref a4])), (a1, .inl (gI G, 8, .inl lS)), (a2, .inl (gI G, 8, .inl lF)), (a3, .inl (gI G, 8, .inl lG)), (a4, .inl (gI G, 8, .inl lR))] (fin1 (some (.int (f_X4_told p1 p2 p3 lD lS lF lG lR))) [(h4, .inr (4, [.int lD, .ref a1, .ref a2, .ref a3, .ref a4])), (a1, .inl (gI G, 8, .inl lS)), (a2, .inl (gI G, 8, .inl lF)), (a3, .inl (gI G, 8, .inl lG)), (a4, .inl (gI G, 8, .inl lR))]) 0 0 := b_X4_told G hl h4 a1 a2 a3 a4 lD lS lF lG lR p1 p2 p3 _ rfl

end
