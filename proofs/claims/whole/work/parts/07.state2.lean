noncomputable section
theorem wd_X5_boxCanTake_ini_X7 : Cond.initialized RX7 ∈ wsX5_boxCanTake := by decide +kernel
theorem wd_X5_boxCanTake_sta_X7_isNumber : Cond.static yX7_isNumber ∈ wsX5_boxCanTake := by decide +kernel
def f_X5_boxCanTake_L21 (p1 : Int32) (p2 : Int32) (p3 : Int32) (vD : Int32) (vN : (Nat → Int32)) (x12_5 : Int32) (x3_4 : Int32) (x21_6 : Int32) : Option ((Int32) ⊕ ((Int32) ⊕ ((Int32) ⊕ (Int32)))) :=
  if p2 ≤ x21_6 then some (.inr (.inl (x12_5 + 1))) else if (f_X7_isNumber ((f_X5_number (p1 + (f_X5_place x21_6 x12_5 x3_4 vD)) vN) + p3)) = 0 then some (.inr (.inr (.inr (0)))) else some (.inl (x21_6 + 1))
def f_X5_boxCanTake_L12 (p1 : Int32) (p2 : Int32) (p3 : Int32) (vD : Int32) (vN : (Nat → Int32)) (x3_4 : Int32) (x12_5 : Int32) : Option ((Int32) ⊕ ((Int32) ⊕ (Int32))) :=
  if p2 ≤ x12_5 then some (.inr (.inl (x3_4 + 1))) else dz_it (fun s : Int32 => f_X5_boxCanTake_L21 p1 p2 p3 vD vN x12_5 x3_4 s) (0)
def f_X5_boxCanTake_L3 (p1 : Int32) (p2 : Int32) (p3 : Int32) (vD : Int32) (vN : (Nat → Int32)) (x3_4 : Int32) : Option ((Int32) ⊕ (Int32)) :=
  if p2 ≤ x3_4 then some (.inr (1)) else dz_it (fun s : Int32 => f_X5_boxCanTake_L12 p1 p2 p3 vD vN x3_4 s) (0)
def f_X5_boxCanTake (p1 : Int32) (p2 : Int32) (p3 : Int32) (vD : Int32) (vN : (Nat → Int32)) : Option (Int32) :=
  dz_it (fun s : Int32 => f_X5_boxCanTake_L3 p1 p2 p3 vD vN s) (0)
abbrev rm_X5_boxCanTake : Room := { frames := 3, cells := 0, slots := 0, locals := 58 }
theorem k_X5_boxCanTake : Cf yX5_boxCanTake wsX5_boxCanTake rm_X5_boxCanTake cX5_boxCanTake 7 (some .boolean) 3 := ⟨⟨_, rfl⟩, by decide +kernel, by decide +kernel, by decide +kernel⟩
set_option maxRecDepth 100000 in
set_option maxHeartbeats 4000000 in
theorem b_X5_boxCanTake (G : CG) (hl : (gL G).stackTraces = false) (h5 : Nat) (qn : Nat) (qm : Nat) (vD : Int32) (vA : Int32) (vL : Int32) (vN : (Nat → Int32)) (vM : (Nat → Int32)) (p1 : Int32) (p2 : Int32) (p3 : Int32) (y : Int32) (hf : f_X5_boxCanTake p1 p2 p3 vD vN = some y) : Ct G yX5_boxCanTake wsX5_boxCanTake rm_X5_boxCanTake [.ref h5, .int p1, .int p2, .int p3] [(h5, .inr (5, [.int vD, .int vA, .int vL, .ref qn, .ref qm])), (qn, .inl (gI G, 512, .inl vN)), (qm, .inl (gI G, 512, .inl vM))] (fin1 (some (.int y)) [(h5, .inr (5, [.int vD, .int vA, .int vL, .ref qn, .ref qm])), (qn, .inl (gI G, 512, .inl vN)), (qm, .inl (gI G, 512, .inl vM))]) 0 0 := by
  refine Ct.of (cc := cX5_boxCanTake) (N := 7) (ret := (some .boolean)) RX5 (by decide) rfl rfl hl (Nat.le_of_ble_eq_true rfl) (lv := [(0, .ref h5), (1, .int p1), (2, .int p2), (3, .int p3)]) rfl (fun X hXG C hex hnm hQ => ?_)
  subst hXG
  unfold f_X5_boxCanTake at hf
  refine j_iconst C (v := 0) dX5_boxCanTake_0 (by decide) ?_
  refine j_istore (lv' := [(4, .int 0), (0, .ref h5), (1, .int p1), (2, .int p2), (3, .int p3)]) C dX5_boxCanTake_1 (by decide) rfl ?_
  have kk3 : ∀ (n : Nat) (x3_4 : Int32), dz_iter n (fun s : Int32 => f_X5_boxCanTake_L3 p1 p2 p3 vD vN s) (x3_4) = some y → Jt X [(h5, .inr (5, [.int vD, .int vA, .int vL, .ref qn, .ref qm])), (qn, .inl (gI X.1, 512, .inl vN)), (qm, .inl (gI X.1, 512, .inl vM))] 0 0 3 [(0, .ref h5), (1, .int p1), (2, .int p2), (3, .int p3), (4, .int x3_4)] [] := by
    intro n
    induction n with
    | zero => intro x3_4 hit; exact absurd hit (by simp [dz_iter])
    | succ n ih3 =>
      intro x3_4 hit
      obtain ⟨y3, hf, hg3⟩ := dz_iter_succ hit
      replace hf : f_X5_boxCanTake_L3 p1 p2 p3 vD vN x3_4 = some y3 := hf
      unfold f_X5_boxCanTake_L3 at hf
      refine j_iload C dX5_boxCanTake_3 4 rfl ?_
      refine j_iload_n C dX5_boxCanTake_5 rfl 2 rfl ?_
      refine j_icmp_ge C (tgt := 71) dX5_boxCanTake_6 (by decide) (fun e6 => ?_) (fun e6 => ?_)
      · have hf := (if_pos e6).symm.trans hf
        refine j_iconst C (v := 1) dX5_boxCanTake_71 (by decide) ?_
        obtain rfl := Option.some.inj hf
        obtain rfl := dz_go_inr hg3
        exact j_zret C hQ rfl rfl dX5_boxCanTake_72 (Nat.zero_le _) (Nat.zero_le _) ⟨rfl, rfl⟩
      · have hf := (if_neg e6).symm.trans hf
        refine j_iconst C (v := 0) dX5_boxCanTake_9 (by decide) ?_
        refine j_istore (lv' := [(5, .int 0), (0, .ref h5), (1, .int p1), (2, .int p2), (3, .int p3), (4, .int x3_4)]) C dX5_boxCanTake_10 (by decide) rfl ?_
        have kk12 : ∀ (n : Nat) (x12_5 : Int32), dz_iter n (fun s : Int32 => f_X5_boxCanTake_L12 p1 p2 p3 vD vN x3_4 s) (x12_5) = some y3 → Jt X [(h5, .inr (5, [.int vD, .int vA, .int vL, .ref qn, .ref qm])), (qn, .inl (gI X.1, 512, .inl vN)), (qm, .inl (gI X.1, 512, .inl vM))] 0 0 12 [(0, .ref h5), (1, .int p1), (2, .int p2), (3, .int p3), (4, .int x3_4), (5, .int x12_5)] [] := by
          intro n
          induction n with
          | zero => intro x12_5 hit; exact absurd hit (by simp [dz_iter])
          | succ n ih12 =>
            intro x12_5 hit
            obtain ⟨y12, hf, hg12⟩ := dz_iter_succ hit
            replace hf : f_X5_boxCanTake_L12 p1 p2 p3 vD vN x3_4 x12_5 = some y12 := hf
            unfold f_X5_boxCanTake_L12 at hf
            refine j_iload C dX5_boxCanTake_12 5 rfl ?_
            refine j_iload_n C dX5_boxCanTake_14 rfl 2 rfl ?_
            refine j_icmp_ge C (tgt := 65) dX5_boxCanTake_15 (by decide) (fun e15 => ?_) (fun e15 => ?_)
            · have hf := (if_pos e15).symm.trans hf
              refine j_iinc (v := (x3_4 + 1)) (lv' := [(4, .int (x3_4 + 1)), (0, .ref h5), (1, .int p1), (2, .int p2), (3, .int p3), (5, .int x12_5)]) C dX5_boxCanTake_65 4 rfl (by first | rfl | decide) (by decide) rfl ?_
              refine j_goto C (tgt := 3) dX5_boxCanTake_68 (by decide) ?_
              obtain rfl := Option.some.inj hf
              obtain rfl := dz_go_inr hg12
              have hf := dz_go_inl hg3
              refine j_loc [1, 2, 3, 4, 0] rfl ?_
              exact ih3 (x3_4 + 1) hf
            · have hf := (if_neg e15).symm.trans hf
              refine j_iconst C (v := 0) dX5_boxCanTake_18 (by decide) ?_
              refine j_istore (lv' := [(6, .int 0), (0, .ref h5), (1, .int p1), (2, .int p2), (3, .int p3), (4, .int x3_4), (5, .int x12_5)]) C dX5_boxCanTake_19 (by decide) rfl ?_
              have kk21 : ∀ (n : Nat) (x21_6 : Int32), dz_iter n (fun s : Int32 => f_X5_boxCanTake_L21 p1 p2 p3 vD vN x12_5 x3_4 s) (x21_6) = some y12 → Jt X [(h5, .inr (5, [.int vD, .int vA, .int vL, .ref qn, .ref qm])), (qn, .inl (gI X.1, 512, .inl vN)), (qm, .inl (gI X.1, 512, .inl vM))] 0 0 21 [(0, .ref h5), (1, .int p1), (2, .int p2), (3, .int p3), (4, .int x3_4), (5, .int x12_5), (6, .int x21_6)] [] := by
                intro n
                induction n with
                | zero => intro x21_6 hit; exact absurd hit (by simp [dz_iter])
                | succ n ih21 =>
                  intro x21_6 hit
                  obtain ⟨y21, hf, hg21⟩ := dz_iter_succ hit
                  replace hf : f_X5_boxCanTake_L21 p1 p2 p3 vD vN x12_5 x3_4 x21_6 = some y21 := hf
                  unfold f_X5_boxCanTake_L21 at hf
                  refine j_iload C dX5_boxCanTake_21 6 rfl ?_
                  refine j_iload_n C dX5_boxCanTake_23 rfl 2 rfl ?_
                  refine j_icmp_ge C (tgt := 59) dX5_boxCanTake_24 (by decide) (fun e24 => ?_) (fun e24 => ?_)
                  · have hf := (if_pos e24).symm.trans hf
                    refine j_iinc (v := (x12_5 + 1)) (lv' := [(5, .int (x12_5 + 1)), (0, .ref h5), (1, .int p1), (2, .int p2), (3, .int p3), (4, .int x3_4), (6, .int x21_6)]) C dX5_boxCanTake_59 5 rfl (by first | rfl | decide) (by decide) rfl ?_
                    refine j_goto C (tgt := 12) dX5_boxCanTake_62 (by decide) ?_
                    obtain rfl := Option.some.inj hf
                    obtain rfl := dz_go_inr hg21
                    have hf := dz_go_inl hg12
                    refine j_loc [1, 2, 3, 4, 5, 0] rfl ?_
                    exact ih12 (x12_5 + 1) hf
                  · have hf := (if_neg e24).symm.trans hf
                    refine j_aload_n C dX5_boxCanTake_27 rfl 0 rfl ?_
                    refine j_iload_n C dX5_boxCanTake_28 rfl 1 rfl ?_
                    refine j_aload_n C dX5_boxCanTake_29 rfl 0 rfl ?_
                    refine j_iload C dX5_boxCanTake_30 6 rfl ?_
                    refine j_iload C dX5_boxCanTake_32 5 rfl ?_
                    refine j_iload C dX5_boxCanTake_34 4 rfl ?_
                    refine j_cV C (c_X5_place X.1 hl h5 qn qm vD vA vL vN vM x21_6 x12_5 x3_4) k_X5_place gX5_boxCanTake_X5_place rfl (ci := 5) (q0 := 0) rfl rfl (As := [.int x21_6, .int x12_5, .int x3_4]) (rest := [.int p1, .ref h5]) (st' := [.int (f_X5_place x21_6 x12_5 x3_4 vD), .int p1, .ref h5]) (ws' := [(h5, .inr (5, [.int vD, .int vA, .int vL, .ref qn, .ref qm])), (qn, .inl (gI X.1, 512, .inl vN)), (qm, .inl (gI X.1, 512, .inl vM))]) rfl rfl dX5_boxCanTake_36 [0, 1, 2] [] [0, 1, 2] rfl rfl rfl rfl rfl rfl ?_
                    refine j_iadd C dX5_boxCanTake_39 ?_
                    refine j_cV C (c_X5_number X.1 hl h5 qn qm vD vA vL vN vM (p1 + (f_X5_place x21_6 x12_5 x3_4 vD))) k_X5_number gX5_boxCanTake_X5_number rfl (ci := 5) (q0 := 0) rfl rfl (As := [.int (p1 + (f_X5_place x21_6 x12_5 x3_4 vD))]) (rest := []) (st' := [.int (f_X5_number (p1 + (f_X5_place x21_6 x12_5 x3_4 vD)) vN)]) (ws' := [(h5, .inr (5, [.int vD, .int vA, .int vL, .ref qn, .ref qm])), (qn, .inl (gI X.1, 512, .inl vN)), (qm, .inl (gI X.1, 512, .inl vM))]) rfl rfl dX5_boxCanTake_40 [0, 1, 2] [] [0, 1, 2] rfl rfl rfl rfl rfl rfl ?_
                    refine j_iload_n C dX5_boxCanTake_43 rfl 3 rfl ?_
                    refine j_iadd C dX5_boxCanTake_44 ?_
                    refine j_cN C (c_X7_isNumber X.1 hl ((f_X5_number (p1 + (f_X5_place x21_6 x12_5 x3_4 vD)) vN) + p3)) k_X7_isNumber gX5_boxCanTake_X7_isNumber_n65 nw_X5_65 wd_X5_boxCanTake_ini_X7 wd_X5_boxCanTake_sta_X7_isNumber (As := [.int ((f_X5_number (p1 + (f_X5_place x21_6 x12_5 x3_4 vD)) vN) + p3)]) (rest := []) (st' := [.int (f_X7_isNumber ((f_X5_number (p1 + (f_X5_place x21_6 x12_5 x3_4 vD)) vN) + p3))]) (ws' := [(h5, .inr (5, [.int vD, .int vA, .int vL, .ref qn, .ref qm])), (qn, .inl (gI X.1, 512, .inl vN)), (qm, .inl (gI X.1, 512, .inl vM))]) rfl rfl dX5_boxCanTake_45 [] [0, 1, 2] [0, 1, 2] rfl rfl rfl rfl rfl rfl ?_
                    refine j_if_ne C (tgt := 53) dX5_boxCanTake_48 (by decide) (fun e48 => ?_) (fun e48 => ?_)
                    · have hf := (if_neg e48).symm.trans hf
                      refine j_iinc (v := (x21_6 + 1)) (lv' := [(6, .int (x21_6 + 1)), (0, .ref h5), (1, .int p1), (2, .int p2), (3, .int p3), (4, .int x3_4), (5, .int x12_5)]) C dX5_boxCanTake_53 6 rfl (by first | rfl | decide) (by decide) rfl ?_
                      refine j_goto C (tgt := 21) dX5_boxCanTake_56 (by decide) ?_
                      obtain rfl := Option.some.inj hf
                      have hf := dz_go_inl hg21
                      refine j_loc [1, 2, 3, 4, 5, 6, 0] rfl ?_
                      exact ih21 (x21_6 + 1) hf
                    · have hf := (if_pos e48).symm.trans hf
                      refine j_iconst C (v := 0) dX5_boxCanTake_51 (by decide) ?_
                      obtain rfl := Option.some.inj hf
                      obtain rfl := dz_go_inr hg21
                      obtain rfl := dz_go_inr hg12
                      obtain rfl := dz_go_inr hg3
                      exact j_zret C hQ rfl rfl dX5_boxCanTake_52 (Nat.zero_le _) (Nat.zero_le _) ⟨rfl, rfl⟩
              refine j_loc [1, 2, 3, 4, 5, 6, 0] rfl ?_
              exact kk21 _ 0 hf
        refine j_loc [1, 2, 3, 4, 5, 0] rfl ?_
        exact kk12 _ 0 hf
  refine j_loc [1, 2, 3, 4, 0] rfl ?_
  exact kk3 _ 0 hf

def f_X5_addToBox_J70 (p1 : Int32) (p3 : Int32) (vD : Int32) (vN_24 : (Nat → Int32)) (x15_6 : Int32) (x24_7 : Int32) (x6_5 : Int32) (x70_4 : Int32) : Option ((Int32 × Int32 × (Nat → Int32)) ⊕ ((Int32 × Int32 × (Nat → Int32)) ⊕ ((Int32 × Int32 × (Nat → Int32)) ⊕ (Int32 × (Nat → Int32))))) :=
  some (.inl (x70_4, (x24_7 + 1), (f_X5_write (p1 + (f_X5_place x24_7 x15_6 x6_5 vD)) ((f_X5_number (p1 + (f_X5_place x24_7 x15_6 x6_5 vD)) vN_24) + p3) vN_24)))
def f_X5_addToBox_L24 (p1 : Int32) (p2 : Int32) (p3 : Int32) (vD : Int32) (x15_6 : Int32) (x6_5 : Int32) (x24_4 : Int32) (x24_7 : Int32) (vN_24 : (Nat → Int32)) : Option ((Int32 × Int32 × (Nat → Int32)) ⊕ ((Int32 × Int32 × (Nat → Int32)) ⊕ ((Int32 × Int32 × (Nat → Int32)) ⊕ (Int32 × (Nat → Int32))))) :=
  if p2 ≤ x24_7 then some (.inr (.inl (x24_4, (x15_6 + 1), vN_24))) else if ((f_X5_number (p1 + (f_X5_place x24_7 x15_6 x6_5 vD)) vN_24) + p3) = 0 then (f_X5_addToBox_J70 p1 p3 vD vN_24 x15_6 x24_7 x6_5 x24_4) else (f_X5_addToBox_J70 p1 p3 vD vN_24 x15_6 x24_7 x6_5 (x24_4 + 1))
def f_X5_addToBox_L15 (p1 : Int32) (p2 : Int32) (p3 : Int32) (vD : Int32) (x6_5 : Int32) (x15_4 : Int32) (x15_6 : Int32) (vN_15 : (Nat → Int32)) : Option ((Int32 × Int32 × (Nat → Int32)) ⊕ ((Int32 × Int32 × (Nat → Int32)) ⊕ (Int32 × (Nat → Int32)))) :=
  if p2 ≤ x15_6 then some (.inr (.inl (x15_4, (x6_5 + 1), vN_15))) else dz_it (fun s : Int32 × Int32 × (Nat → Int32) => f_X5_addToBox_L24 p1 p2 p3 vD x15_6 x6_5 s.1 s.2.1 s.2.2) (x15_4, 0, vN_15)
def f_X5_addToBox_L6 (p1 : Int32) (p2 : Int32) (p3 : Int32) (vD : Int32) (x6_4 : Int32) (x6_5 : Int32) (vN_6 : (Nat → Int32)) : Option ((Int32 × Int32 × (Nat → Int32)) ⊕ (Int32 × (Nat → Int32))) :=
  if p2 ≤ x6_5 then some (.inr ((x6_4, vN_6))) else dz_it (fun s : Int32 × Int32 × (Nat → Int32) => f_X5_addToBox_L15 p1 p2 p3 vD x6_5 s.1 s.2.1 s.2.2) (x6_4, 0, vN_6)
def f_X5_addToBox (p1 : Int32) (p2 : Int32) (p3 : Int32) (vD : Int32) (vN : (Nat → Int32)) : Option (Int32 × (Nat → Int32)) :=
  dz_it (fun s : Int32 × Int32 × (Nat → Int32) => f_X5_addToBox_L6 p1 p2 p3 vD s.1 s.2.1 s.2.2) (0, 0, vN)
abbrev rm_X5_addToBox : Room := { frames := 3, cells := 0, slots := 0, locals := 60 }
theorem k_X5_addToBox : Cf yX5_addToBox wsX5_addToBox rm_X5_addToBox cX5_addToBox 10 (some .int) 3 := ⟨⟨_, rfl⟩, by decide +kernel, by decide +kernel, by decide +kernel⟩
set_option maxRecDepth 100000 in
set_option maxHeartbeats 4000000 in
theorem b_X5_addToBox (G : CG) (hl : (gL G).stackTraces = false) (h5 : Nat) (qn : Nat) (qm : Nat) (vD : Int32) (vA : Int32) (vL : Int32) (vN : (Nat → Int32)) (vM : (Nat → Int32)) (p1 : Int32) (p2 : Int32) (p3 : Int32) (y : Int32 × (Nat → Int32)) (hf : f_X5_addToBox p1 p2 p3 vD vN = some y) : Ct G yX5_addToBox wsX5_addToBox rm_X5_addToBox [.ref h5, .int p1, .int p2, .int p3] [(h5, .inr (5, [.int vD, .int vA, .int vL, .ref qn, .ref qm])), (qn, .inl (gI G, 512, .inl vN)), (qm, .inl (gI G, 512, .inl vM))] (fin1 (some (.int y.1)) [(h5, .inr (5, [.int vD, .int vA, .int vL, .ref qn, .ref qm])), (qn, .inl (gI G, 512, .inl y.2)), (qm, .inl (gI G, 512, .inl vM))]) 0 0 := by
  refine Ct.of (cc := cX5_addToBox) (N := 10) (ret := (some .int)) RX5 (by decide) rfl rfl hl (Nat.le_of_ble_eq_true rfl) (lv := [(0, .ref h5), (1, .int p1), (2, .int p2), (3, .int p3)]) rfl (fun X hXG C hex hnm hQ => ?_)
  subst hXG
  unfold f_X5_addToBox at hf
  refine j_iconst C (v := 0) dX5_addToBox_0 (by decide) ?_
  refine j_istore (lv' := [(4, .int 0), (0, .ref h5), (1, .int p1), (2, .int p2), (3, .int p3)]) C dX5_addToBox_1 (by decide) rfl ?_
  refine j_iconst C (v := 0) dX5_addToBox_3 (by decide) ?_
  refine j_istore (lv' := [(5, .int 0), (4, .int 0), (0, .ref h5), (1, .int p1), (2, .int p2), (3, .int p3)]) C dX5_addToBox_4 (by decide) rfl ?_
  have kk6 : ∀ (n : Nat) (x6_4 : Int32) (x6_5 : Int32) (vN_6 : (Nat → Int32)), dz_iter n (fun s : Int32 × Int32 × (Nat → Int32) => f_X5_addToBox_L6 p1 p2 p3 vD s.1 s.2.1 s.2.2) (x6_4, x6_5, vN_6) = some y → Jt X [(h5, .inr (5, [.int vD, .int vA, .int vL, .ref qn, .ref qm])), (qn, .inl (gI X.1, 512, .inl vN_6)), (qm, .inl (gI X.1, 512, .inl vM))] 0 0 6 [(0, .ref h5), (1, .int p1), (2, .int p2), (3, .int p3), (4, .int x6_4), (5, .int x6_5)] [] := by
    intro n
    induction n with
    | zero => intro x6_4 x6_5 vN_6 hit; exact absurd hit (by simp [dz_iter])
    | succ n ih6 =>
      intro x6_4 x6_5 vN_6 hit
      obtain ⟨y6, hf, hg6⟩ := dz_iter_succ hit
      replace hf : f_X5_addToBox_L6 p1 p2 p3 vD x6_4 x6_5 vN_6 = some y6 := hf
      unfold f_X5_addToBox_L6 at hf
      refine j_iload C dX5_addToBox_6 5 rfl ?_
      refine j_iload_n C dX5_addToBox_8 rfl 2 rfl ?_
      refine j_icmp_ge C (tgt := 88) dX5_addToBox_9 (by decide) (fun e9 => ?_) (fun e9 => ?_)
      · have hf := (if_pos e9).symm.trans hf
        refine j_iload C dX5_addToBox_88 4 rfl ?_
        obtain rfl := Option.some.inj hf
        obtain rfl := dz_go_inr hg6
        exact j_iret C hQ rfl dX5_addToBox_90 (Nat.zero_le _) (Nat.zero_le _) ⟨rfl, rfl⟩
      · have hf := (if_neg e9).symm.trans hf
        refine j_iconst C (v := 0) dX5_addToBox_12 (by decide) ?_
        refine j_istore (lv' := [(6, .int 0), (0, .ref h5), (1, .int p1), (2, .int p2), (3, .int p3), (4, .int x6_4), (5, .int x6_5)]) C dX5_addToBox_13 (by decide) rfl ?_
        have kk15 : ∀ (n : Nat) (x15_4 : Int32) (x15_6 : Int32) (vN_15 : (Nat → Int32)), dz_iter n (fun s : Int32 × Int32 × (Nat → Int32) => f_X5_addToBox_L15 p1 p2 p3 vD x6_5 s.1 s.2.1 s.2.2) (x15_4, x15_6, vN_15) = some y6 → Jt X [(h5, .inr (5, [.int vD, .int vA, .int vL, .ref qn, .ref qm])), (qn, .inl (gI X.1, 512, .inl vN_15)), (qm, .inl (gI X.1, 512, .inl vM))] 0 0 15 [(0, .ref h5), (1, .int p1), (2, .int p2), (3, .int p3), (4, .int x15_4), (5, .int x6_5), (6, .int x15_6)] [] := by
          intro n
          induction n with
          | zero => intro x15_4 x15_6 vN_15 hit; exact absurd hit (by simp [dz_iter])
          | succ n ih15 =>
            intro x15_4 x15_6 vN_15 hit
            obtain ⟨y15, hf, hg15⟩ := dz_iter_succ hit
            replace hf : f_X5_addToBox_L15 p1 p2 p3 vD x6_5 x15_4 x15_6 vN_15 = some y15 := hf
            unfold f_X5_addToBox_L15 at hf
            refine j_iload C dX5_addToBox_15 6 rfl ?_
            refine j_iload_n C dX5_addToBox_17 rfl 2 rfl ?_
            refine j_icmp_ge C (tgt := 82) dX5_addToBox_18 (by decide) (fun e18 => ?_) (fun e18 => ?_)
            · have hf := (if_pos e18).symm.trans hf
              refine j_iinc (v := (x6_5 + 1)) (lv' := [(5, .int (x6_5 + 1)), (0, .ref h5), (1, .int p1), (2, .int p2), (3, .int p3), (4, .int x15_4), (6, .int x15_6)]) C dX5_addToBox_82 5 rfl (by first | rfl | decide) (by decide) rfl ?_
              refine j_goto C (tgt := 6) dX5_addToBox_85 (by decide) ?_
              obtain rfl := Option.some.inj hf
              obtain rfl := dz_go_inr hg15
              have hf := dz_go_inl hg6
              refine j_loc [1, 2, 3, 4, 5, 0] rfl ?_
              exact ih6 x15_4 (x6_5 + 1) vN_15 hf
            · have hf := (if_neg e18).symm.trans hf
              refine j_iconst C (v := 0) dX5_addToBox_21 (by decide) ?_
              refine j_istore (lv' := [(7, .int 0), (0, .ref h5), (1, .int p1), (2, .int p2), (3, .int p3), (4, .int x15_4), (5, .int x6_5), (6, .int x15_6)]) C dX5_addToBox_22 (by decide) rfl ?_
              have kk24 : ∀ (n : Nat) (x24_4 : Int32) (x24_7 : Int32) (vN_24 : (Nat → Int32)), dz_iter n (fun s : Int32 × Int32 × (Nat → Int32) => f_X5_addToBox_L24 p1 p2 p3 vD x15_6 x6_5 s.1 s.2.1 s.2.2) (x24_4, x24_7, vN_24) = some y15 → Jt X [(h5, .inr (5, [.int vD, .int vA, .int vL, .ref qn, .ref qm])), (qn, .inl (gI X.1, 512, .inl vN_24)), (qm, .inl (gI X.1, 512, .inl vM))] 0 0 24 [(0, .ref h5), (1, .int p1), (2, .int p2), (3, .int p3), (4, .int x24_4), (5, .int x6_5), (6, .int x15_6), (7, .int x24_7)] [] := by
                intro n
                induction n with
                | zero => intro x24_4 x24_7 vN_24 hit; exact absurd hit (by simp [dz_iter])
                | succ n ih24 =>
                  intro x24_4 x24_7 vN_24 hit
                  obtain ⟨y24, hf, hg24⟩ := dz_iter_succ hit
                  replace hf : f_X5_addToBox_L24 p1 p2 p3 vD x15_6 x6_5 x24_4 x24_7 vN_24 = some y24 := hf
                  unfold f_X5_addToBox_L24 at hf
                  refine j_iload C dX5_addToBox_24 7 rfl ?_
                  refine j_iload_n C dX5_addToBox_26 rfl 2 rfl ?_
                  refine j_icmp_ge C (tgt := 76) dX5_addToBox_27 (by decide) (fun e27 => ?_) (fun e27 => ?_)
                  · have hf := (if_pos e27).symm.trans hf
                    refine j_iinc (v := (x15_6 + 1)) (lv' := [(6, .int (x15_6 + 1)), (0, .ref h5), (1, .int p1), (2, .int p2), (3, .int p3), (4, .int x24_4), (5, .int x6_5), (7, .int x24_7)]) C dX5_addToBox_76 6 rfl (by first | rfl | decide) (by decide) rfl ?_
                    refine j_goto C (tgt := 15) dX5_addToBox_79 (by decide) ?_
                    obtain rfl := Option.some.inj hf
                    obtain rfl := dz_go_inr hg24
                    have hf := dz_go_inl hg15
                    refine j_loc [1, 2, 3, 4, 5, 6, 0] rfl ?_
                    exact ih15 x24_4 (x15_6 + 1) vN_24 hf
                  · have hf := (if_neg e27).symm.trans hf
                    refine j_iload_n C dX5_addToBox_30 rfl 1 rfl ?_
                    refine j_aload_n C dX5_addToBox_31 rfl 0 rfl ?_
                    refine j_iload C dX5_addToBox_32 7 rfl ?_
                    refine j_iload C dX5_addToBox_34 6 rfl ?_
                    refine j_iload C dX5_addToBox_36 5 rfl ?_
                    refine j_cV C (c_X5_place X.1 hl h5 qn qm vD vA vL vN_24 vM x24_7 x15_6 x6_5) k_X5_place gX5_addToBox_X5_place rfl (ci := 5) (q0 := 0) rfl rfl (As := [.int x24_7, .int x15_6, .int x6_5]) (rest := [.int p1]) (st' := [.int (f_X5_place x24_7 x15_6 x6_5 vD), .int p1]) (ws' := [(h5, .inr (5, [.int vD, .int vA, .int vL, .ref qn, .ref qm])), (qn, .inl (gI X.1, 512, .inl vN_24)), (qm, .inl (gI X.1, 512, .inl vM))]) rfl rfl dX5_addToBox_38 [0, 1, 2] [] [0, 1, 2] rfl rfl rfl rfl rfl rfl ?_
                    refine j_iadd C dX5_addToBox_41 ?_
                    refine j_istore (lv' := [(8, .int (p1 + (f_X5_place x24_7 x15_6 x6_5 vD))), (0, .ref h5), (1, .int p1), (2, .int p2), (3, .int p3), (4, .int x24_4), (5, .int x6_5), (6, .int x15_6), (7, .int x24_7)]) C dX5_addToBox_42 (by decide) rfl ?_
                    refine j_aload_n C dX5_addToBox_44 rfl 1 rfl ?_
                    refine j_iload C dX5_addToBox_45 0 rfl ?_
                    refine j_cV C (c_X5_number X.1 hl h5 qn qm vD vA vL vN_24 vM (p1 + (f_X5_place x24_7 x15_6 x6_5 vD))) k_X5_number gX5_addToBox_X5_number rfl (ci := 5) (q0 := 0) rfl rfl (As := [.int (p1 + (f_X5_place x24_7 x15_6 x6_5 vD))]) (rest := []) (st' := [.int (f_X5_number (p1 + (f_X5_place x24_7 x15_6 x6_5 vD)) vN_24)]) (ws' := [(h5, .inr (5, [.int vD, .int vA, .int vL, .ref qn, .ref qm])), (qn, .inl (gI X.1, 512, .inl vN_24)), (qm, .inl (gI X.1, 512, .inl vM))]) rfl rfl dX5_addToBox_47 [0, 1, 2] [] [0, 1, 2] rfl rfl rfl rfl rfl rfl ?_
                    refine j_iload_n C dX5_addToBox_50 rfl 4 rfl ?_
                    refine j_iadd C dX5_addToBox_51 ?_
                    refine j_istore (lv' := [(9, .int ((f_X5_number (p1 + (f_X5_place x24_7 x15_6 x6_5 vD)) vN_24) + p3)), (8, .int (p1 + (f_X5_place x24_7 x15_6 x6_5 vD))), (0, .ref h5), (1, .int p1), (2, .int p2), (3, .int p3), (4, .int x24_4), (5, .int x6_5), (6, .int x15_6), (7, .int x24_7)]) C dX5_addToBox_52 (by decide) rfl ?_
                    refine j_aload_n C dX5_addToBox_54 rfl 2 rfl ?_
                    refine j_iload C dX5_addToBox_55 1 rfl ?_
                    refine j_iload C dX5_addToBox_57 0 rfl ?_
                    refine j_cV C (c_X5_write X.1 hl h5 qn qm vD vA vL vN_24 vM (p1 + (f_X5_place x24_7 x15_6 x6_5 vD)) ((f_X5_number (p1 + (f_X5_place x24_7 x15_6 x6_5 vD)) vN_24) + p3)) k_X5_write gX5_addToBox_X5_write rfl (ci := 5) (q0 := 0) rfl rfl (As := [.int (p1 + (f_X5_place x24_7 x15_6 x6_5 vD)), .int ((f_X5_number (p1 + (f_X5_place x24_7 x15_6 x6_5 vD)) vN_24) + p3)]) (rest := []) (st' := []) (ws' := [(h5, .inr (5, [.int vD, .int vA, .int vL, .ref qn, .ref qm])), (qn, .inl (gI X.1, 512, .inl (f_X5_write (p1 + (f_X5_place x24_7 x15_6 x6_5 vD)) ((f_X5_number (p1 + (f_X5_place x24_7 x15_6 x6_5 vD)) vN_24) + p3) vN_24))), (qm, .inl (gI X.1, 512, .inl vM))]) rfl rfl dX5_addToBox_59 [0, 1, 2] [] [0, 1, 2] rfl rfl rfl rfl rfl rfl ?_
                    refine j_iload C dX5_addToBox_62 0 rfl ?_
                    have k70 : ∀ (x70_4 : Int32), f_X5_addToBox_J70 p1 p3 vD vN_24 x15_6 x24_7 x6_5 x70_4 = some y24 → Jt X [(h5, .inr (5, [.int vD, .int vA, .int vL, .ref qn, .ref qm])), (qn, .inl (gI X.1, 512, .inl (f_X5_write (p1 + (f_X5_place x24_7 x15_6 x6_5 vD)) ((f_X5_number (p1 + (f_X5_place x24_7 x15_6 x6_5 vD)) vN_24) + p3) vN_24))), (qm, .inl (gI X.1, 512, .inl vM))] 0 0 70 [(0, .ref h5), (1, .int p1), (2, .int p2), (3, .int p3), (4, .int x70_4), (5, .int x6_5), (6, .int x15_6), (7, .int x24_7), (8, .int (p1 + (f_X5_place x24_7 x15_6 x6_5 vD))), (9, .int ((f_X5_number (p1 + (f_X5_place x24_7 x15_6 x6_5 vD)) vN_24) + p3))] [] := by
                      intro x70_4 hf
                      unfold f_X5_addToBox_J70 at hf
                      refine j_iinc (v := (x24_7 + 1)) (lv' := [(7, .int (x24_7 + 1)), (0, .ref h5), (1, .int p1), (2, .int p2), (3, .int p3), (4, .int x70_4), (5, .int x6_5), (6, .int x15_6), (8, .int (p1 + (f_X5_place x24_7 x15_6 x6_5 vD))), (9, .int ((f_X5_number (p1 + (f_X5_place x24_7 x15_6 x6_5 vD)) vN_24) + p3))]) C dX5_addToBox_70 7 rfl (by first | rfl | decide) (by decide) rfl ?_
                      refine j_goto C (tgt := 24) dX5_addToBox_73 (by decide) ?_
                      obtain rfl := Option.some.inj hf
                      have hf := dz_go_inl hg24
                      refine j_loc [1, 2, 3, 4, 5, 6, 7, 0] rfl ?_
                      exact ih24 x70_4 (x24_7 + 1) (f_X5_write (p1 + (f_X5_place x24_7 x15_6 x6_5 vD)) ((f_X5_number (p1 + (f_X5_place x24_7 x15_6 x6_5 vD)) vN_24) + p3) vN_24) hf
                    refine j_if_eq C (tgt := 70) dX5_addToBox_64 (by decide) (fun e64 => ?_) (fun e64 => ?_)
                    · have hf := (if_pos e64).symm.trans hf
                      refine j_loc [2, 3, 4, 5, 6, 7, 8, 9, 1, 0] rfl ?_
                      exact k70 x24_4 hf
                    · have hf := (if_neg e64).symm.trans hf
                      refine j_iinc (v := (x24_4 + 1)) (lv' := [(4, .int (x24_4 + 1)), (9, .int ((f_X5_number (p1 + (f_X5_place x24_7 x15_6 x6_5 vD)) vN_24) + p3)), (8, .int (p1 + (f_X5_place x24_7 x15_6 x6_5 vD))), (0, .ref h5), (1, .int p1), (2, .int p2), (3, .int p3), (5, .int x6_5), (6, .int x15_6), (7, .int x24_7)]) C dX5_addToBox_67 6 rfl (by first | rfl | decide) (by decide) rfl ?_
                      refine j_loc [3, 4, 5, 6, 0, 7, 8, 9, 2, 1] rfl ?_
                      exact k70 (x24_4 + 1) hf
              refine j_loc [1, 2, 3, 4, 5, 6, 7, 0] rfl ?_
              exact kk24 _ x15_4 0 vN_15 hf
        refine j_loc [1, 2, 3, 4, 5, 6, 0] rfl ?_
        exact kk15 _ x6_4 0 vN_6 hf
  refine j_loc [2, 3, 4, 5, 1, 0] rfl ?_
  exact kk6 _ 0 0 vN hf

theorem lk_X5_clearSlice_9 : Cond.fieldLink RX5 9 (TX5 0).1 (TX5 0).2.1 (TX5 0).2.2.1 ∈ wsX5_clearSlice := by decide +kernel
theorem in_X5_clearSlice_5 : ∀ w ∈ wsX50, w ∈ wsX5_clearSlice := by decide +kernel
theorem wd_X5_clearSlice_ini_X7 : Cond.initialized RX7 ∈ wsX5_clearSlice := by decide +kernel
theorem wd_X5_clearSlice_sta_X7_formerOf : Cond.static yX7_formerOf ∈ wsX5_clearSlice := by decide +kernel
def f_X5_clearSlice_J58 (p1 : Int32) (vD : Int32) (vN_37 : (Nat → Int32)) (x37_6 : Int32) (x37_7 : Int32) (x58_3 : Int32) : Option ((Int32 × Int32 × Int32 × (Nat → Int32)) ⊕ ((Int32 × Int32 × (Nat → Int32)) ⊕ (Int32 × (Nat → Int32)))) :=
  some (.inl (x58_3, (x37_6 + (f_X5_step (f_X7_formerOf p1) vD)), (x37_7 + 1), (f_X5_write x37_6 0 vN_37)))
def f_X5_clearSlice_L37 (p1 : Int32) (vD : Int32) (x15_5 : Int32) (x37_3 : Int32) (x37_6 : Int32) (x37_7 : Int32) (vN_37 : (Nat → Int32)) : Option ((Int32 × Int32 × Int32 × (Nat → Int32)) ⊕ ((Int32 × Int32 × (Nat → Int32)) ⊕ (Int32 × (Nat → Int32)))) :=
  if vD ≤ x37_7 then some (.inr (.inl (x37_3, (x15_5 + 1), vN_37))) else if (f_X5_number x37_6 vN_37) = 0 then (f_X5_clearSlice_J58 p1 vD vN_37 x37_6 x37_7 x37_3) else (f_X5_clearSlice_J58 p1 vD vN_37 x37_6 x37_7 (x37_3 + 1))
def f_X5_clearSlice_L15 (p1 : Int32) (p2 : Int32) (vD : Int32) (x15_3 : Int32) (x15_5 : Int32) (vN_15 : (Nat → Int32)) : Option ((Int32 × Int32 × (Nat → Int32)) ⊕ (Int32 × (Nat → Int32))) :=
  if vD ≤ x15_5 then some (.inr ((x15_3, vN_15))) else dz_it (fun s : Int32 × Int32 × Int32 × (Nat → Int32) => f_X5_clearSlice_L37 p1 vD x15_5 s.1 s.2.1 s.2.2.1 s.2.2.2) (x15_3, (f_X5_rowStart p1 p2 x15_5 vD), 0, vN_15)
def f_X5_clearSlice (p1 : Int32) (p2 : Int32) (vD : Int32) (vN : (Nat → Int32)) : Option (Int32 × (Nat → Int32)) :=
  dz_it (fun s : Int32 × Int32 × (Nat → Int32) => f_X5_clearSlice_L15 p1 p2 vD s.1 s.2.1 s.2.2) (0, 0, vN)
abbrev rm_X5_clearSlice : Room := { frames := 3, cells := 0, slots := 0, locals := 60 }
theorem k_X5_clearSlice : Cf yX5_clearSlice wsX5_clearSlice rm_X5_clearSlice cX5_clearSlice 8 (some .int) 2 := ⟨⟨_, rfl⟩, by decide +kernel, by decide +kernel, by decide +kernel⟩
set_option maxRecDepth 100000 in
set_option maxHeartbeats 4000000 in
theorem b_X5_clearSlice (G : CG) (hl : (gL G).stackTraces = false) (h5 : Nat) (qn : Nat) (qm : Nat) (vD : Int32) (vA : Int32) (vL : Int32) (vN : (Nat → Int32)) (vM : (Nat → Int32)) (p1 : Int32) (p2 : Int32) (y : Int32 × (Nat → Int32)) (hf : f_X5_clearSlice p1 p2 vD vN = some y) : Ct G yX5_clearSlice wsX5_clearSlice rm_X5_clearSlice [.ref h5, .int p1, .int p2] [(h5, .inr (5, [.int vD, .int vA, .int vL, .ref qn, .ref qm])), (qn, .inl (gI G, 512, .inl vN)), (qm, .inl (gI G, 512, .inl vM))] (fin1 (some (.int y.1)) [(h5, .inr (5, [.int vD, .int vA, .int vL, .ref qn, .ref qm])), (qn, .inl (gI G, 512, .inl y.2)), (qm, .inl (gI G, 512, .inl vM))]) 0 0 := by
  refine Ct.of (cc := cX5_clearSlice) (N := 8) (ret := (some .int)) RX5 (by decide) rfl rfl hl (Nat.le_of_ble_eq_true rfl) (lv := [(0, .ref h5), (1, .int p1), (2, .int p2)]) rfl (fun X hXG C hex hnm hQ => ?_)
  subst hXG
  unfold f_X5_clearSlice at hf
  refine j_iconst C (v := 0) dX5_clearSlice_0 (by decide) ?_
  refine j_istore_n (lv' := [(3, .int 0), (0, .ref h5), (1, .int p1), (2, .int p2)]) C dX5_clearSlice_1 rfl (by decide) rfl ?_
  refine j_aload_n C dX5_clearSlice_2 rfl 1 rfl ?_
  refine j_iload_n C dX5_clearSlice_3 rfl 2 rfl ?_
  refine j_cN C (c_X7_formerOf X.1 hl p1) k_X7_formerOf gX5_clearSlice_X7_formerOf_n44 nw_X5_44 wd_X5_clearSlice_ini_X7 wd_X5_clearSlice_sta_X7_formerOf (As := [.int p1]) (rest := [.ref h5]) (st' := [.int (f_X7_formerOf p1), .ref h5]) (ws' := [(h5, .inr (5, [.int vD, .int vA, .int vL, .ref qn, .ref qm])), (qn, .inl (gI X.1, 512, .inl vN)), (qm, .inl (gI X.1, 512, .inl vM))]) rfl rfl dX5_clearSlice_4 [] [0, 1, 2] [0, 1, 2] rfl rfl rfl rfl rfl rfl ?_
  refine j_cV C (c_X5_step X.1 hl h5 qn qm vD vA vL vN vM (f_X7_formerOf p1)) k_X5_step gX5_clearSlice_X5_step rfl (ci := 5) (q0 := 0) rfl rfl (As := [.int (f_X7_formerOf p1)]) (rest := []) (st' := [.int (f_X5_step (f_X7_formerOf p1) vD)]) (ws' := [(h5, .inr (5, [.int vD, .int vA, .int vL, .ref qn, .ref qm])), (qn, .inl (gI X.1, 512, .inl vN)), (qm, .inl (gI X.1, 512, .inl vM))]) rfl rfl dX5_clearSlice_7 [0, 1, 2] [] [0, 1, 2] rfl rfl rfl rfl rfl rfl ?_
  refine j_istore (lv' := [(4, .int (f_X5_step (f_X7_formerOf p1) vD)), (3, .int 0), (0, .ref h5), (1, .int p1), (2, .int p2)]) C dX5_clearSlice_10 (by decide) rfl ?_
  refine j_iconst C (v := 0) dX5_clearSlice_12 (by decide) ?_
  refine j_istore (lv' := [(5, .int 0), (4, .int (f_X5_step (f_X7_formerOf p1) vD)), (3, .int 0), (0, .ref h5), (1, .int p1), (2, .int p2)]) C dX5_clearSlice_13 (by decide) rfl ?_
  have kk15 : ∀ (n : Nat) (x15_3 : Int32) (x15_5 : Int32) (vN_15 : (Nat → Int32)), dz_iter n (fun s : Int32 × Int32 × (Nat → Int32) => f_X5_clearSlice_L15 p1 p2 vD s.1 s.2.1 s.2.2) (x15_3, x15_5, vN_15) = some y → Jt X [(h5, .inr (5, [.int vD, .int vA, .int vL, .ref qn, .ref qm])), (qn, .inl (gI X.1, 512, .inl vN_15)), (qm, .inl (gI X.1, 512, .inl vM))] 0 0 15 [(0, .ref h5), (1, .int p1), (2, .int p2), (3, .int x15_3), (4, .int (f_X5_step (f_X7_formerOf p1) vD)), (5, .int x15_5)] [] := by
    intro n
    induction n with
    | zero => intro x15_3 x15_5 vN_15 hit; exact absurd hit (by simp [dz_iter])
    | succ n ih15 =>
      intro x15_3 x15_5 vN_15 hit
      obtain ⟨y15, hf, hg15⟩ := dz_iter_succ hit
      replace hf : f_X5_clearSlice_L15 p1 p2 vD x15_3 x15_5 vN_15 = some y15 := hf
      unfold f_X5_clearSlice_L15 at hf
      refine j_iload C dX5_clearSlice_15 5 rfl ?_
      refine j_aload_n C dX5_clearSlice_17 rfl 0 rfl ?_
      refine j_get5 C 0 rfl 0 (by decide) in_X5_clearSlice_5 lk_X5_clearSlice_9 rfl dX5_clearSlice_18 ?_
      refine j_icmp_ge C (tgt := 84) dX5_clearSlice_21 (by decide) (fun e21 => ?_) (fun e21 => ?_)
      · have hf := (if_pos e21).symm.trans hf
        refine j_iload_n C dX5_clearSlice_84 rfl 3 rfl ?_
        obtain rfl := Option.some.inj hf
        obtain rfl := dz_go_inr hg15
        exact j_iret C hQ rfl dX5_clearSlice_85 (Nat.zero_le _) (Nat.zero_le _) ⟨rfl, rfl⟩
      · have hf := (if_neg e21).symm.trans hf
        refine j_aload_n C dX5_clearSlice_24 rfl 0 rfl ?_
        refine j_iload_n C dX5_clearSlice_25 rfl 1 rfl ?_
        refine j_iload_n C dX5_clearSlice_26 rfl 2 rfl ?_
        refine j_iload C dX5_clearSlice_27 5 rfl ?_
        refine j_cV C (c_X5_rowStart X.1 hl h5 qn qm vD vA vL vN_15 vM p1 p2 x15_5) k_X5_rowStart gX5_clearSlice_X5_rowStart rfl (ci := 5) (q0 := 0) rfl rfl (As := [.int p1, .int p2, .int x15_5]) (rest := []) (st' := [.int (f_X5_rowStart p1 p2 x15_5 vD)]) (ws' := [(h5, .inr (5, [.int vD, .int vA, .int vL, .ref qn, .ref qm])), (qn, .inl (gI X.1, 512, .inl vN_15)), (qm, .inl (gI X.1, 512, .inl vM))]) rfl rfl dX5_clearSlice_29 [0, 1, 2] [] [0, 1, 2] rfl rfl rfl rfl rfl rfl ?_
        refine j_istore (lv' := [(6, .int (f_X5_rowStart p1 p2 x15_5 vD)), (0, .ref h5), (1, .int p1), (2, .int p2), (3, .int x15_3), (4, .int (f_X5_step (f_X7_formerOf p1) vD)), (5, .int x15_5)]) C dX5_clearSlice_32 (by decide) rfl ?_
        refine j_iconst C (v := 0) dX5_clearSlice_34 (by decide) ?_
        refine j_istore (lv' := [(7, .int 0), (6, .int (f_X5_rowStart p1 p2 x15_5 vD)), (0, .ref h5), (1, .int p1), (2, .int p2), (3, .int x15_3), (4, .int (f_X5_step (f_X7_formerOf p1) vD)), (5, .int x15_5)]) C dX5_clearSlice_35 (by decide) rfl ?_
        have kk37 : ∀ (n : Nat) (x37_3 : Int32) (x37_6 : Int32) (x37_7 : Int32) (vN_37 : (Nat → Int32)), dz_iter n (fun s : Int32 × Int32 × Int32 × (Nat → Int32) => f_X5_clearSlice_L37 p1 vD x15_5 s.1 s.2.1 s.2.2.1 s.2.2.2) (x37_3, x37_6, x37_7, vN_37) = some y15 → Jt X [(h5, .inr (5, [.int vD, .int vA, .int vL, .ref qn, .ref qm])), (qn, .inl (gI X.1, 512, .inl vN_37)), (qm, .inl (gI X.1, 512, .inl vM))] 0 0 37 [(0, .ref h5), (1, .int p1), (2, .int p2), (3, .int x37_3), (4, .int (f_X5_step (f_X7_formerOf p1) vD)), (5, .int x15_5), (6, .int x37_6), (7, .int x37_7)] [] := by
          intro n
          induction n with
          | zero => intro x37_3 x37_6 x37_7 vN_37 hit; exact absurd hit (by simp [dz_iter])
          | succ n ih37 =>
            intro x37_3 x37_6 x37_7 vN_37 hit
            obtain ⟨y37, hf, hg37⟩ := dz_iter_succ hit
            replace hf : f_X5_clearSlice_L37 p1 vD x15_5 x37_3 x37_6 x37_7 vN_37 = some y37 := hf
            unfold f_X5_clearSlice_L37 at hf
            refine j_iload C dX5_clearSlice_37 7 rfl ?_
            refine j_aload_n C dX5_clearSlice_39 rfl 0 rfl ?_
            refine j_get5 C 0 rfl 0 (by decide) in_X5_clearSlice_5 lk_X5_clearSlice_9 rfl dX5_clearSlice_40 ?_
            refine j_icmp_ge C (tgt := 78) dX5_clearSlice_43 (by decide) (fun e43 => ?_) (fun e43 => ?_)
            · have hf := (if_pos e43).symm.trans hf
              refine j_iinc (v := (x15_5 + 1)) (lv' := [(5, .int (x15_5 + 1)), (0, .ref h5), (1, .int p1), (2, .int p2), (3, .int x37_3), (4, .int (f_X5_step (f_X7_formerOf p1) vD)), (6, .int x37_6), (7, .int x37_7)]) C dX5_clearSlice_78 5 rfl (by first | rfl | decide) (by decide) rfl ?_
              refine j_goto C (tgt := 15) dX5_clearSlice_81 (by decide) ?_
              obtain rfl := Option.some.inj hf
              obtain rfl := dz_go_inr hg37
              have hf := dz_go_inl hg15
              refine j_loc [1, 2, 3, 4, 5, 0] rfl ?_
              exact ih15 x37_3 (x15_5 + 1) vN_37 hf
            · have hf := (if_neg e43).symm.trans hf
              refine j_aload_n C dX5_clearSlice_46 rfl 0 rfl ?_
              refine j_iload C dX5_clearSlice_47 6 rfl ?_
              refine j_cV C (c_X5_number X.1 hl h5 qn qm vD vA vL vN_37 vM x37_6) k_X5_number gX5_clearSlice_X5_number rfl (ci := 5) (q0 := 0) rfl rfl (As := [.int x37_6]) (rest := []) (st' := [.int (f_X5_number x37_6 vN_37)]) (ws' := [(h5, .inr (5, [.int vD, .int vA, .int vL, .ref qn, .ref qm])), (qn, .inl (gI X.1, 512, .inl vN_37)), (qm, .inl (gI X.1, 512, .inl vM))]) rfl rfl dX5_clearSlice_49 [0, 1, 2] [] [0, 1, 2] rfl rfl rfl rfl rfl rfl ?_
              have k58 : ∀ (x58_3 : Int32), f_X5_clearSlice_J58 p1 vD vN_37 x37_6 x37_7 x58_3 = some y37 → Jt X [(h5, .inr (5, [.int vD, .int vA, .int vL, .ref qn, .ref qm])), (qn, .inl (gI X.1, 512, .inl vN_37)), (qm, .inl (gI X.1, 512, .inl vM))] 0 0 58 [(0, .ref h5), (1, .int p1), (2, .int p2), (3, .int x58_3), (4, .int (f_X5_step (f_X7_formerOf p1) vD)), (5, .int x15_5), (6, .int x37_6), (7, .int x37_7)] [] := by
                intro x58_3 hf
                unfold f_X5_clearSlice_J58 at hf
                refine j_aload_n C dX5_clearSlice_58 rfl 0 rfl ?_
                refine j_iload C dX5_clearSlice_59 6 rfl ?_
                refine j_iconst C (v := 0) dX5_clearSlice_61 (by decide) ?_
                refine j_cV C (c_X5_write X.1 hl h5 qn qm vD vA vL vN_37 vM x37_6 0) k_X5_write gX5_clearSlice_X5_write rfl (ci := 5) (q0 := 0) rfl rfl (As := [.int x37_6, .int 0]) (rest := []) (st' := []) (ws' := [(h5, .inr (5, [.int vD, .int vA, .int vL, .ref qn, .ref qm])), (qn, .inl (gI X.1, 512, .inl (f_X5_write x37_6 0 vN_37))), (qm, .inl (gI X.1, 512, .inl vM))]) rfl rfl dX5_clearSlice_62 [0, 1, 2] [] [0, 1, 2] rfl rfl rfl rfl rfl rfl ?_
                refine j_iload C dX5_clearSlice_65 6 rfl ?_
                refine j_iload C dX5_clearSlice_67 4 rfl ?_
                refine j_iadd C dX5_clearSlice_69 ?_
                refine j_istore (lv' := [(6, .int (x37_6 + (f_X5_step (f_X7_formerOf p1) vD))), (0, .ref h5), (1, .int p1), (2, .int p2), (3, .int x58_3), (4, .int (f_X5_step (f_X7_formerOf p1) vD)), (5, .int x15_5), (7, .int x37_7)]) C dX5_clearSlice_70 (by decide) rfl ?_
                refine j_iinc (v := (x37_7 + 1)) (lv' := [(7, .int (x37_7 + 1)), (6, .int (x37_6 + (f_X5_step (f_X7_formerOf p1) vD))), (0, .ref h5), (1, .int p1), (2, .int p2), (3, .int x58_3), (4, .int (f_X5_step (f_X7_formerOf p1) vD)), (5, .int x15_5)]) C dX5_clearSlice_72 7 rfl (by first | rfl | decide) (by decide) rfl ?_
                refine j_goto C (tgt := 37) dX5_clearSlice_75 (by decide) ?_
                obtain rfl := Option.some.inj hf
                have hf := dz_go_inl hg37
                refine j_loc [2, 3, 4, 5, 6, 7, 1, 0] rfl ?_
                exact ih37 x58_3 (x37_6 + (f_X5_step (f_X7_formerOf p1) vD)) (x37_7 + 1) (f_X5_write x37_6 0 vN_37) hf
              refine j_if_eq C (tgt := 58) dX5_clearSlice_52 (by decide) (fun e52 => ?_) (fun e52 => ?_)
              · have hf := (if_pos e52).symm.trans hf
                refine j_loc [0, 1, 2, 3, 4, 5, 6, 7] rfl ?_
                exact k58 x37_3 hf
              · have hf := (if_neg e52).symm.trans hf
                refine j_iinc (v := (x37_3 + 1)) (lv' := [(3, .int (x37_3 + 1)), (0, .ref h5), (1, .int p1), (2, .int p2), (4, .int (f_X5_step (f_X7_formerOf p1) vD)), (5, .int x15_5), (6, .int x37_6), (7, .int x37_7)]) C dX5_clearSlice_55 3 rfl (by first | rfl | decide) (by decide) rfl ?_
                refine j_loc [1, 2, 3, 0, 4, 5, 6, 7] rfl ?_
                exact k58 (x37_3 + 1) hf
        refine j_loc [2, 3, 4, 5, 6, 7, 1, 0] rfl ?_
        exact kk37 _ x15_3 (f_X5_rowStart p1 p2 x15_5 vD) 0 vN_15 hf
  refine j_loc [3, 4, 5, 2, 1, 0] rfl ?_
  exact kk15 _ 0 0 vN hf

theorem lk_X5_shiftLine_9 : Cond.fieldLink RX5 9 (TX5 0).1 (TX5 0).2.1 (TX5 0).2.2.1 ∈ wsX5_shiftLine := by decide +kernel
theorem in_X5_shiftLine_5 : ∀ w ∈ wsX50, w ∈ wsX5_shiftLine := by decide +kernel
def f_X5_shiftLine_J67 (p1 : Int32) (vD : Int32) (vN_40 : (Nat → Int32)) (x40_6 : Int32) (x40_7 : Int32) (x40_8 : Int32) (x67_4 : Int32) : Option ((Int32 × Int32 × Int32 × Int32 × (Nat → Int32)) ⊕ (Int32 × (Nat → Int32))) :=
  some (.inl (x67_4, (x40_6 + (f_X5_step p1 vD)), (f_X5_number x40_6 vN_40), (x40_8 + 1), (f_X5_write x40_6 x40_7 vN_40)))
def f_X5_shiftLine_L40 (p1 : Int32) (vD : Int32) (x40_4 : Int32) (x40_6 : Int32) (x40_7 : Int32) (x40_8 : Int32) (vN_40 : (Nat → Int32)) : Option ((Int32 × Int32 × Int32 × Int32 × (Nat → Int32)) ⊕ (Int32 × (Nat → Int32))) :=
  if vD ≤ x40_8 then some (.inr ((x40_4, vN_40))) else if (f_X5_number x40_6 vN_40) = x40_7 then (f_X5_shiftLine_J67 p1 vD vN_40 x40_6 x40_7 x40_8 x40_4) else (f_X5_shiftLine_J67 p1 vD vN_40 x40_6 x40_7 x40_8 (x40_4 + 1))
def f_X5_shiftLine (p1 : Int32) (p2 : Int32) (p3 : Int32) (vD : Int32) (vN : (Nat → Int32)) : Option (Int32 × (Nat → Int32)) :=
  dz_it (fun s : Int32 × Int32 × Int32 × Int32 × (Nat → Int32) => f_X5_shiftLine_L40 p1 vD s.1 s.2.1 s.2.2.1 s.2.2.2.1 s.2.2.2.2) (0, (f_X5_lineStart p1 p2 p3 vD), (f_X5_number ((f_X5_lineStart p1 p2 p3 vD) + ((vD - 1) * (f_X5_step p1 vD))) vN), 0, vN)
abbrev rm_X5_shiftLine : Room := { frames := 3, cells := 0, slots := 0, locals := 60 }
theorem k_X5_shiftLine : Cf yX5_shiftLine wsX5_shiftLine rm_X5_shiftLine cX5_shiftLine 10 (some .int) 3 := ⟨⟨_, rfl⟩, by decide +kernel, by decide +kernel, by decide +kernel⟩
set_option maxRecDepth 100000 in
set_option maxHeartbeats 4000000 in
theorem b_X5_shiftLine (G : CG) (hl : (gL G).stackTraces = false) (h5 : Nat) (qn : Nat) (qm : Nat) (vD : Int32) (vA : Int32) (vL : Int32) (vN : (Nat → Int32)) (vM : (Nat → Int32)) (p1 : Int32) (p2 : Int32) (p3 : Int32) (y : Int32 × (Nat → Int32)) (hf : f_X5_shiftLine p1 p2 p3 vD vN = some y) : Ct G yX5_shiftLine wsX5_shiftLine rm_X5_shiftLine [.ref h5, .int p1, .int p2, .int p3] [(h5, .inr (5, [.int vD, .int vA, .int vL, .ref qn, .ref qm])), (qn, .inl (gI G, 512, .inl vN)), (qm, .inl (gI G, 512, .inl vM))] (fin1 (some (.int y.1)) [(h5, .inr (5, [.int vD, .int vA, .int vL, .ref qn, .ref qm])), (qn, .inl (gI G, 512, .inl y.2)), (qm, .inl (gI G, 512, .inl vM))]) 0 0 := by
  refine Ct.of (cc := cX5_shiftLine) (N := 10) (ret := (some .int)) RX5 (by decide) rfl rfl hl (Nat.le_of_ble_eq_true rfl) (lv := [(0, .ref h5), (1, .int p1), (2, .int p2), (3, .int p3)]) rfl (fun X hXG C hex hnm hQ => ?_)
  subst hXG
  unfold f_X5_shiftLine at hf
  refine j_iconst C (v := 0) dX5_shiftLine_0 (by decide) ?_
  refine j_istore (lv' := [(4, .int 0), (0, .ref h5), (1, .int p1), (2, .int p2), (3, .int p3)]) C dX5_shiftLine_1 (by decide) rfl ?_
  refine j_aload_n C dX5_shiftLine_3 rfl 1 rfl ?_
  refine j_iload_n C dX5_shiftLine_4 rfl 2 rfl ?_
  refine j_cV C (c_X5_step X.1 hl h5 qn qm vD vA vL vN vM p1) k_X5_step gX5_shiftLine_X5_step rfl (ci := 5) (q0 := 0) rfl rfl (As := [.int p1]) (rest := []) (st' := [.int (f_X5_step p1 vD)]) (ws' := [(h5, .inr (5, [.int vD, .int vA, .int vL, .ref qn, .ref qm])), (qn, .inl (gI X.1, 512, .inl vN)), (qm, .inl (gI X.1, 512, .inl vM))]) rfl rfl dX5_shiftLine_5 [0, 1, 2] [] [0, 1, 2] rfl rfl rfl rfl rfl rfl ?_
  refine j_istore (lv' := [(5, .int (f_X5_step p1 vD)), (4, .int 0), (0, .ref h5), (1, .int p1), (2, .int p2), (3, .int p3)]) C dX5_shiftLine_8 (by decide) rfl ?_
  refine j_aload_n C dX5_shiftLine_10 rfl 2 rfl ?_
  refine j_iload_n C dX5_shiftLine_11 rfl 3 rfl ?_
  refine j_iload_n C dX5_shiftLine_12 rfl 4 rfl ?_
  refine j_iload_n C dX5_shiftLine_13 rfl 5 rfl ?_
  refine j_cV C (c_X5_lineStart X.1 hl h5 qn qm vD vA vL vN vM p1 p2 p3) k_X5_lineStart gX5_shiftLine_X5_lineStart rfl (ci := 5) (q0 := 0) rfl rfl (As := [.int p1, .int p2, .int p3]) (rest := []) (st' := [.int (f_X5_lineStart p1 p2 p3 vD)]) (ws' := [(h5, .inr (5, [.int vD, .int vA, .int vL, .ref qn, .ref qm])), (qn, .inl (gI X.1, 512, .inl vN)), (qm, .inl (gI X.1, 512, .inl vM))]) rfl rfl dX5_shiftLine_14 [0, 1, 2] [] [0, 1, 2] rfl rfl rfl rfl rfl rfl ?_
  refine j_istore (lv' := [(6, .int (f_X5_lineStart p1 p2 p3 vD)), (5, .int (f_X5_step p1 vD)), (4, .int 0), (0, .ref h5), (1, .int p1), (2, .int p2), (3, .int p3)]) C dX5_shiftLine_17 (by decide) rfl ?_
  refine j_aload_n C dX5_shiftLine_19 rfl 3 rfl ?_
  refine j_iload C dX5_shiftLine_20 0 rfl ?_
  refine j_aload_n C dX5_shiftLine_22 rfl 3 rfl ?_
  refine j_get5 C 0 rfl 0 (by decide) in_X5_shiftLine_5 lk_X5_shiftLine_9 rfl dX5_shiftLine_23 ?_
  refine j_iconst C (v := 1) dX5_shiftLine_26 (by decide) ?_
  refine j_isub C dX5_shiftLine_27 ?_
  refine j_iload C dX5_shiftLine_28 1 rfl ?_
  refine j_imul C dX5_shiftLine_30 ?_
  refine j_iadd C dX5_shiftLine_31 ?_
  refine j_cV C (c_X5_number X.1 hl h5 qn qm vD vA vL vN vM ((f_X5_lineStart p1 p2 p3 vD) + ((vD - 1) * (f_X5_step p1 vD)))) k_X5_number gX5_shiftLine_X5_number rfl (ci := 5) (q0 := 0) rfl rfl (As := [.int ((f_X5_lineStart p1 p2 p3 vD) + ((vD - 1) * (f_X5_step p1 vD)))]) (rest := []) (st' := [.int (f_X5_number ((f_X5_lineStart p1 p2 p3 vD) + ((vD - 1) * (f_X5_step p1 vD))) vN)]) (ws' := [(h5, .inr (5, [.int vD, .int vA, .int vL, .ref qn, .ref qm])), (qn, .inl (gI X.1, 512, .inl vN)), (qm, .inl (gI X.1, 512, .inl vM))]) rfl rfl dX5_shiftLine_32 [0, 1, 2] [] [0, 1, 2] rfl rfl rfl rfl rfl rfl ?_
  refine j_istore (lv' := [(7, .int (f_X5_number ((f_X5_lineStart p1 p2 p3 vD) + ((vD - 1) * (f_X5_step p1 vD))) vN)), (6, .int (f_X5_lineStart p1 p2 p3 vD)), (5, .int (f_X5_step p1 vD)), (4, .int 0), (0, .ref h5), (1, .int p1), (2, .int p2), (3, .int p3)]) C dX5_shiftLine_35 (by decide) rfl ?_
  refine j_iconst C (v := 0) dX5_shiftLine_37 (by decide) ?_
  refine j_istore (lv' := [(8, .int 0), (7, .int (f_X5_number ((f_X5_lineStart p1 p2 p3 vD) + ((vD - 1) * (f_X5_step p1 vD))) vN)), (6, .int (f_X5_lineStart p1 p2 p3 vD)), (5, .int (f_X5_step p1 vD)), (4, .int 0), (0, .ref h5), (1, .int p1), (2, .int p2), (3, .int p3)]) C dX5_shiftLine_38 (by decide) rfl ?_
  have kk40 : ∀ (n : Nat) (x40_4 : Int32) (x40_6 : Int32) (x40_7 : Int32) (x40_8 : Int32) (vN_40 : (Nat → Int32)), dz_iter n (fun s : Int32 × Int32 × Int32 × Int32 × (Nat → Int32) => f_X5_shiftLine_L40 p1 vD s.1 s.2.1 s.2.2.1 s.2.2.2.1 s.2.2.2.2) (x40_4, x40_6, x40_7, x40_8, vN_40) = some y → Jt X [(h5, .inr (5, [.int vD, .int vA, .int vL, .ref qn, .ref qm])), (qn, .inl (gI X.1, 512, .inl vN_40)), (qm, .inl (gI X.1, 512, .inl vM))] 0 0 40 [(0, .ref h5), (1, .int p1), (2, .int p2), (3, .int p3), (4, .int x40_4), (5, .int (f_X5_step p1 vD)), (6, .int x40_6), (7, .int x40_7), (8, .int x40_8)] [] := by
    intro n
    induction n with
    | zero => intro x40_4 x40_6 x40_7 x40_8 vN_40 hit; exact absurd hit (by simp [dz_iter])
    | succ n ih40 =>
      intro x40_4 x40_6 x40_7 x40_8 vN_40 hit
      obtain ⟨y40, hf, hg40⟩ := dz_iter_succ hit
      replace hf : f_X5_shiftLine_L40 p1 vD x40_4 x40_6 x40_7 x40_8 vN_40 = some y40 := hf
      unfold f_X5_shiftLine_L40 at hf
      refine j_iload C dX5_shiftLine_40 8 rfl ?_
      refine j_aload_n C dX5_shiftLine_42 rfl 0 rfl ?_
      refine j_get5 C 0 rfl 0 (by decide) in_X5_shiftLine_5 lk_X5_shiftLine_9 rfl dX5_shiftLine_43 ?_
      refine j_icmp_ge C (tgt := 92) dX5_shiftLine_46 (by decide) (fun e46 => ?_) (fun e46 => ?_)
      · have hf := (if_pos e46).symm.trans hf
        refine j_iload C dX5_shiftLine_92 4 rfl ?_
        obtain rfl := Option.some.inj hf
        obtain rfl := dz_go_inr hg40
        exact j_iret C hQ rfl dX5_shiftLine_94 (Nat.zero_le _) (Nat.zero_le _) ⟨rfl, rfl⟩
      · have hf := (if_neg e46).symm.trans hf
        refine j_aload_n C dX5_shiftLine_49 rfl 0 rfl ?_
        refine j_iload C dX5_shiftLine_50 6 rfl ?_
        refine j_cV C (c_X5_number X.1 hl h5 qn qm vD vA vL vN_40 vM x40_6) k_X5_number gX5_shiftLine_X5_number rfl (ci := 5) (q0 := 0) rfl rfl (As := [.int x40_6]) (rest := []) (st' := [.int (f_X5_number x40_6 vN_40)]) (ws' := [(h5, .inr (5, [.int vD, .int vA, .int vL, .ref qn, .ref qm])), (qn, .inl (gI X.1, 512, .inl vN_40)), (qm, .inl (gI X.1, 512, .inl vM))]) rfl rfl dX5_shiftLine_52 [0, 1, 2] [] [0, 1, 2] rfl rfl rfl rfl rfl rfl ?_
        refine j_istore (lv' := [(9, .int (f_X5_number x40_6 vN_40)), (0, .ref h5), (1, .int p1), (2, .int p2), (3, .int p3), (4, .int x40_4), (5, .int (f_X5_step p1 vD)), (6, .int x40_6), (7, .int x40_7), (8, .int x40_8)]) C dX5_shiftLine_55 (by decide) rfl ?_
        refine j_iload C dX5_shiftLine_57 0 rfl ?_
        refine j_iload C dX5_shiftLine_59 8 rfl ?_
        have k67 : ∀ (x67_4 : Int32), f_X5_shiftLine_J67 p1 vD vN_40 x40_6 x40_7 x40_8 x67_4 = some y40 → Jt X [(h5, .inr (5, [.int vD, .int vA, .int vL, .ref qn, .ref qm])), (qn, .inl (gI X.1, 512, .inl vN_40)), (qm, .inl (gI X.1, 512, .inl vM))] 0 0 67 [(0, .ref h5), (1, .int p1), (2, .int p2), (3, .int p3), (4, .int x67_4), (5, .int (f_X5_step p1 vD)), (6, .int x40_6), (7, .int x40_7), (8, .int x40_8), (9, .int (f_X5_number x40_6 vN_40))] [] := by
          intro x67_4 hf
          unfold f_X5_shiftLine_J67 at hf
          refine j_aload_n C dX5_shiftLine_67 rfl 0 rfl ?_
          refine j_iload C dX5_shiftLine_68 6 rfl ?_
          refine j_iload C dX5_shiftLine_70 7 rfl ?_
          refine j_cV C (c_X5_write X.1 hl h5 qn qm vD vA vL vN_40 vM x40_6 x40_7) k_X5_write gX5_shiftLine_X5_write rfl (ci := 5) (q0 := 0) rfl rfl (As := [.int x40_6, .int x40_7]) (rest := []) (st' := []) (ws' := [(h5, .inr (5, [.int vD, .int vA, .int vL, .ref qn, .ref qm])), (qn, .inl (gI X.1, 512, .inl (f_X5_write x40_6 x40_7 vN_40))), (qm, .inl (gI X.1, 512, .inl vM))]) rfl rfl dX5_shiftLine_72 [0, 1, 2] [] [0, 1, 2] rfl rfl rfl rfl rfl rfl ?_
          refine j_iload C dX5_shiftLine_75 9 rfl ?_
          refine j_istore (lv' := [(7, .int (f_X5_number x40_6 vN_40)), (0, .ref h5), (1, .int p1), (2, .int p2), (3, .int p3), (4, .int x67_4), (5, .int (f_X5_step p1 vD)), (6, .int x40_6), (8, .int x40_8), (9, .int (f_X5_number x40_6 vN_40))]) C dX5_shiftLine_77 (by decide) rfl ?_
          refine j_iload C dX5_shiftLine_79 7 rfl ?_
          refine j_iload C dX5_shiftLine_81 6 rfl ?_
          refine j_iadd C dX5_shiftLine_83 ?_
          refine j_istore (lv' := [(6, .int (x40_6 + (f_X5_step p1 vD))), (7, .int (f_X5_number x40_6 vN_40)), (0, .ref h5), (1, .int p1), (2, .int p2), (3, .int p3), (4, .int x67_4), (5, .int (f_X5_step p1 vD)), (8, .int x40_8), (9, .int (f_X5_number x40_6 vN_40))]) C dX5_shiftLine_84 (by decide) rfl ?_
          refine j_iinc (v := (x40_8 + 1)) (lv' := [(8, .int (x40_8 + 1)), (6, .int (x40_6 + (f_X5_step p1 vD))), (7, .int (f_X5_number x40_6 vN_40)), (0, .ref h5), (1, .int p1), (2, .int p2), (3, .int p3), (4, .int x67_4), (5, .int (f_X5_step p1 vD)), (9, .int (f_X5_number x40_6 vN_40))]) C dX5_shiftLine_86 8 rfl (by first | rfl | decide) (by decide) rfl ?_
          refine j_goto C (tgt := 40) dX5_shiftLine_89 (by decide) ?_
          obtain rfl := Option.some.inj hf
          have hf := dz_go_inl hg40
          refine j_loc [3, 4, 5, 6, 7, 8, 1, 2, 0] rfl ?_
          exact ih40 x67_4 (x40_6 + (f_X5_step p1 vD)) (f_X5_number x40_6 vN_40) (x40_8 + 1) (f_X5_write x40_6 x40_7 vN_40) hf
        refine j_icmp_eq C (tgt := 67) dX5_shiftLine_61 (by decide) (fun e61 => ?_) (fun e61 => ?_)
        · have hf := (if_pos e61).symm.trans hf
          refine j_loc [1, 2, 3, 4, 5, 6, 7, 8, 9, 0] rfl ?_
          exact k67 x40_4 hf
        · have hf := (if_neg e61).symm.trans hf
          refine j_iinc (v := (x40_4 + 1)) (lv' := [(4, .int (x40_4 + 1)), (9, .int (f_X5_number x40_6 vN_40)), (0, .ref h5), (1, .int p1), (2, .int p2), (3, .int p3), (5, .int (f_X5_step p1 vD)), (6, .int x40_6), (7, .int x40_7), (8, .int x40_8)]) C dX5_shiftLine_64 5 rfl (by first | rfl | decide) (by decide) rfl ?_
          refine j_loc [2, 3, 4, 5, 0, 6, 7, 8, 9, 1] rfl ?_
          exact k67 (x40_4 + 1) hf
  refine j_loc [5, 6, 7, 8, 4, 3, 2, 1, 0] rfl ?_
  exact kk40 _ 0 (f_X5_lineStart p1 p2 p3 vD) (f_X5_number ((f_X5_lineStart p1 p2 p3 vD) + ((vD - 1) * (f_X5_step p1 vD))) vN) 0 vN hf

theorem lk_X5_lineSum_9 : Cond.fieldLink RX5 9 (TX5 0).1 (TX5 0).2.1 (TX5 0).2.2.1 ∈ wsX5_lineSum := by decide +kernel
theorem in_X5_lineSum_5 : ∀ w ∈ wsX50, w ∈ wsX5_lineSum := by decide +kernel
def f_X5_lineSum_L22 (p1 : Int32) (vD : Int32) (vN : (Nat → Int32)) (x22_4 : Int32) (x22_6 : Int32) (x22_7 : Int32) : Option ((Int32 × Int32 × Int32) ⊕ (Int32)) :=
  if vD ≤ x22_7 then some (.inr (x22_4)) else some (.inl ((x22_4 + (f_X5_number x22_6 vN)), (x22_6 + (f_X5_step p1 vD)), (x22_7 + 1)))
def f_X5_lineSum (p1 : Int32) (p2 : Int32) (p3 : Int32) (vD : Int32) (vN : (Nat → Int32)) : Option (Int32) :=
  dz_it (fun s : Int32 × Int32 × Int32 => f_X5_lineSum_L22 p1 vD vN s.1 s.2.1 s.2.2) (0, (f_X5_lineStart p1 p2 p3 vD), 0)
abbrev rm_X5_lineSum : Room := { frames := 3, cells := 0, slots := 0, locals := 60 }
theorem k_X5_lineSum : Cf yX5_lineSum wsX5_lineSum rm_X5_lineSum cX5_lineSum 8 (some .int) 3 := ⟨⟨_, rfl⟩, by decide +kernel, by decide +kernel, by decide +kernel⟩
set_option maxRecDepth 100000 in
set_option maxHeartbeats 4000000 in
theorem b_X5_lineSum (G : CG) (hl : (gL G).stackTraces = false) (h5 : Nat) (qn : Nat) (qm : Nat) (vD : Int32) (vA : Int32) (vL : Int32) (vN : (Nat → Int32)) (vM : (Nat → Int32)) (p1 : Int32) (p2 : Int32) (p3 : Int32) (y : Int32) (hf : f_X5_lineSum p1 p2 p3 vD vN = some y) : Ct G yX5_lineSum wsX5_lineSum rm_X5_lineSum [.ref h5, .int p1, .int p2, .int p3] [(h5, .inr (5, [.int vD, .int vA, .int vL, .ref qn, .ref qm])), (qn, .inl (gI G, 512, .inl vN)), (qm, .inl (gI G, 512, .inl vM))] (fin1 (some (.int y)) [(h5, .inr (5, [.int vD, .int vA, .int vL, .ref qn, .ref qm])), (qn, .inl (gI G, 512, .inl vN)), (qm, .inl (gI G, 512, .inl vM))]) 0 0 := by
  refine Ct.of (cc := cX5_lineSum) (N := 8) (ret := (some .int)) RX5 (by decide) rfl rfl hl (Nat.le_of_ble_eq_true rfl) (lv := [(0, .ref h5), (1, .int p1), (2, .int p2), (3, .int p3)]) rfl (fun X hXG C hex hnm hQ => ?_)
  subst hXG
  unfold f_X5_lineSum at hf
  refine j_iconst C (v := 0) dX5_lineSum_0 (by decide) ?_
  refine j_istore (lv' := [(4, .int 0), (0, .ref h5), (1, .int p1), (2, .int p2), (3, .int p3)]) C dX5_lineSum_1 (by decide) rfl ?_
  refine j_aload_n C dX5_lineSum_3 rfl 1 rfl ?_
  refine j_iload_n C dX5_lineSum_4 rfl 2 rfl ?_
  refine j_cV C (c_X5_step X.1 hl h5 qn qm vD vA vL vN vM p1) k_X5_step gX5_lineSum_X5_step rfl (ci := 5) (q0 := 0) rfl rfl (As := [.int p1]) (rest := []) (st' := [.int (f_X5_step p1 vD)]) (ws' := [(h5, .inr (5, [.int vD, .int vA, .int vL, .ref qn, .ref qm])), (qn, .inl (gI X.1, 512, .inl vN)), (qm, .inl (gI X.1, 512, .inl vM))]) rfl rfl dX5_lineSum_5 [0, 1, 2] [] [0, 1, 2] rfl rfl rfl rfl rfl rfl ?_
  refine j_istore (lv' := [(5, .int (f_X5_step p1 vD)), (4, .int 0), (0, .ref h5), (1, .int p1), (2, .int p2), (3, .int p3)]) C dX5_lineSum_8 (by decide) rfl ?_
  refine j_aload_n C dX5_lineSum_10 rfl 2 rfl ?_
  refine j_iload_n C dX5_lineSum_11 rfl 3 rfl ?_
  refine j_iload_n C dX5_lineSum_12 rfl 4 rfl ?_
  refine j_iload_n C dX5_lineSum_13 rfl 5 rfl ?_
  refine j_cV C (c_X5_lineStart X.1 hl h5 qn qm vD vA vL vN vM p1 p2 p3) k_X5_lineStart gX5_lineSum_X5_lineStart rfl (ci := 5) (q0 := 0) rfl rfl (As := [.int p1, .int p2, .int p3]) (rest := []) (st' := [.int (f_X5_lineStart p1 p2 p3 vD)]) (ws' := [(h5, .inr (5, [.int vD, .int vA, .int vL, .ref qn, .ref qm])), (qn, .inl (gI X.1, 512, .inl vN)), (qm, .inl (gI X.1, 512, .inl vM))]) rfl rfl dX5_lineSum_14 [0, 1, 2] [] [0, 1, 2] rfl rfl rfl rfl rfl rfl ?_
  refine j_istore (lv' := [(6, .int (f_X5_lineStart p1 p2 p3 vD)), (5, .int (f_X5_step p1 vD)), (4, .int 0), (0, .ref h5), (1, .int p1), (2, .int p2), (3, .int p3)]) C dX5_lineSum_17 (by decide) rfl ?_
  refine j_iconst C (v := 0) dX5_lineSum_19 (by decide) ?_
  refine j_istore (lv' := [(7, .int 0), (6, .int (f_X5_lineStart p1 p2 p3 vD)), (5, .int (f_X5_step p1 vD)), (4, .int 0), (0, .ref h5), (1, .int p1), (2, .int p2), (3, .int p3)]) C dX5_lineSum_20 (by decide) rfl ?_
  have kk22 : ∀ (n : Nat) (x22_4 : Int32) (x22_6 : Int32) (x22_7 : Int32), dz_iter n (fun s : Int32 × Int32 × Int32 => f_X5_lineSum_L22 p1 vD vN s.1 s.2.1 s.2.2) (x22_4, x22_6, x22_7) = some y → Jt X [(h5, .inr (5, [.int vD, .int vA, .int vL, .ref qn, .ref qm])), (qn, .inl (gI X.1, 512, .inl vN)), (qm, .inl (gI X.1, 512, .inl vM))] 0 0 22 [(0, .ref h5), (1, .int p1), (2, .int p2), (3, .int p3), (4, .int x22_4), (5, .int (f_X5_step p1 vD)), (6, .int x22_6), (7, .int x22_7)] [] := by
    intro n
    induction n with
    | zero => intro x22_4 x22_6 x22_7 hit; exact absurd hit (by simp [dz_iter])
    | succ n ih22 =>
      intro x22_4 x22_6 x22_7 hit
      obtain ⟨y22, hf, hg22⟩ := dz_iter_succ hit
      replace hf : f_X5_lineSum_L22 p1 vD vN x22_4 x22_6 x22_7 = some y22 := hf
      unfold f_X5_lineSum_L22 at hf
      refine j_iload C dX5_lineSum_22 7 rfl ?_
      refine j_aload_n C dX5_lineSum_24 rfl 0 rfl ?_
      refine j_get5 C 0 rfl 0 (by decide) in_X5_lineSum_5 lk_X5_lineSum_9 rfl dX5_lineSum_25 ?_
      refine j_icmp_ge C (tgt := 55) dX5_lineSum_28 (by decide) (fun e28 => ?_) (fun e28 => ?_)
      · have hf := (if_pos e28).symm.trans hf
        refine j_iload C dX5_lineSum_55 4 rfl ?_
        obtain rfl := Option.some.inj hf
        obtain rfl := dz_go_inr hg22
        exact j_iret C hQ rfl dX5_lineSum_57 (Nat.zero_le _) (Nat.zero_le _) ⟨rfl, rfl⟩
      · have hf := (if_neg e28).symm.trans hf
        refine j_iload C dX5_lineSum_31 4 rfl ?_
        refine j_aload_n C dX5_lineSum_33 rfl 0 rfl ?_
        refine j_iload C dX5_lineSum_34 6 rfl ?_
        refine j_cV C (c_X5_number X.1 hl h5 qn qm vD vA vL vN vM x22_6) k_X5_number gX5_lineSum_X5_number rfl (ci := 5) (q0 := 0) rfl rfl (As := [.int x22_6]) (rest := [.int x22_4]) (st' := [.int (f_X5_number x22_6 vN), .int x22_4]) (ws' := [(h5, .inr (5, [.int vD, .int vA, .int vL, .ref qn, .ref qm])), (qn, .inl (gI X.1, 512, .inl vN)), (qm, .inl (gI X.1, 512, .inl vM))]) rfl rfl dX5_lineSum_36 [0, 1, 2] [] [0, 1, 2] rfl rfl rfl rfl rfl rfl ?_
        refine j_iadd C dX5_lineSum_39 ?_
        refine j_istore (lv' := [(4, .int (x22_4 + (f_X5_number x22_6 vN))), (0, .ref h5), (1, .int p1), (2, .int p2), (3, .int p3), (5, .int (f_X5_step p1 vD)), (6, .int x22_6), (7, .int x22_7)]) C dX5_lineSum_40 (by decide) rfl ?_
        refine j_iload C dX5_lineSum_42 6 rfl ?_
        refine j_iload C dX5_lineSum_44 5 rfl ?_
        refine j_iadd C dX5_lineSum_46 ?_
        refine j_istore (lv' := [(6, .int (x22_6 + (f_X5_step p1 vD))), (4, .int (x22_4 + (f_X5_number x22_6 vN))), (0, .ref h5), (1, .int p1), (2, .int p2), (3, .int p3), (5, .int (f_X5_step p1 vD)), (7, .int x22_7)]) C dX5_lineSum_47 (by decide) rfl ?_
        refine j_iinc (v := (x22_7 + 1)) (lv' := [(7, .int (x22_7 + 1)), (6, .int (x22_6 + (f_X5_step p1 vD))), (4, .int (x22_4 + (f_X5_number x22_6 vN))), (0, .ref h5), (1, .int p1), (2, .int p2), (3, .int p3), (5, .int (f_X5_step p1 vD))]) C dX5_lineSum_49 7 rfl (by first | rfl | decide) (by decide) rfl ?_
        refine j_goto C (tgt := 22) dX5_lineSum_52 (by decide) ?_
        obtain rfl := Option.some.inj hf
        have hf := dz_go_inl hg22
        refine j_loc [3, 4, 5, 6, 2, 7, 1, 0] rfl ?_
        exact ih22 (x22_4 + (f_X5_number x22_6 vN)) (x22_6 + (f_X5_step p1 vD)) (x22_7 + 1) hf
  refine j_loc [4, 5, 6, 7, 3, 2, 1, 0] rfl ?_
  exact kk22 _ 0 (f_X5_lineStart p1 p2 p3 vD) 0 hf

theorem lk_X5_placeOfRank_15 : Cond.fieldLink RX5 15 (TX5 1).1 (TX5 1).2.1 (TX5 1).2.2.1 ∈ wsX5_placeOfRank := by decide +kernel
theorem in_X5_placeOfRank_5 : ∀ w ∈ wsX50, w ∈ wsX5_placeOfRank := by decide +kernel
theorem lk_X5_placeOfRank_9 : Cond.fieldLink RX5 9 (TX5 0).1 (TX5 0).2.1 (TX5 0).2.2.1 ∈ wsX5_placeOfRank := by decide +kernel
theorem wd_X5_placeOfRank_ini_X7 : Cond.initialized RX7 ∈ wsX5_placeOfRank := by decide +kernel
theorem wd_X5_placeOfRank_sta_X7_formerOf : Cond.static yX7_formerOf ∈ wsX5_placeOfRank := by decide +kernel
def f_X5_placeOfRank_J84 (vD : Int32) (vA : Int32) (x55_6 : Int32) (x55_7 : Int32) (x84_2 : Int32) : Option ((Int32 × Int32 × Int32) ⊕ ((Int32 × Int32) ⊕ ((Int32 × Int32) ⊕ (Int32)))) :=
  some (.inl (x84_2, (x55_6 + (f_X5_step (f_X7_formerOf vA) vD)), (x55_7 + 1)))
def f_X5_placeOfRank_L55 (p1 : Int32) (vD : Int32) (vA : Int32) (vN : (Nat → Int32)) (x29_5 : Int32) (x55_2 : Int32) (x55_6 : Int32) (x55_7 : Int32) : Option ((Int32 × Int32 × Int32) ⊕ ((Int32 × Int32) ⊕ ((Int32 × Int32) ⊕ (Int32)))) :=
  if vD ≤ x55_7 then some (.inr (.inl (x55_2, (x29_5 + 1)))) else if (f_X5_number x55_6 vN) = 0 then (f_X5_placeOfRank_J84 vD vA x55_6 x55_7 x55_2) else if x55_2 = p1 then some (.inr (.inr (.inr (x55_6)))) else (f_X5_placeOfRank_J84 vD vA x55_6 x55_7 (x55_2 + 1))
def f_X5_placeOfRank_L29 (p1 : Int32) (vD : Int32) (vA : Int32) (vN : (Nat → Int32)) (x17_4 : Int32) (x29_2 : Int32) (x29_5 : Int32) : Option ((Int32 × Int32) ⊕ ((Int32 × Int32) ⊕ (Int32))) :=
  if vD ≤ x29_5 then some (.inr (.inl (x29_2, (x17_4 + 1)))) else dz_it (fun s : Int32 × Int32 × Int32 => f_X5_placeOfRank_L55 p1 vD vA vN x29_5 s.1 s.2.1 s.2.2) (x29_2, (f_X5_rowStart vA x17_4 x29_5 vD), 0)
def f_X5_placeOfRank_L17 (p1 : Int32) (vD : Int32) (vA : Int32) (vN : (Nat → Int32)) (x17_2 : Int32) (x17_4 : Int32) : Option ((Int32 × Int32) ⊕ (Int32)) :=
  if vD ≤ x17_4 then some (.inr ((-1))) else dz_it (fun s : Int32 × Int32 => f_X5_placeOfRank_L29 p1 vD vA vN x17_4 s.1 s.2) (x17_2, 0)
def f_X5_placeOfRank (p1 : Int32) (vD : Int32) (vA : Int32) (vN : (Nat → Int32)) : Option (Int32) :=
  dz_it (fun s : Int32 × Int32 => f_X5_placeOfRank_L17 p1 vD vA vN s.1 s.2) (0, 0)
abbrev rm_X5_placeOfRank : Room := { frames := 3, cells := 0, slots := 0, locals := 60 }
theorem k_X5_placeOfRank : Cf yX5_placeOfRank wsX5_placeOfRank rm_X5_placeOfRank cX5_placeOfRank 8 (some .int) 1 := ⟨⟨_, rfl⟩, by decide +kernel, by decide +kernel, by decide +kernel⟩
set_option maxRecDepth 100000 in
set_option maxHeartbeats 4000000 in
theorem b_X5_placeOfRank (G : CG) (hl : (gL G).stackTraces = false) (h5 : Nat) (qn : Nat) (qm : Nat) (vD : Int32) (vA : Int32) (vL : Int32) (vN : (Nat → Int32)) (vM : (Nat → Int32)) (p1 : Int32) (y : Int32) (hf : f_X5_placeOfRank p1 vD vA vN = some y) : Ct G yX5_placeOfRank wsX5_placeOfRank rm_X5_placeOfRank [.ref h5, .int p1] [(h5, .inr (5, [.int vD, .int vA, .int vL, .ref qn, .ref qm])), (qn, .inl (gI G, 512, .inl vN)), (qm, .inl (gI G, 512, .inl vM))] (fin1 (some (.int y)) [(h5, .inr (5, [.int vD, .int vA, .int vL, .ref qn, .ref qm])), (qn, .inl (gI G, 512, .inl vN)), (qm, .inl (gI G, 512, .inl vM))]) 0 0 := by
  refine Ct.of (cc := cX5_placeOfRank) (N := 8) (ret := (some .int)) RX5 (by decide) rfl rfl hl (Nat.le_of_ble_eq_true rfl) (lv := [(0, .ref h5), (1, .int p1)]) rfl (fun X hXG C hex hnm hQ => ?_)
  subst hXG
  unfold f_X5_placeOfRank at hf
  refine j_iconst C (v := 0) dX5_placeOfRank_0 (by decide) ?_
  refine j_istore_n (lv' := [(2, .int 0), (0, .ref h5), (1, .int p1)]) C dX5_placeOfRank_1 rfl (by decide) rfl ?_
  refine j_aload_n C dX5_placeOfRank_2 rfl 1 rfl ?_
  refine j_aload_n C dX5_placeOfRank_3 rfl 1 rfl ?_
  refine j_get5 C 0 rfl 1 (by decide) in_X5_placeOfRank_5 lk_X5_placeOfRank_15 rfl dX5_placeOfRank_4 ?_
  refine j_cN C (c_X7_formerOf X.1 hl vA) k_X7_formerOf gX5_placeOfRank_X7_formerOf_n44 nw_X5_44 wd_X5_placeOfRank_ini_X7 wd_X5_placeOfRank_sta_X7_formerOf (As := [.int vA]) (rest := [.ref h5]) (st' := [.int (f_X7_formerOf vA), .ref h5]) (ws' := [(h5, .inr (5, [.int vD, .int vA, .int vL, .ref qn, .ref qm])), (qn, .inl (gI X.1, 512, .inl vN)), (qm, .inl (gI X.1, 512, .inl vM))]) rfl rfl dX5_placeOfRank_7 [] [0, 1, 2] [0, 1, 2] rfl rfl rfl rfl rfl rfl ?_
  refine j_cV C (c_X5_step X.1 hl h5 qn qm vD vA vL vN vM (f_X7_formerOf vA)) k_X5_step gX5_placeOfRank_X5_step rfl (ci := 5) (q0 := 0) rfl rfl (As := [.int (f_X7_formerOf vA)]) (rest := []) (st' := [.int (f_X5_step (f_X7_formerOf vA) vD)]) (ws' := [(h5, .inr (5, [.int vD, .int vA, .int vL, .ref qn, .ref qm])), (qn, .inl (gI X.1, 512, .inl vN)), (qm, .inl (gI X.1, 512, .inl vM))]) rfl rfl dX5_placeOfRank_10 [0, 1, 2] [] [0, 1, 2] rfl rfl rfl rfl rfl rfl ?_
  refine j_istore_n (lv' := [(3, .int (f_X5_step (f_X7_formerOf vA) vD)), (2, .int 0), (0, .ref h5), (1, .int p1)]) C dX5_placeOfRank_13 rfl (by decide) rfl ?_
  refine j_iconst C (v := 0) dX5_placeOfRank_14 (by decide) ?_
  refine j_istore (lv' := [(4, .int 0), (3, .int (f_X5_step (f_X7_formerOf vA) vD)), (2, .int 0), (0, .ref h5), (1, .int p1)]) C dX5_placeOfRank_15 (by decide) rfl ?_
  have kk17 : ∀ (n : Nat) (x17_2 : Int32) (x17_4 : Int32), dz_iter n (fun s : Int32 × Int32 => f_X5_placeOfRank_L17 p1 vD vA vN s.1 s.2) (x17_2, x17_4) = some y → Jt X [(h5, .inr (5, [.int vD, .int vA, .int vL, .ref qn, .ref qm])), (qn, .inl (gI X.1, 512, .inl vN)), (qm, .inl (gI X.1, 512, .inl vM))] 0 0 17 [(0, .ref h5), (1, .int p1), (2, .int x17_2), (3, .int (f_X5_step (f_X7_formerOf vA) vD)), (4, .int x17_4)] [] := by
    intro n
    induction n with
    | zero => intro x17_2 x17_4 hit; exact absurd hit (by simp [dz_iter])
    | succ n ih17 =>
      intro x17_2 x17_4 hit
      obtain ⟨y17, hf, hg17⟩ := dz_iter_succ hit
      replace hf : f_X5_placeOfRank_L17 p1 vD vA vN x17_2 x17_4 = some y17 := hf
      unfold f_X5_placeOfRank_L17 at hf
      refine j_iload C dX5_placeOfRank_17 4 rfl ?_
      refine j_aload_n C dX5_placeOfRank_19 rfl 0 rfl ?_
      refine j_get5 C 0 rfl 0 (by decide) in_X5_placeOfRank_5 lk_X5_placeOfRank_9 rfl dX5_placeOfRank_20 ?_
      refine j_icmp_ge C (tgt := 108) dX5_placeOfRank_23 (by decide) (fun e23 => ?_) (fun e23 => ?_)
      · have hf := (if_pos e23).symm.trans hf
        refine j_iconst C (v := (-1)) dX5_placeOfRank_108 (by decide) ?_
        obtain rfl := Option.some.inj hf
        obtain rfl := dz_go_inr hg17
        exact j_iret C hQ rfl dX5_placeOfRank_109 (Nat.zero_le _) (Nat.zero_le _) ⟨rfl, rfl⟩
      · have hf := (if_neg e23).symm.trans hf
        refine j_iconst C (v := 0) dX5_placeOfRank_26 (by decide) ?_
        refine j_istore (lv' := [(5, .int 0), (0, .ref h5), (1, .int p1), (2, .int x17_2), (3, .int (f_X5_step (f_X7_formerOf vA) vD)), (4, .int x17_4)]) C dX5_placeOfRank_27 (by decide) rfl ?_
        have kk29 : ∀ (n : Nat) (x29_2 : Int32) (x29_5 : Int32), dz_iter n (fun s : Int32 × Int32 => f_X5_placeOfRank_L29 p1 vD vA vN x17_4 s.1 s.2) (x29_2, x29_5) = some y17 → Jt X [(h5, .inr (5, [.int vD, .int vA, .int vL, .ref qn, .ref qm])), (qn, .inl (gI X.1, 512, .inl vN)), (qm, .inl (gI X.1, 512, .inl vM))] 0 0 29 [(0, .ref h5), (1, .int p1), (2, .int x29_2), (3, .int (f_X5_step (f_X7_formerOf vA) vD)), (4, .int x17_4), (5, .int x29_5)] [] := by
          intro n
          induction n with
          | zero => intro x29_2 x29_5 hit; exact absurd hit (by simp [dz_iter])
          | succ n ih29 =>
            intro x29_2 x29_5 hit
            obtain ⟨y29, hf, hg29⟩ := dz_iter_succ hit
            replace hf : f_X5_placeOfRank_L29 p1 vD vA vN x17_4 x29_2 x29_5 = some y29 := hf
            unfold f_X5_placeOfRank_L29 at hf
            refine j_iload C dX5_placeOfRank_29 5 rfl ?_
            refine j_aload_n C dX5_placeOfRank_31 rfl 0 rfl ?_
            refine j_get5 C 0 rfl 0 (by decide) in_X5_placeOfRank_5 lk_X5_placeOfRank_9 rfl dX5_placeOfRank_32 ?_
            refine j_icmp_ge C (tgt := 102) dX5_placeOfRank_35 (by decide) (fun e35 => ?_) (fun e35 => ?_)
            · have hf := (if_pos e35).symm.trans hf
              refine j_iinc (v := (x17_4 + 1)) (lv' := [(4, .int (x17_4 + 1)), (0, .ref h5), (1, .int p1), (2, .int x29_2), (3, .int (f_X5_step (f_X7_formerOf vA) vD)), (5, .int x29_5)]) C dX5_placeOfRank_102 4 rfl (by first | rfl | decide) (by decide) rfl ?_
              refine j_goto C (tgt := 17) dX5_placeOfRank_105 (by decide) ?_
              obtain rfl := Option.some.inj hf
              obtain rfl := dz_go_inr hg29
              have hf := dz_go_inl hg17
              refine j_loc [1, 2, 3, 4, 0] rfl ?_
              exact ih17 x29_2 (x17_4 + 1) hf
            · have hf := (if_neg e35).symm.trans hf
              refine j_aload_n C dX5_placeOfRank_38 rfl 0 rfl ?_
              refine j_aload_n C dX5_placeOfRank_39 rfl 0 rfl ?_
              refine j_get5 C 0 rfl 1 (by decide) in_X5_placeOfRank_5 lk_X5_placeOfRank_15 rfl dX5_placeOfRank_40 ?_
              refine j_iload C dX5_placeOfRank_43 4 rfl ?_
              refine j_iload C dX5_placeOfRank_45 5 rfl ?_
              refine j_cV C (c_X5_rowStart X.1 hl h5 qn qm vD vA vL vN vM vA x17_4 x29_5) k_X5_rowStart gX5_placeOfRank_X5_rowStart rfl (ci := 5) (q0 := 0) rfl rfl (As := [.int vA, .int x17_4, .int x29_5]) (rest := []) (st' := [.int (f_X5_rowStart vA x17_4 x29_5 vD)]) (ws' := [(h5, .inr (5, [.int vD, .int vA, .int vL, .ref qn, .ref qm])), (qn, .inl (gI X.1, 512, .inl vN)), (qm, .inl (gI X.1, 512, .inl vM))]) rfl rfl dX5_placeOfRank_47 [0, 1, 2] [] [0, 1, 2] rfl rfl rfl rfl rfl rfl ?_
              refine j_istore (lv' := [(6, .int (f_X5_rowStart vA x17_4 x29_5 vD)), (0, .ref h5), (1, .int p1), (2, .int x29_2), (3, .int (f_X5_step (f_X7_formerOf vA) vD)), (4, .int x17_4), (5, .int x29_5)]) C dX5_placeOfRank_50 (by decide) rfl ?_
              refine j_iconst C (v := 0) dX5_placeOfRank_52 (by decide) ?_
              refine j_istore (lv' := [(7, .int 0), (6, .int (f_X5_rowStart vA x17_4 x29_5 vD)), (0, .ref h5), (1, .int p1), (2, .int x29_2), (3, .int (f_X5_step (f_X7_formerOf vA) vD)), (4, .int x17_4), (5, .int x29_5)]) C dX5_placeOfRank_53 (by decide) rfl ?_
              have kk55 : ∀ (n : Nat) (x55_2 : Int32) (x55_6 : Int32) (x55_7 : Int32), dz_iter n (fun s : Int32 × Int32 × Int32 => f_X5_placeOfRank_L55 p1 vD vA vN x29_5 s.1 s.2.1 s.2.2) (x55_2, x55_6, x55_7) = some y29 → Jt X [(h5, .inr (5, [.int vD, .int vA, .int vL, .ref qn, .ref qm])), (qn, .inl (gI X.1, 512, .inl vN)), (qm, .inl (gI X.1, 512, .inl vM))] 0 0 55 [(0, .ref h5), (1, .int p1), (2, .int x55_2), (3, .int (f_X5_step (f_X7_formerOf vA) vD)), (4, .int x17_4), (5, .int x29_5), (6, .int x55_6), (7, .int x55_7)] [] := by
                intro n
                induction n with
                | zero => intro x55_2 x55_6 x55_7 hit; exact absurd hit (by simp [dz_iter])
                | succ n ih55 =>
                  intro x55_2 x55_6 x55_7 hit
                  obtain ⟨y55, hf, hg55⟩ := dz_iter_succ hit
                  replace hf : f_X5_placeOfRank_L55 p1 vD vA vN x29_5 x55_2 x55_6 x55_7 = some y55 := hf
                  unfold f_X5_placeOfRank_L55 at hf
                  refine j_iload C dX5_placeOfRank_55 7 rfl ?_
                  refine j_aload_n C dX5_placeOfRank_57 rfl 0 rfl ?_
                  refine j_get5 C 0 rfl 0 (by decide) in_X5_placeOfRank_5 lk_X5_placeOfRank_9 rfl dX5_placeOfRank_58 ?_
                  refine j_icmp_ge C (tgt := 96) dX5_placeOfRank_61 (by decide) (fun e61 => ?_) (fun e61 => ?_)
                  · have hf := (if_pos e61).symm.trans hf
                    refine j_iinc (v := (x29_5 + 1)) (lv' := [(5, .int (x29_5 + 1)), (0, .ref h5), (1, .int p1), (2, .int x55_2), (3, .int (f_X5_step (f_X7_formerOf vA) vD)), (4, .int x17_4), (6, .int x55_6), (7, .int x55_7)]) C dX5_placeOfRank_96 5 rfl (by first | rfl | decide) (by decide) rfl ?_
                    refine j_goto C (tgt := 29) dX5_placeOfRank_99 (by decide) ?_
                    obtain rfl := Option.some.inj hf
                    obtain rfl := dz_go_inr hg55
                    have hf := dz_go_inl hg29
                    refine j_loc [1, 2, 3, 4, 5, 0] rfl ?_
                    exact ih29 x55_2 (x29_5 + 1) hf
                  · have hf := (if_neg e61).symm.trans hf
                    refine j_aload_n C dX5_placeOfRank_64 rfl 0 rfl ?_
                    refine j_iload C dX5_placeOfRank_65 6 rfl ?_
                    refine j_cV C (c_X5_number X.1 hl h5 qn qm vD vA vL vN vM x55_6) k_X5_number gX5_placeOfRank_X5_number rfl (ci := 5) (q0 := 0) rfl rfl (As := [.int x55_6]) (rest := []) (st' := [.int (f_X5_number x55_6 vN)]) (ws' := [(h5, .inr (5, [.int vD, .int vA, .int vL, .ref qn, .ref qm])), (qn, .inl (gI X.1, 512, .inl vN)), (qm, .inl (gI X.1, 512, .inl vM))]) rfl rfl dX5_placeOfRank_67 [0, 1, 2] [] [0, 1, 2] rfl rfl rfl rfl rfl rfl ?_
                    have k84 : ∀ (x84_2 : Int32), f_X5_placeOfRank_J84 vD vA x55_6 x55_7 x84_2 = some y55 → Jt X [(h5, .inr (5, [.int vD, .int vA, .int vL, .ref qn, .ref qm])), (qn, .inl (gI X.1, 512, .inl vN)), (qm, .inl (gI X.1, 512, .inl vM))] 0 0 84 [(0, .ref h5), (1, .int p1), (2, .int x84_2), (3, .int (f_X5_step (f_X7_formerOf vA) vD)), (4, .int x17_4), (5, .int x29_5), (6, .int x55_6), (7, .int x55_7)] [] := by
                      intro x84_2 hf
                      unfold f_X5_placeOfRank_J84 at hf
                      refine j_iload C dX5_placeOfRank_84 6 rfl ?_
                      refine j_iload_n C dX5_placeOfRank_86 rfl 3 rfl ?_
                      refine j_iadd C dX5_placeOfRank_87 ?_
                      refine j_istore (lv' := [(6, .int (x55_6 + (f_X5_step (f_X7_formerOf vA) vD))), (0, .ref h5), (1, .int p1), (2, .int x84_2), (3, .int (f_X5_step (f_X7_formerOf vA) vD)), (4, .int x17_4), (5, .int x29_5), (7, .int x55_7)]) C dX5_placeOfRank_88 (by decide) rfl ?_
                      refine j_iinc (v := (x55_7 + 1)) (lv' := [(7, .int (x55_7 + 1)), (6, .int (x55_6 + (f_X5_step (f_X7_formerOf vA) vD))), (0, .ref h5), (1, .int p1), (2, .int x84_2), (3, .int (f_X5_step (f_X7_formerOf vA) vD)), (4, .int x17_4), (5, .int x29_5)]) C dX5_placeOfRank_90 7 rfl (by first | rfl | decide) (by decide) rfl ?_
                      refine j_goto C (tgt := 55) dX5_placeOfRank_93 (by decide) ?_
                      obtain rfl := Option.some.inj hf
                      have hf := dz_go_inl hg55
                      refine j_loc [2, 3, 4, 5, 6, 7, 1, 0] rfl ?_
                      exact ih55 x84_2 (x55_6 + (f_X5_step (f_X7_formerOf vA) vD)) (x55_7 + 1) hf
                    refine j_if_eq C (tgt := 84) dX5_placeOfRank_70 (by decide) (fun e70 => ?_) (fun e70 => ?_)
                    · have hf := (if_pos e70).symm.trans hf
                      refine j_loc [0, 1, 2, 3, 4, 5, 6, 7] rfl ?_
                      exact k84 x55_2 hf
                    · have hf := (if_neg e70).symm.trans hf
                      refine j_iload_n C dX5_placeOfRank_73 rfl 2 rfl ?_
                      refine j_iload_n C dX5_placeOfRank_74 rfl 1 rfl ?_
                      refine j_icmp_ne C (tgt := 81) dX5_placeOfRank_75 (by decide) (fun e75 => ?_) (fun e75 => ?_)
                      · have hf := (if_neg e75).symm.trans hf
                        refine j_iinc (v := (x55_2 + 1)) (lv' := [(2, .int (x55_2 + 1)), (0, .ref h5), (1, .int p1), (3, .int (f_X5_step (f_X7_formerOf vA) vD)), (4, .int x17_4), (5, .int x29_5), (6, .int x55_6), (7, .int x55_7)]) C dX5_placeOfRank_81 2 rfl (by first | rfl | decide) (by decide) rfl ?_
                        refine j_loc [1, 2, 0, 3, 4, 5, 6, 7] rfl ?_
                        exact k84 (x55_2 + 1) hf
                      · have hf := (if_pos e75).symm.trans hf
                        refine j_iload C dX5_placeOfRank_78 6 rfl ?_
                        obtain rfl := Option.some.inj hf
                        obtain rfl := dz_go_inr hg55
                        obtain rfl := dz_go_inr hg29
                        obtain rfl := dz_go_inr hg17
                        exact j_iret C hQ rfl dX5_placeOfRank_80 (Nat.zero_le _) (Nat.zero_le _) ⟨rfl, rfl⟩
              refine j_loc [2, 3, 4, 5, 6, 7, 1, 0] rfl ?_
              exact kk55 _ x29_2 (f_X5_rowStart vA x17_4 x29_5 vD) 0 hf
        refine j_loc [1, 2, 3, 4, 5, 0] rfl ?_
        exact kk29 _ x17_2 0 hf
  refine j_loc [3, 4, 2, 1, 0] rfl ?_
  exact kk17 _ 0 0 hf

theorem lk_X5_clear_9 : Cond.fieldLink RX5 9 (TX5 0).1 (TX5 0).2.1 (TX5 0).2.2.1 ∈ wsX5_clear := by decide +kernel
theorem in_X5_clear_5 : ∀ w ∈ wsX50, w ∈ wsX5_clear := by decide +kernel
theorem lk_X5_clear_21 : Cond.fieldLink RX5 21 (TX5 3).1 (TX5 3).2.1 (TX5 3).2.2.1 ∈ wsX5_clear := by decide +kernel
theorem lk_X5_clear_25 : Cond.fieldLink RX5 25 (TX5 4).1 (TX5 4).2.1 (TX5 4).2.2.1 ∈ wsX5_clear := by decide +kernel
theorem wd_X5_clear_ini_X7 : Cond.initialized RX7 ∈ wsX5_clear := by decide +kernel
theorem wd_X5_clear_sta_X7_setCell : Cond.static yX7_setCell ∈ wsX5_clear := by decide +kernel
def f_X5_clear_L7 (p1 : Int32) (x7_2 : Int32) (vN_7 : (Nat → Int32)) (vM_7 : (Nat → Int32)) : Option ((Int32 × (Nat → Int32) × (Nat → Int32)) ⊕ (Int32 × (Nat → Int32) × (Nat → Int32))) :=
  if 512 ≤ x7_2 then some (.inr ((p1, vN_7, vM_7))) else some (.inl ((x7_2 + 1), (f_X7_setCell 512 vN_7 x7_2 0), (f_X7_setCell 512 vM_7 x7_2 0)))
def f_X5_clear (p1 : Int32) (vN : (Nat → Int32)) (vM : (Nat → Int32)) : Option (Int32 × (Nat → Int32) × (Nat → Int32)) :=
  dz_it (fun s : Int32 × (Nat → Int32) × (Nat → Int32) => f_X5_clear_L7 p1 s.1 s.2.1 s.2.2) (0, vN, vM)
abbrev rm_X5_clear : Room := { frames := 2, cells := 0, slots := 0, locals := 38 }
theorem k_X5_clear : Cf yX5_clear wsX5_clear rm_X5_clear cX5_clear 3 none 1 := ⟨⟨_, rfl⟩, by decide +kernel, by decide +kernel, by decide +kernel⟩
set_option maxRecDepth 100000 in
set_option maxHeartbeats 4000000 in
theorem b_X5_clear (G : CG) (hl : (gL G).stackTraces = false) (h5 : Nat) (qn : Nat) (qm : Nat) (vD : Int32) (vA : Int32) (vL : Int32) (vN : (Nat → Int32)) (vM : (Nat → Int32)) (p1 : Int32) (y : Int32 × (Nat → Int32) × (Nat → Int32)) (hf : f_X5_clear p1 vN vM = some y) : Ct G yX5_clear wsX5_clear rm_X5_clear [.ref h5, .int p1] [(h5, .inr (5, [.int vD, .int vA, .int vL, .ref qn, .ref qm])), (qn, .inl (gI G, 512, .inl vN)), (qm, .inl (gI G, 512, .inl vM))] (fin1 none [(h5, .inr (5, [.int y.1, .int vA, .int vL, .ref qn, .ref qm])), (qn, .inl (gI G, 512, .inl y.2.1)), (qm, .inl (gI G, 512, .inl y.2.2))]) 0 0 := by
  refine Ct.of (cc := cX5_clear) (N := 3) (ret := none) RX5 (by decide) rfl rfl hl (Nat.le_of_ble_eq_true rfl) (lv := [(0, .ref h5), (1, .int p1)]) rfl (fun X hXG C hex hnm hQ => ?_)
  subst hXG
  unfold f_X5_clear at hf
  refine j_aload_n C dX5_clear_0 rfl 0 rfl ?_
  refine j_iload_n C dX5_clear_1 rfl 1 rfl ?_
  refine j_put5 (ty := .int) (ws' := [(h5, .inr (5, [.int p1, .int vA, .int vL, .ref qn, .ref qm])), (qn, .inl (gI X.1, 512, .inl vN)), (qm, .inl (gI X.1, 512, .inl vM))]) C 0 rfl 0 (by decide) in_X5_clear_5 lk_X5_clear_9 rfl (by decide +kernel) rfl rfl (Nat.le_of_ble_eq_true rfl) rfl dX5_clear_2 ?_
  refine j_iconst C (v := 0) dX5_clear_5 (by decide) ?_
  refine j_istore_n (lv' := [(2, .int 0), (0, .ref h5), (1, .int p1)]) C dX5_clear_6 rfl (by decide) rfl ?_
  have kk7 : ∀ (n : Nat) (x7_2 : Int32) (vN_7 : (Nat → Int32)) (vM_7 : (Nat → Int32)), dz_iter n (fun s : Int32 × (Nat → Int32) × (Nat → Int32) => f_X5_clear_L7 p1 s.1 s.2.1 s.2.2) (x7_2, vN_7, vM_7) = some y → Jt X [(h5, .inr (5, [.int p1, .int vA, .int vL, .ref qn, .ref qm])), (qn, .inl (gI X.1, 512, .inl vN_7)), (qm, .inl (gI X.1, 512, .inl vM_7))] 0 0 7 [(0, .ref h5), (1, .int p1), (2, .int x7_2)] [] := by
    intro n
    induction n with
    | zero => intro x7_2 vN_7 vM_7 hit; exact absurd hit (by simp [dz_iter])
    | succ n ih7 =>
      intro x7_2 vN_7 vM_7 hit
      obtain ⟨y7, hf, hg7⟩ := dz_iter_succ hit
      replace hf : f_X5_clear_L7 p1 x7_2 vN_7 vM_7 = some y7 := hf
      unfold f_X5_clear_L7 at hf
      refine j_iload_n C dX5_clear_7 rfl 2 rfl ?_
      refine j_sipush C (v := 512) dX5_clear_8 (by decide) ?_
      refine j_icmp_ge C (tgt := 38) dX5_clear_11 (by decide) (fun e11 => ?_) (fun e11 => ?_)
      · have hf := (if_pos e11).symm.trans hf
        obtain rfl := Option.some.inj hf
        obtain rfl := dz_go_inr hg7
        exact j_vret C hQ rfl dX5_clear_38 (Nat.zero_le _) (Nat.zero_le _) ⟨rfl, rfl⟩
      · have hf := (if_neg e11).symm.trans hf
        refine j_aload_n C dX5_clear_14 rfl 0 rfl ?_
        refine j_get5 C 0 rfl 3 (by decide) in_X5_clear_5 lk_X5_clear_21 rfl dX5_clear_15 ?_
        refine j_iload_n C dX5_clear_18 rfl 2 rfl ?_
        refine j_iconst C (v := 0) dX5_clear_19 (by decide) ?_
        refine j_cN C (c_X7_setCell X.1 hl qn 512 vN_7 x7_2 0 (by decide)) k_X7_setCell gX5_clear_X7_setCell_n32 nw_X5_32 wd_X5_clear_ini_X7 wd_X5_clear_sta_X7_setCell (As := [.ref qn, .int x7_2, .int 0]) (rest := []) (st' := []) (ws' := [(h5, .inr (5, [.int p1, .int vA, .int vL, .ref qn, .ref qm])), (qn, .inl (gI X.1, 512, .inl (f_X7_setCell 512 vN_7 x7_2 0))), (qm, .inl (gI X.1, 512, .inl vM_7))]) rfl rfl dX5_clear_20 [1] [0, 2] [0, 2, 1] rfl rfl rfl rfl rfl rfl ?_
        refine j_aload_n C dX5_clear_23 rfl 0 rfl ?_
        refine j_get5 C 0 rfl 4 (by decide) in_X5_clear_5 lk_X5_clear_25 rfl dX5_clear_24 ?_
        refine j_iload_n C dX5_clear_27 rfl 2 rfl ?_
        refine j_iconst C (v := 0) dX5_clear_28 (by decide) ?_
        refine j_cN C (c_X7_setCell X.1 hl qm 512 vM_7 x7_2 0 (by decide)) k_X7_setCell gX5_clear_X7_setCell_n32 nw_X5_32 wd_X5_clear_ini_X7 wd_X5_clear_sta_X7_setCell (As := [.ref qm, .int x7_2, .int 0]) (rest := []) (st' := []) (ws' := [(h5, .inr (5, [.int p1, .int vA, .int vL, .ref qn, .ref qm])), (qn, .inl (gI X.1, 512, .inl (f_X7_setCell 512 vN_7 x7_2 0))), (qm, .inl (gI X.1, 512, .inl (f_X7_setCell 512 vM_7 x7_2 0)))]) rfl rfl dX5_clear_29 [2] [0, 1] [0, 1, 2] rfl rfl rfl rfl rfl rfl ?_
        refine j_iinc (v := (x7_2 + 1)) (lv' := [(2, .int (x7_2 + 1)), (0, .ref h5), (1, .int p1)]) C dX5_clear_32 2 rfl (by first | rfl | decide) (by decide) rfl ?_
        refine j_goto C (tgt := 7) dX5_clear_35 (by decide) ?_
        obtain rfl := Option.some.inj hf
        have hf := dz_go_inl hg7
        refine j_loc [1, 2, 0] rfl ?_
        exact ih7 (x7_2 + 1) (f_X7_setCell 512 vN_7 x7_2 0) (f_X7_setCell 512 vM_7 x7_2 0) hf
  refine j_loc [1, 2, 0] rfl ?_
  exact kk7 _ 0 vN vM hf

theorem lk_X5_copyFrom_9 : Cond.fieldLink RX5 9 (TX5 0).1 (TX5 0).2.1 (TX5 0).2.2.1 ∈ wsX5_copyFrom := by decide +kernel
theorem in_X5_copyFrom_5 : ∀ w ∈ wsX50, w ∈ wsX5_copyFrom := by decide +kernel
theorem lk_X5_copyFrom_15 : Cond.fieldLink RX5 15 (TX5 1).1 (TX5 1).2.1 (TX5 1).2.2.1 ∈ wsX5_copyFrom := by decide +kernel
theorem lk_X5_copyFrom_18 : Cond.fieldLink RX5 18 (TX5 2).1 (TX5 2).2.1 (TX5 2).2.2.1 ∈ wsX5_copyFrom := by decide +kernel
theorem lk_X5_copyFrom_21 : Cond.fieldLink RX5 21 (TX5 3).1 (TX5 3).2.1 (TX5 3).2.2.1 ∈ wsX5_copyFrom := by decide +kernel
theorem lk_X5_copyFrom_25 : Cond.fieldLink RX5 25 (TX5 4).1 (TX5 4).2.1 (TX5 4).2.2.1 ∈ wsX5_copyFrom := by decide +kernel
theorem wd_X5_copyFrom_ini_X7 : Cond.initialized RX7 ∈ wsX5_copyFrom := by decide +kernel
theorem wd_X5_copyFrom_sta_X7_copyRow : Cond.static yX7_copyRow ∈ wsX5_copyFrom := by decide +kernel
def f_X5_copyFrom (vN : (Nat → Int32)) (vM : (Nat → Int32)) (wD : Int32) (wA : Int32) (wL : Int32) (wN : (Nat → Int32)) (wM : (Nat → Int32)) : Int32 × Int32 × Int32 × (Nat → Int32) × (Nat → Int32) :=
  (wD, wA, wL, (f_X7_copyRow 512 wN 512 vN), (f_X7_copyRow 512 wM 512 vM))
abbrev rm_X5_copyFrom : Room := { frames := 2, cells := 0, slots := 0, locals := 61 }
theorem k_X5_copyFrom : Cf yX5_copyFrom wsX5_copyFrom rm_X5_copyFrom cX5_copyFrom 2 none 1 := ⟨⟨_, rfl⟩, by decide +kernel, by decide +kernel, by decide +kernel⟩
set_option maxRecDepth 100000 in
set_option maxHeartbeats 4000000 in
theorem b_X5_copyFrom (G : CG) (hl : (gL G).stackTraces = false) (h5 : Nat) (qn : Nat) (qm : Nat) (g5 : Nat) (gn : Nat) (gm : Nat) (vD : Int32) (vA : Int32) (vL : Int32) (vN : (Nat → Int32)) (vM : (Nat → Int32)) (wD : Int32) (wA : Int32) (wL : Int32) (wN : (Nat → Int32)) (wM : (Nat → Int32)) (y : Int32 × Int32 × Int32 × (Nat → Int32) × (Nat → Int32)) (hf : f_X5_copyFrom vN vM wD wA wL wN wM = y) : Ct G yX5_copyFrom wsX5_copyFrom rm_X5_copyFrom [.ref h5, .ref g5] [(h5, .inr (5, [.int vD, .int vA, .int vL, .ref qn, .ref qm])), (qn, .inl (gI G, 512, .inl vN)), (qm, .inl (gI G, 512, .inl vM)), (g5, .inr (5, [.int wD, .int wA, .int wL, .ref gn, .ref gm])), (gn, .inl (gI G, 512, .inl wN)), (gm, .inl (gI G, 512, .inl wM))] (fin1 none [(h5, .inr (5, [.int y.1, .int y.2.1, .int y.2.2.1, .ref qn, .ref qm])), (qn, .inl (gI G, 512, .inl y.2.2.2.1)), (qm, .inl (gI G, 512, .inl y.2.2.2.2)), (g5, .inr (5, [.int wD, .int wA, .int wL, .ref gn, .ref gm])), (gn, .inl (gI G, 512, .inl wN)), (gm, .inl (gI G, 512, .inl wM))]) 0 0 := by
  refine Ct.of (cc := cX5_copyFrom) (N := 2) (ret := none) RX5 (by decide) rfl rfl hl (Nat.le_of_ble_eq_true rfl) (lv := [(0, .ref h5), (1, .ref g5)]) rfl (fun X hXG C hex hnm hQ => ?_)
  subst hXG
  unfold f_X5_copyFrom at hf
  refine j_aload_n C dX5_copyFrom_0 rfl 1 rfl ?_
  refine j_ifnonnull C (tgt := 5) dX5_copyFrom_1 (by decide) ?_
  refine j_aload_n C dX5_copyFrom_5 rfl 0 rfl ?_
  refine j_aload_n C dX5_copyFrom_6 rfl 1 rfl ?_
  refine j_get5 C 3 rfl 0 (by decide) in_X5_copyFrom_5 lk_X5_copyFrom_9 rfl dX5_copyFrom_7 ?_
  refine j_put5 (ty := .int) (ws' := [(h5, .inr (5, [.int wD, .int vA, .int vL, .ref qn, .ref qm])), (qn, .inl (gI X.1, 512, .inl vN)), (qm, .inl (gI X.1, 512, .inl vM)), (g5, .inr (5, [.int wD, .int wA, .int wL, .ref gn, .ref gm])), (gn, .inl (gI X.1, 512, .inl wN)), (gm, .inl (gI X.1, 512, .inl wM))]) C 0 rfl 0 (by decide) in_X5_copyFrom_5 lk_X5_copyFrom_9 rfl (by decide +kernel) rfl rfl (Nat.le_of_ble_eq_true rfl) rfl dX5_copyFrom_10 ?_
  refine j_aload_n C dX5_copyFrom_13 rfl 0 rfl ?_
  refine j_aload_n C dX5_copyFrom_14 rfl 1 rfl ?_
  refine j_get5 C 3 rfl 1 (by decide) in_X5_copyFrom_5 lk_X5_copyFrom_15 rfl dX5_copyFrom_15 ?_
  refine j_put5 (ty := .int) (ws' := [(h5, .inr (5, [.int wD, .int wA, .int vL, .ref qn, .ref qm])), (qn, .inl (gI X.1, 512, .inl vN)), (qm, .inl (gI X.1, 512, .inl vM)), (g5, .inr (5, [.int wD, .int wA, .int wL, .ref gn, .ref gm])), (gn, .inl (gI X.1, 512, .inl wN)), (gm, .inl (gI X.1, 512, .inl wM))]) C 0 rfl 1 (by decide) in_X5_copyFrom_5 lk_X5_copyFrom_15 rfl (by decide +kernel) rfl rfl (Nat.le_of_ble_eq_true rfl) rfl dX5_copyFrom_18 ?_
  refine j_aload_n C dX5_copyFrom_21 rfl 0 rfl ?_
  refine j_aload_n C dX5_copyFrom_22 rfl 1 rfl ?_
  refine j_get5 C 3 rfl 2 (by decide) in_X5_copyFrom_5 lk_X5_copyFrom_18 rfl dX5_copyFrom_23 ?_
  refine j_put5 (ty := .int) (ws' := [(h5, .inr (5, [.int wD, .int wA, .int wL, .ref qn, .ref qm])), (qn, .inl (gI X.1, 512, .inl vN)), (qm, .inl (gI X.1, 512, .inl vM)), (g5, .inr (5, [.int wD, .int wA, .int wL, .ref gn, .ref gm])), (gn, .inl (gI X.1, 512, .inl wN)), (gm, .inl (gI X.1, 512, .inl wM))]) C 0 rfl 2 (by decide) in_X5_copyFrom_5 lk_X5_copyFrom_18 rfl (by decide +kernel) rfl rfl (Nat.le_of_ble_eq_true rfl) rfl dX5_copyFrom_26 ?_
  refine j_aload_n C dX5_copyFrom_29 rfl 1 rfl ?_
  refine j_get5 C 3 rfl 3 (by decide) in_X5_copyFrom_5 lk_X5_copyFrom_21 rfl dX5_copyFrom_30 ?_
  refine j_aload_n C dX5_copyFrom_33 rfl 0 rfl ?_
  refine j_get5 C 0 rfl 3 (by decide) in_X5_copyFrom_5 lk_X5_copyFrom_21 rfl dX5_copyFrom_34 ?_
  refine j_cN C (c_X7_copyRow X.1 hl gn qn 512 512 wN vN (by decide) (by decide)) k_X7_copyRow gX5_copyFrom_X7_copyRow_n28 nw_X5_28 wd_X5_copyFrom_ini_X7 wd_X5_copyFrom_sta_X7_copyRow (As := [.ref gn, .ref qn]) (rest := []) (st' := []) (ws' := [(h5, .inr (5, [.int wD, .int wA, .int wL, .ref qn, .ref qm])), (qn, .inl (gI X.1, 512, .inl (f_X7_copyRow 512 wN 512 vN))), (qm, .inl (gI X.1, 512, .inl vM)), (g5, .inr (5, [.int wD, .int wA, .int wL, .ref gn, .ref gm])), (gn, .inl (gI X.1, 512, .inl wN)), (gm, .inl (gI X.1, 512, .inl wM))]) rfl rfl dX5_copyFrom_37 [4, 1] [0, 2, 3, 5] [0, 5, 1, 2, 4, 3] rfl rfl rfl rfl rfl rfl ?_
  refine j_aload_n C dX5_copyFrom_40 rfl 1 rfl ?_
  refine j_get5 C 3 rfl 4 (by decide) in_X5_copyFrom_5 lk_X5_copyFrom_25 rfl dX5_copyFrom_41 ?_
  refine j_aload_n C dX5_copyFrom_44 rfl 0 rfl ?_
  refine j_get5 C 0 rfl 4 (by decide) in_X5_copyFrom_5 lk_X5_copyFrom_25 rfl dX5_copyFrom_45 ?_
  refine j_cN C (c_X7_copyRow X.1 hl gm qm 512 512 wM vM (by decide) (by decide)) k_X7_copyRow gX5_copyFrom_X7_copyRow_n28 nw_X5_28 wd_X5_copyFrom_ini_X7 wd_X5_copyFrom_sta_X7_copyRow (As := [.ref gm, .ref qm]) (rest := []) (st' := []) (ws' := [(h5, .inr (5, [.int wD, .int wA, .int wL, .ref qn, .ref qm])), (qn, .inl (gI X.1, 512, .inl (f_X7_copyRow 512 wN 512 vN))), (qm, .inl (gI X.1, 512, .inl (f_X7_copyRow 512 wM 512 vM))), (g5, .inr (5, [.int wD, .int wA, .int wL, .ref gn, .ref gm])), (gn, .inl (gI X.1, 512, .inl wN)), (gm, .inl (gI X.1, 512, .inl wM))]) rfl rfl dX5_copyFrom_48 [5, 2] [0, 1, 3, 4] [0, 1, 5, 2, 3, 4] rfl rfl rfl rfl rfl rfl ?_
  subst hf
  exact j_vret C hQ rfl dX5_copyFrom_51 (Nat.zero_le _) (Nat.zero_le _) ⟨rfl, rfl⟩
theorem c_X5_copyFrom (G : CG) (hl : (gL G).stackTraces = false) (h5 : Nat) (qn : Nat) (qm : Nat) (g5 : Nat) (gn : Nat) (gm : Nat) (vD : Int32) (vA : Int32) (vL : Int32) (vN : (Nat → Int32)) (vM : (Nat → Int32)) (wD : Int32) (wA : Int32) (wL : Int32) (wN : (Nat → Int32)) (wM : (Nat → Int32)) : Ct G yX5_copyFrom wsX5_copyFrom rm_X5_copyFrom [.ref h5, .ref g5] [(h5, .inr (5, [.int vD, .int vA, .int vL, .ref qn, .ref qm])), (qn, .inl (gI G, 512, .inl vN)), (qm, .inl (gI G, 512, .inl vM)), (g5, .inr (5, [.int wD, .int wA, .int wL, .ref gn, .ref gm])), (gn, .inl (gI G, 512, .inl wN)), (gm, .inl (gI G, 512, .inl wM))] (fin1 none [(h5, .inr (5, [.int (f_X5_copyFrom vN vM wD wA wL wN wM).1, .int (f_X5_copyFrom vN vM wD wA wL wN wM).2.1, .int (f_X5_copyFrom vN vM wD wA wL wN wM).2.2.1, .ref qn, .ref qm])), (qn, .inl (gI G, 512, .inl (f_X5_copyFrom vN vM wD wA wL wN wM).2.2.2.1)), (qm, .inl (gI G, 512, .inl (f_X5_copyFrom vN vM wD wA wL wN wM).2.2.2.2)), (g5, .inr (5, [.int wD, .int wA, .int wL, .ref gn, .ref gm])), (gn, .inl (gI G, 512, .inl wN)), (gm, .inl (gI G, 512, .inl wM))]) 0 0 := b_X5_copyFrom G hl h5 qn qm g5 gn gm vD vA vL vN vM wD wA wL wN wM _ rfl

end
