noncomputable section
theorem lk_X7_roomShare_10 : Cond.fieldLink RX7 10 (TX7 0).1 (TX7 0).2.1 (TX7 0).2.2.1 ∈ wsX7_roomShare := by decide +kernel
theorem in_X7_roomShare_7 : ∀ w ∈ wsX70, w ∈ wsX7_roomShare := by decide +kernel
theorem in_X7_roomShare_5 : ∀ w ∈ wsX50, w ∈ wsX7_roomShare := by decide +kernel
def f_X7_roomShare (vD : Int32) (vA : Int32) (vL : Int32) (vN : (Nat → Int32)) (lD : Int32) (lS : (Nat → Int32)) (lF : (Nat → Int32)) (lG : (Nat → Int32)) (lR : (Nat → Int32)) : Option (UInt64 × Int32 × (Nat → Int32) × (Nat → Int32) × (Nat → Int32) × (Nat → Int32)) :=
  if (vD * (1 + (vD * vD))) ≤ 0 then some ((FP.dconst0, lD, lS, lF, lG, lR)) else Option.bind (f_X7_roomBy vA vD vL vN lD lS lF lG lR) (fun r38 => dz_nn (FP.ddiv (FP.i2d r38.1) (FP.i2d (vD * (1 + (vD * vD))))) (some (((FP.ddiv (FP.i2d r38.1) (FP.i2d (vD * (1 + (vD * vD))))), r38.2.1, r38.2.2.1, r38.2.2.2.1, r38.2.2.2.2.1, r38.2.2.2.2.2))))
abbrev rm_X7_roomShare : Room := { frames := 6, cells := 0, slots := 0, locals := 137 }
theorem k_X7_roomShare : Cf yX7_roomShare wsX7_roomShare rm_X7_roomShare cX7_roomShare 2 (some .double) 0 := ⟨⟨_, rfl⟩, by decide +kernel, by decide +kernel, by decide +kernel⟩
set_option maxRecDepth 100000 in
set_option maxHeartbeats 4000000 in
theorem b_X7_roomShare (G : CG) (hl : (gL G).stackTraces = false) (h7 : Nat) (h5 : Nat) (h2 : Nat) (h6 : Nat) (h4 : Nat) (h0 : Nat) (h3 : Nat) (h1 : Nat) (qb : Nat) (qn : Nat) (qm : Nat) (a1 : Nat) (a2 : Nat) (a3 : Nat) (a4 : Nat) (vD : Int32) (vA : Int32) (vL : Int32) (vN : (Nat → Int32)) (vM : (Nat → Int32)) (lD : Int32) (lS : (Nat → Int32)) (lF : (Nat → Int32)) (lG : (Nat → Int32)) (lR : (Nat → Int32)) (nB : (Nat → Int32)) (y : UInt64 × Int32 × (Nat → Int32) × (Nat → Int32) × (Nat → Int32) × (Nat → Int32)) (hf : f_X7_roomShare vD vA vL vN lD lS lF lG lR = some y) : Ct G yX7_roomShare wsX7_roomShare rm_X7_roomShare [.ref h7] [(h7, .inr (7, [.ref h5, .ref h2, .ref h6, .ref h4, .ref h0, .ref h3, .ref h1, .ref qb])), (qb, .inl (gI G, 512, .inl nB)), (h5, .inr (5, [.int vD, .int vA, .int vL, .ref qn, .ref qm])), (qn, .inl (gI G, 512, .inl vN)), (qm, .inl (gI G, 512, .inl vM)), (h4, .inr (4, [.int lD, .ref a1, .ref a2, .ref a3, .ref a4])), (a1, .inl (gI G, 8, .inl lS)), (a2, .inl (gI G, 8, .inl lF)), (a3, .inl (gI G, 8, .inl lG)), (a4, .inl (gI G, 8, .inl lR))] (fin1 (some (.double y.1)) [(h7, .inr (7, [.ref h5, .ref h2, .ref h6, .ref h4, .ref h0, .ref h3, .ref h1, .ref qb])), (qb, .inl (gI G, 512, .inl nB)), (h5, .inr (5, [.int vD, .int vA, .int vL, .ref qn, .ref qm])), (qn, .inl (gI G, 512, .inl vN)), (qm, .inl (gI G, 512, .inl vM)), (h4, .inr (4, [.int y.2.1, .ref a1, .ref a2, .ref a3, .ref a4])), (a1, .inl (gI G, 8, .inl y.2.2.1)), (a2, .inl (gI G, 8, .inl y.2.2.2.1)), (a3, .inl (gI G, 8, .inl y.2.2.2.2.1)), (a4, .inl (gI G, 8, .inl y.2.2.2.2.2))]) 0 0 := by
  refine Ct.of (cc := cX7_roomShare) (N := 2) (ret := (some .double)) RX7 (by decide) rfl rfl hl (Nat.le_of_ble_eq_true rfl) (lv := [(0, .ref h7)]) rfl (fun X hXG C hex hnm hQ => ?_)
  subst hXG
  unfold f_X7_roomShare at hf
  refine j_aload_n C dX7_roomShare_0 rfl 0 rfl ?_
  refine j_get7 C 0 rfl 0 (by decide) in_X7_roomShare_7 lk_X7_roomShare_10 rfl dX7_roomShare_1 ?_
  refine j_getN5 C 2 rfl 0 (by decide) in_X7_roomShare_5 nw_X7_137 rfl dX7_roomShare_4 ?_
  refine j_iconst C (v := 1) dX7_roomShare_7 (by decide) ?_
  refine j_aload_n C dX7_roomShare_8 rfl 0 rfl ?_
  refine j_get7 C 0 rfl 0 (by decide) in_X7_roomShare_7 lk_X7_roomShare_10 rfl dX7_roomShare_9 ?_
  refine j_getN5 C 2 rfl 0 (by decide) in_X7_roomShare_5 nw_X7_137 rfl dX7_roomShare_12 ?_
  refine j_aload_n C dX7_roomShare_15 rfl 0 rfl ?_
  refine j_get7 C 0 rfl 0 (by decide) in_X7_roomShare_7 lk_X7_roomShare_10 rfl dX7_roomShare_16 ?_
  refine j_getN5 C 2 rfl 0 (by decide) in_X7_roomShare_5 nw_X7_137 rfl dX7_roomShare_19 ?_
  refine j_imul C dX7_roomShare_22 ?_
  refine j_iadd C dX7_roomShare_23 ?_
  refine j_imul C dX7_roomShare_24 ?_
  refine j_istore_n (lv' := [(1, .int (vD * (1 + (vD * vD)))), (0, .ref h7)]) C dX7_roomShare_25 rfl (by decide) rfl ?_
  refine j_iload_n C dX7_roomShare_26 rfl 0 rfl ?_
  refine j_if_le C (tgt := 48) dX7_roomShare_27 (by decide) (fun e27 => ?_) (fun e27 => ?_)
  · have hf := (if_pos e27).symm.trans hf
    refine j_dconst0 C dX7_roomShare_48 ?_
    obtain rfl := Option.some.inj hf
    exact j_dret C hQ rfl dX7_roomShare_49 (Nat.zero_le _) (Nat.zero_le _) ⟨rfl, rfl⟩
  · have hf := (if_neg e27).symm.trans hf
    refine j_aload_n C dX7_roomShare_30 rfl 1 rfl ?_
    refine j_aload_n C dX7_roomShare_31 rfl 1 rfl ?_
    refine j_get7 C 0 rfl 0 (by decide) in_X7_roomShare_7 lk_X7_roomShare_10 rfl dX7_roomShare_32 ?_
    refine j_getN5 C 2 rfl 1 (by decide) in_X7_roomShare_5 nw_X7_155 rfl dX7_roomShare_35 ?_
    obtain ⟨r38, hc38, hf⟩ := Option.bind_eq_some_iff.mp hf
    refine j_cV C (b_X7_roomBy X.1 hl h7 h5 h2 h6 h4 h0 h3 h1 qb qn qm a1 a2 a3 a4 vD vA vL vN vM lD lS lF lG lR nB vA r38 hc38) k_X7_roomBy gX7_roomShare_X7_roomBy rfl (ci := 7) (q0 := 0) rfl rfl (As := [.int vA]) (rest := []) (st' := [.int r38.1]) (ws' := [(h7, .inr (7, [.ref h5, .ref h2, .ref h6, .ref h4, .ref h0, .ref h3, .ref h1, .ref qb])), (qb, .inl (gI X.1, 512, .inl nB)), (h5, .inr (5, [.int vD, .int vA, .int vL, .ref qn, .ref qm])), (qn, .inl (gI X.1, 512, .inl vN)), (qm, .inl (gI X.1, 512, .inl vM)), (h4, .inr (4, [.int r38.2.1, .ref a1, .ref a2, .ref a3, .ref a4])), (a1, .inl (gI X.1, 8, .inl r38.2.2.1)), (a2, .inl (gI X.1, 8, .inl r38.2.2.2.1)), (a3, .inl (gI X.1, 8, .inl r38.2.2.2.2.1)), (a4, .inl (gI X.1, 8, .inl r38.2.2.2.2.2))]) rfl rfl dX7_roomShare_38 [0, 1, 2, 3, 4, 5, 6, 7, 8, 9] [] [0, 1, 2, 3, 4, 5, 6, 7, 8, 9] rfl rfl rfl rfl rfl rfl ?_
    refine j_i2d C dX7_roomShare_41 ?_
    refine j_iload_n C dX7_roomShare_42 rfl 0 rfl ?_
    refine j_i2d C dX7_roomShare_43 ?_
    obtain ⟨z44, hf⟩ := dz_nn_some hf
    refine j_ddiv C dX7_roomShare_44 z44 ?_
    refine j_goto C (tgt := 49) dX7_roomShare_45 (by decide) ?_
    obtain rfl := Option.some.inj hf
    exact j_dret C hQ rfl dX7_roomShare_49 (Nat.zero_le _) (Nat.zero_le _) ⟨rfl, rfl⟩

theorem lk_X7_withSlices_33 : Cond.fieldLink RX7 33 (TX7 3).1 (TX7 3).2.1 (TX7 3).2.2.1 ∈ wsX7_withSlices := by decide +kernel
theorem in_X7_withSlices_7 : ∀ w ∈ wsX70, w ∈ wsX7_withSlices := by decide +kernel
theorem lk_X7_withSlices_10 : Cond.fieldLink RX7 10 (TX7 0).1 (TX7 0).2.1 (TX7 0).2.2.1 ∈ wsX7_withSlices := by decide +kernel
theorem in_X7_withSlices_5 : ∀ w ∈ wsX50, w ∈ wsX7_withSlices := by decide +kernel
def f_X7_withSlices_L42 (vL : Int32) (r21 : Int32 × (Nat → Int32) × (Nat → Int32) × (Nat → Int32) × (Nat → Int32)) (x27_6 : Int32) (x42_3 : Int64) (x42_7 : Int32) : Option ((Int64 × Int32) ⊕ ((Int64 × Int32) ⊕ ((Int64 × Int32 × Int32 × (Nat → Int32) × (Nat → Int32) × (Nat → Int32) × (Nat → Int32)) ⊕ (Int64 × Int32 × (Nat → Int32) × (Nat → Int32) × (Nat → Int32) × (Nat → Int32))))) :=
  if 4 < x42_7 then some (.inr (.inl (x42_3, (x27_6 + 1)))) else some (.inl ((f_X7_mixed x42_3 (Int32.toInt64 (f_X4_told x27_6 x42_7 vL r21.1 r21.2.1 r21.2.2.1 r21.2.2.2.1 r21.2.2.2.2))), (x42_7 + 1)))
def f_X7_withSlices_L27 (vD : Int32) (vL : Int32) (r21 : Int32 × (Nat → Int32) × (Nat → Int32) × (Nat → Int32) × (Nat → Int32)) (x5_5 : Int32) (x27_3 : Int64) (x27_6 : Int32) : Option ((Int64 × Int32) ⊕ ((Int64 × Int32 × Int32 × (Nat → Int32) × (Nat → Int32) × (Nat → Int32) × (Nat → Int32)) ⊕ (Int64 × Int32 × (Nat → Int32) × (Nat → Int32) × (Nat → Int32) × (Nat → Int32)))) :=
  if vD ≤ x27_6 then some (.inr (.inl (x27_3, (x5_5 + 1), r21.1, r21.2.1, r21.2.2.1, r21.2.2.2.1, r21.2.2.2.2))) else dz_it (fun s : Int64 × Int32 => f_X7_withSlices_L42 vL r21 x27_6 s.1 s.2) (x27_3, 0)
def f_X7_withSlices_L5 (vD : Int32) (vL : Int32) (vN : (Nat → Int32)) (x5_3 : Int64) (x5_5 : Int32) (lD_5 : Int32) (lS_5 : (Nat → Int32)) (lF_5 : (Nat → Int32)) (lG_5 : (Nat → Int32)) (lR_5 : (Nat → Int32)) : Option ((Int64 × Int32 × Int32 × (Nat → Int32) × (Nat → Int32) × (Nat → Int32) × (Nat → Int32)) ⊕ (Int64 × Int32 × (Nat → Int32) × (Nat → Int32) × (Nat → Int32) × (Nat → Int32))) :=
  if 3 ≤ x5_5 then some (.inr ((x5_3, lD_5, lS_5, lF_5, lG_5, lR_5))) else Option.bind (f_X4_look x5_5 vD vN lD_5 lS_5 lF_5 lG_5 lR_5) (fun r21 => dz_it (fun s : Int64 × Int32 => f_X7_withSlices_L27 vD vL r21 x5_5 s.1 s.2) (x5_3, 0))
def f_X7_withSlices (p1 : Int64) (vD : Int32) (vL : Int32) (vN : (Nat → Int32)) (lD : Int32) (lS : (Nat → Int32)) (lF : (Nat → Int32)) (lG : (Nat → Int32)) (lR : (Nat → Int32)) : Option (Int64 × Int32 × (Nat → Int32) × (Nat → Int32) × (Nat → Int32) × (Nat → Int32)) :=
  dz_it (fun s : Int64 × Int32 × Int32 × (Nat → Int32) × (Nat → Int32) × (Nat → Int32) × (Nat → Int32) => f_X7_withSlices_L5 vD vL vN s.1 s.2.1 s.2.2.1 s.2.2.2.1 s.2.2.2.2.1 s.2.2.2.2.2.1 s.2.2.2.2.2.2) (p1, 0, lD, lS, lF, lG, lR)
abbrev rm_X7_withSlices : Room := { frames := 5, cells := 0, slots := 0, locals := 116 }
theorem k_X7_withSlices : Cf yX7_withSlices wsX7_withSlices rm_X7_withSlices cX7_withSlices 8 (some .long) 1 := ⟨⟨_, rfl⟩, by decide +kernel, by decide +kernel, by decide +kernel⟩
set_option maxRecDepth 100000 in
set_option maxHeartbeats 4000000 in
theorem b_X7_withSlices (G : CG) (hl : (gL G).stackTraces = false) (h7 : Nat) (h5 : Nat) (h2 : Nat) (h6 : Nat) (h4 : Nat) (h0 : Nat) (h3 : Nat) (h1 : Nat) (qb : Nat) (qn : Nat) (qm : Nat) (a1 : Nat) (a2 : Nat) (a3 : Nat) (a4 : Nat) (vD : Int32) (vA : Int32) (vL : Int32) (vN : (Nat → Int32)) (vM : (Nat → Int32)) (lD : Int32) (lS : (Nat → Int32)) (lF : (Nat → Int32)) (lG : (Nat → Int32)) (lR : (Nat → Int32)) (nB : (Nat → Int32)) (p1 : Int64) (y : Int64 × Int32 × (Nat → Int32) × (Nat → Int32) × (Nat → Int32) × (Nat → Int32)) (hf : f_X7_withSlices p1 vD vL vN lD lS lF lG lR = some y) : Ct G yX7_withSlices wsX7_withSlices rm_X7_withSlices [.ref h7, .long p1] [(h7, .inr (7, [.ref h5, .ref h2, .ref h6, .ref h4, .ref h0, .ref h3, .ref h1, .ref qb])), (qb, .inl (gI G, 512, .inl nB)), (h5, .inr (5, [.int vD, .int vA, .int vL, .ref qn, .ref qm])), (qn, .inl (gI G, 512, .inl vN)), (qm, .inl (gI G, 512, .inl vM)), (h4, .inr (4, [.int lD, .ref a1, .ref a2, .ref a3, .ref a4])), (a1, .inl (gI G, 8, .inl lS)), (a2, .inl (gI G, 8, .inl lF)), (a3, .inl (gI G, 8, .inl lG)), (a4, .inl (gI G, 8, .inl lR))] (fin1 (some (.long y.1)) [(h7, .inr (7, [.ref h5, .ref h2, .ref h6, .ref h4, .ref h0, .ref h3, .ref h1, .ref qb])), (qb, .inl (gI G, 512, .inl nB)), (h5, .inr (5, [.int vD, .int vA, .int vL, .ref qn, .ref qm])), (qn, .inl (gI G, 512, .inl vN)), (qm, .inl (gI G, 512, .inl vM)), (h4, .inr (4, [.int y.2.1, .ref a1, .ref a2, .ref a3, .ref a4])), (a1, .inl (gI G, 8, .inl y.2.2.1)), (a2, .inl (gI G, 8, .inl y.2.2.2.1)), (a3, .inl (gI G, 8, .inl y.2.2.2.2.1)), (a4, .inl (gI G, 8, .inl y.2.2.2.2.2))]) 0 0 := by
  refine Ct.of (cc := cX7_withSlices) (N := 8) (ret := (some .long)) RX7 (by decide) rfl rfl hl (Nat.le_of_ble_eq_true rfl) (lv := [(0, .ref h7), (1, .long p1)]) rfl (fun X hXG C hex hnm hQ => ?_)
  subst hXG
  unfold f_X7_withSlices at hf
  refine j_lload_n C dX7_withSlices_0 rfl 1 rfl ?_
  refine j_lstore_n (lv' := [(3, .long p1), (0, .ref h7), (1, .long p1)]) C dX7_withSlices_1 rfl (by decide) rfl ?_
  refine j_iconst C (v := 0) dX7_withSlices_2 (by decide) ?_
  refine j_istore (lv' := [(5, .int 0), (3, .long p1), (0, .ref h7), (1, .long p1)]) C dX7_withSlices_3 (by decide) rfl ?_
  have kk5 : ∀ (n : Nat) (x5_3 : Int64) (x5_5 : Int32) (lD_5 : Int32) (lS_5 : (Nat → Int32)) (lF_5 : (Nat → Int32)) (lG_5 : (Nat → Int32)) (lR_5 : (Nat → Int32)), dz_iter n (fun s : Int64 × Int32 × Int32 × (Nat → Int32) × (Nat → Int32) × (Nat → Int32) × (Nat → Int32) => f_X7_withSlices_L5 vD vL vN s.1 s.2.1 s.2.2.1 s.2.2.2.1 s.2.2.2.2.1 s.2.2.2.2.2.1 s.2.2.2.2.2.2) (x5_3, x5_5, lD_5, lS_5, lF_5, lG_5, lR_5) = some y → Jt X [(h7, .inr (7, [.ref h5, .ref h2, .ref h6, .ref h4, .ref h0, .ref h3, .ref h1, .ref qb])), (qb, .inl (gI X.1, 512, .inl nB)), (h5, .inr (5, [.int vD, .int vA, .int vL, .ref qn, .ref qm])), (qn, .inl (gI X.1, 512, .inl vN)), (qm, .inl (gI X.1, 512, .inl vM)), (h4, .inr (4, [.int lD_5, .ref a1, .ref a2, .ref a3, .ref a4])), (a1, .inl (gI X.1, 8, .inl lS_5)), (a2, .inl (gI X.1, 8, .inl lF_5)), (a3, .inl (gI X.1, 8, .inl lG_5)), (a4, .inl (gI X.1, 8, .inl lR_5))] 0 0 5 [(0, .ref h7), (1, .long p1), (3, .long x5_3), (5, .int x5_5)] [] := by
    intro n
    induction n with
    | zero => intro x5_3 x5_5 lD_5 lS_5 lF_5 lG_5 lR_5 hit; exact absurd hit (by simp [dz_iter])
    | succ n ih5 =>
      intro x5_3 x5_5 lD_5 lS_5 lF_5 lG_5 lR_5 hit
      obtain ⟨y5, hf, hg5⟩ := dz_iter_succ hit
      replace hf : f_X7_withSlices_L5 vD vL vN x5_3 x5_5 lD_5 lS_5 lF_5 lG_5 lR_5 = some y5 := hf
      unfold f_X7_withSlices_L5 at hf
      refine j_iload C dX7_withSlices_5 3 rfl ?_
      refine j_iconst C (v := 3) dX7_withSlices_7 (by decide) ?_
      refine j_icmp_ge C (tgt := 90) dX7_withSlices_8 (by decide) (fun e8 => ?_) (fun e8 => ?_)
      · have hf := (if_pos e8).symm.trans hf
        refine j_lload_n C dX7_withSlices_90 rfl 2 rfl ?_
        obtain rfl := Option.some.inj hf
        obtain rfl := dz_go_inr hg5
        exact j_lret C hQ rfl dX7_withSlices_91 (Nat.zero_le _) (Nat.zero_le _) ⟨rfl, rfl⟩
      · have hf := (if_neg e8).symm.trans hf
        refine j_aload_n C dX7_withSlices_11 rfl 0 rfl ?_
        refine j_get7 C 0 rfl 3 (by decide) in_X7_withSlices_7 lk_X7_withSlices_33 rfl dX7_withSlices_12 ?_
        refine j_aload_n C dX7_withSlices_15 rfl 0 rfl ?_
        refine j_get7 C 0 rfl 0 (by decide) in_X7_withSlices_7 lk_X7_withSlices_10 rfl dX7_withSlices_16 ?_
        refine j_iload C dX7_withSlices_19 3 rfl ?_
        obtain ⟨r21, hc21, hf⟩ := Option.bind_eq_some_iff.mp hf
        refine j_cV C (b_X4_look X.1 hl h4 a1 a2 a3 a4 h5 qn qm vD vA vL vN vM lD_5 lS_5 lF_5 lG_5 lR_5 x5_5 r21 hc21) k_X4_look gX7_withSlices_X4_look rfl (ci := 4) (q0 := 0) rfl rfl (As := [.ref h5, .int x5_5]) (rest := []) (st' := []) (ws' := [(h7, .inr (7, [.ref h5, .ref h2, .ref h6, .ref h4, .ref h0, .ref h3, .ref h1, .ref qb])), (qb, .inl (gI X.1, 512, .inl nB)), (h5, .inr (5, [.int vD, .int vA, .int vL, .ref qn, .ref qm])), (qn, .inl (gI X.1, 512, .inl vN)), (qm, .inl (gI X.1, 512, .inl vM)), (h4, .inr (4, [.int r21.1, .ref a1, .ref a2, .ref a3, .ref a4])), (a1, .inl (gI X.1, 8, .inl r21.2.1)), (a2, .inl (gI X.1, 8, .inl r21.2.2.1)), (a3, .inl (gI X.1, 8, .inl r21.2.2.2.1)), (a4, .inl (gI X.1, 8, .inl r21.2.2.2.2))]) rfl rfl dX7_withSlices_21 [5, 6, 7, 8, 9, 2, 3, 4] [0, 1] [0, 1, 7, 8, 9, 2, 3, 4, 5, 6] rfl rfl rfl rfl rfl rfl ?_
        refine j_iconst C (v := 0) dX7_withSlices_24 (by decide) ?_
        refine j_istore (lv' := [(6, .int 0), (0, .ref h7), (1, .long p1), (3, .long x5_3), (5, .int x5_5)]) C dX7_withSlices_25 (by decide) rfl ?_
        have kk27 : ∀ (n : Nat) (x27_3 : Int64) (x27_6 : Int32), dz_iter n (fun s : Int64 × Int32 => f_X7_withSlices_L27 vD vL r21 x5_5 s.1 s.2) (x27_3, x27_6) = some y5 → Jt X [(h7, .inr (7, [.ref h5, .ref h2, .ref h6, .ref h4, .ref h0, .ref h3, .ref h1, .ref qb])), (qb, .inl (gI X.1, 512, .inl nB)), (h5, .inr (5, [.int vD, .int vA, .int vL, .ref qn, .ref qm])), (qn, .inl (gI X.1, 512, .inl vN)), (qm, .inl (gI X.1, 512, .inl vM)), (h4, .inr (4, [.int r21.1, .ref a1, .ref a2, .ref a3, .ref a4])), (a1, .inl (gI X.1, 8, .inl r21.2.1)), (a2, .inl (gI X.1, 8, .inl r21.2.2.1)), (a3, .inl (gI X.1, 8, .inl r21.2.2.2.1)), (a4, .inl (gI X.1, 8, .inl r21.2.2.2.2))] 0 0 27 [(0, .ref h7), (1, .long p1), (3, .long x27_3), (5, .int x5_5), (6, .int x27_6)] [] := by
          intro n
          induction n with
          | zero => intro x27_3 x27_6 hit; exact absurd hit (by simp [dz_iter])
          | succ n ih27 =>
            intro x27_3 x27_6 hit
            obtain ⟨y27, hf, hg27⟩ := dz_iter_succ hit
            replace hf : f_X7_withSlices_L27 vD vL r21 x5_5 x27_3 x27_6 = some y27 := hf
            unfold f_X7_withSlices_L27 at hf
            refine j_iload C dX7_withSlices_27 4 rfl ?_
            refine j_aload_n C dX7_withSlices_29 rfl 0 rfl ?_
            refine j_get7 C 0 rfl 0 (by decide) in_X7_withSlices_7 lk_X7_withSlices_10 rfl dX7_withSlices_30 ?_
            refine j_getN5 C 2 rfl 0 (by decide) in_X7_withSlices_5 nw_X7_137 rfl dX7_withSlices_33 ?_
            refine j_icmp_ge C (tgt := 84) dX7_withSlices_36 (by decide) (fun e36 => ?_) (fun e36 => ?_)
            · have hf := (if_pos e36).symm.trans hf
              refine j_iinc (v := (x5_5 + 1)) (lv' := [(5, .int (x5_5 + 1)), (0, .ref h7), (1, .long p1), (3, .long x27_3), (6, .int x27_6)]) C dX7_withSlices_84 3 rfl (by first | rfl | decide) (by decide) rfl ?_
              refine j_goto C (tgt := 5) dX7_withSlices_87 (by decide) ?_
              obtain rfl := Option.some.inj hf
              obtain rfl := dz_go_inr hg27
              have hf := dz_go_inl hg5
              refine j_loc [1, 2, 3, 0] rfl ?_
              exact ih5 x27_3 (x5_5 + 1) r21.1 r21.2.1 r21.2.2.1 r21.2.2.2.1 r21.2.2.2.2 hf
            · have hf := (if_neg e36).symm.trans hf
              refine j_iconst C (v := 0) dX7_withSlices_39 (by decide) ?_
              refine j_istore (lv' := [(7, .int 0), (0, .ref h7), (1, .long p1), (3, .long x27_3), (5, .int x5_5), (6, .int x27_6)]) C dX7_withSlices_40 (by decide) rfl ?_
              have kk42 : ∀ (n : Nat) (x42_3 : Int64) (x42_7 : Int32), dz_iter n (fun s : Int64 × Int32 => f_X7_withSlices_L42 vL r21 x27_6 s.1 s.2) (x42_3, x42_7) = some y27 → Jt X [(h7, .inr (7, [.ref h5, .ref h2, .ref h6, .ref h4, .ref h0, .ref h3, .ref h1, .ref qb])), (qb, .inl (gI X.1, 512, .inl nB)), (h5, .inr (5, [.int vD, .int vA, .int vL, .ref qn, .ref qm])), (qn, .inl (gI X.1, 512, .inl vN)), (qm, .inl (gI X.1, 512, .inl vM)), (h4, .inr (4, [.int r21.1, .ref a1, .ref a2, .ref a3, .ref a4])), (a1, .inl (gI X.1, 8, .inl r21.2.1)), (a2, .inl (gI X.1, 8, .inl r21.2.2.1)), (a3, .inl (gI X.1, 8, .inl r21.2.2.2.1)), (a4, .inl (gI X.1, 8, .inl r21.2.2.2.2))] 0 0 42 [(0, .ref h7), (1, .long p1), (3, .long x42_3), (5, .int x5_5), (6, .int x27_6), (7, .int x42_7)] [] := by
                intro n
                induction n with
                | zero => intro x42_3 x42_7 hit; exact absurd hit (by simp [dz_iter])
                | succ n ih42 =>
                  intro x42_3 x42_7 hit
                  obtain ⟨y42, hf, hg42⟩ := dz_iter_succ hit
                  replace hf : f_X7_withSlices_L42 vL r21 x27_6 x42_3 x42_7 = some y42 := hf
                  unfold f_X7_withSlices_L42 at hf
                  refine j_iload C dX7_withSlices_42 5 rfl ?_
                  refine j_iconst C (v := 4) dX7_withSlices_44 (by decide) ?_
                  refine j_icmp_gt C (tgt := 78) dX7_withSlices_45 (by decide) (fun e45 => ?_) (fun e45 => ?_)
                  · have hf := (if_pos e45).symm.trans hf
                    refine j_iinc (v := (x27_6 + 1)) (lv' := [(6, .int (x27_6 + 1)), (0, .ref h7), (1, .long p1), (3, .long x42_3), (5, .int x5_5), (7, .int x42_7)]) C dX7_withSlices_78 4 rfl (by first | rfl | decide) (by decide) rfl ?_
                    refine j_goto C (tgt := 27) dX7_withSlices_81 (by decide) ?_
                    obtain rfl := Option.some.inj hf
                    obtain rfl := dz_go_inr hg42
                    have hf := dz_go_inl hg27
                    refine j_loc [1, 2, 3, 4, 0] rfl ?_
                    exact ih27 x42_3 (x27_6 + 1) hf
                  · have hf := (if_neg e45).symm.trans hf
                    refine j_lload_n C dX7_withSlices_48 rfl 2 rfl ?_
                    refine j_aload_n C dX7_withSlices_49 rfl 0 rfl ?_
                    refine j_get7 C 0 rfl 3 (by decide) in_X7_withSlices_7 lk_X7_withSlices_33 rfl dX7_withSlices_50 ?_
                    refine j_iload C dX7_withSlices_53 4 rfl ?_
                    refine j_iload C dX7_withSlices_55 5 rfl ?_
                    refine j_aload_n C dX7_withSlices_57 rfl 0 rfl ?_
                    refine j_get7 C 0 rfl 0 (by decide) in_X7_withSlices_7 lk_X7_withSlices_10 rfl dX7_withSlices_58 ?_
                    refine j_getN5 C 2 rfl 2 (by decide) in_X7_withSlices_5 nw_X7_171 rfl dX7_withSlices_61 ?_
                    refine j_cV C (c_X4_told X.1 hl h4 a1 a2 a3 a4 r21.1 r21.2.1 r21.2.2.1 r21.2.2.2.1 r21.2.2.2.2 x27_6 x42_7 vL) k_X4_told gX7_withSlices_X4_told rfl (ci := 4) (q0 := 0) rfl rfl (As := [.int x27_6, .int x42_7, .int vL]) (rest := [.long x42_3]) (st' := [.int (f_X4_told x27_6 x42_7 vL r21.1 r21.2.1 r21.2.2.1 r21.2.2.2.1 r21.2.2.2.2), .long x42_3]) (ws' := [(h7, .inr (7, [.ref h5, .ref h2, .ref h6, .ref h4, .ref h0, .ref h3, .ref h1, .ref qb])), (qb, .inl (gI X.1, 512, .inl nB)), (h5, .inr (5, [.int vD, .int vA, .int vL, .ref qn, .ref qm])), (qn, .inl (gI X.1, 512, .inl vN)), (qm, .inl (gI X.1, 512, .inl vM)), (h4, .inr (4, [.int r21.1, .ref a1, .ref a2, .ref a3, .ref a4])), (a1, .inl (gI X.1, 8, .inl r21.2.1)), (a2, .inl (gI X.1, 8, .inl r21.2.2.1)), (a3, .inl (gI X.1, 8, .inl r21.2.2.2.1)), (a4, .inl (gI X.1, 8, .inl r21.2.2.2.2))]) rfl rfl dX7_withSlices_64 [5, 6, 7, 8, 9] [0, 1, 2, 3, 4] [0, 1, 2, 3, 4, 5, 6, 7, 8, 9] rfl rfl rfl rfl rfl rfl ?_
                    refine j_i2l C dX7_withSlices_67 ?_
                    refine j_cS C (c_X7_mixed X.1 hl x42_3 (Int32.toInt64 (f_X4_told x27_6 x42_7 vL r21.1 r21.2.1 r21.2.2.1 r21.2.2.2.1 r21.2.2.2.2))) k_X7_mixed gX7_withSlices_X7_mixed (As := [.long x42_3, .long (Int32.toInt64 (f_X4_told x27_6 x42_7 vL r21.1 r21.2.1 r21.2.2.1 r21.2.2.2.1 r21.2.2.2.2))]) (rest := []) (st' := [.long (f_X7_mixed x42_3 (Int32.toInt64 (f_X4_told x27_6 x42_7 vL r21.1 r21.2.1 r21.2.2.1 r21.2.2.2.1 r21.2.2.2.2)))]) (ws' := [(h7, .inr (7, [.ref h5, .ref h2, .ref h6, .ref h4, .ref h0, .ref h3, .ref h1, .ref qb])), (qb, .inl (gI X.1, 512, .inl nB)), (h5, .inr (5, [.int vD, .int vA, .int vL, .ref qn, .ref qm])), (qn, .inl (gI X.1, 512, .inl vN)), (qm, .inl (gI X.1, 512, .inl vM)), (h4, .inr (4, [.int r21.1, .ref a1, .ref a2, .ref a3, .ref a4])), (a1, .inl (gI X.1, 8, .inl r21.2.1)), (a2, .inl (gI X.1, 8, .inl r21.2.2.1)), (a3, .inl (gI X.1, 8, .inl r21.2.2.2.1)), (a4, .inl (gI X.1, 8, .inl r21.2.2.2.2))]) rfl rfl dX7_withSlices_68 [] [0, 1, 2, 3, 4, 5, 6, 7, 8, 9] [0, 1, 2, 3, 4, 5, 6, 7, 8, 9] rfl rfl rfl rfl rfl rfl ?_
                    refine j_lstore_n (lv' := [(3, .long (f_X7_mixed x42_3 (Int32.toInt64 (f_X4_told x27_6 x42_7 vL r21.1 r21.2.1 r21.2.2.1 r21.2.2.2.1 r21.2.2.2.2)))), (0, .ref h7), (1, .long p1), (5, .int x5_5), (6, .int x27_6), (7, .int x42_7)]) C dX7_withSlices_71 rfl (by decide) rfl ?_
                    refine j_iinc (v := (x42_7 + 1)) (lv' := [(7, .int (x42_7 + 1)), (3, .long (f_X7_mixed x42_3 (Int32.toInt64 (f_X4_told x27_6 x42_7 vL r21.1 r21.2.1 r21.2.2.1 r21.2.2.2.1 r21.2.2.2.2)))), (0, .ref h7), (1, .long p1), (5, .int x5_5), (6, .int x27_6)]) C dX7_withSlices_72 5 rfl (by first | rfl | decide) (by decide) rfl ?_
                    refine j_goto C (tgt := 42) dX7_withSlices_75 (by decide) ?_
                    obtain rfl := Option.some.inj hf
                    have hf := dz_go_inl hg42
                    refine j_loc [2, 3, 1, 4, 5, 0] rfl ?_
                    exact ih42 (f_X7_mixed x42_3 (Int32.toInt64 (f_X4_told x27_6 x42_7 vL r21.1 r21.2.1 r21.2.2.1 r21.2.2.2.1 r21.2.2.2.2))) (x42_7 + 1) hf
              refine j_loc [1, 2, 3, 4, 5, 0] rfl ?_
              exact kk42 _ x27_3 0 hf
        refine j_loc [1, 2, 3, 4, 0] rfl ?_
        exact kk27 _ x5_3 0 hf
  refine j_loc [2, 3, 1, 0] rfl ?_
  exact kk5 _ p1 0 lD lS lF lG lR hf

theorem lk_X7_withLines_10 : Cond.fieldLink RX7 10 (TX7 0).1 (TX7 0).2.1 (TX7 0).2.2.1 ∈ wsX7_withLines := by decide +kernel
theorem in_X7_withLines_7 : ∀ w ∈ wsX70, w ∈ wsX7_withLines := by decide +kernel
theorem in_X7_withLines_5 : ∀ w ∈ wsX50, w ∈ wsX7_withLines := by decide +kernel
def f_X7_withLines_L29 (vD : Int32) (vN : (Nat → Int32)) (x14_6 : Int32) (x5_5 : Int32) (x29_3 : Int64) (x29_7 : Int32) : Option ((Int64 × Int32) ⊕ ((Int64 × Int32) ⊕ ((Int64 × Int32) ⊕ (Int64)))) :=
  if vD ≤ x29_7 then some (.inr (.inl (x29_3, (x14_6 + 1)))) else Option.bind (f_X5_lineSum x5_5 x14_6 x29_7 vD vN) (fun r52 => some (.inl ((f_X7_mixed x29_3 (Int32.toInt64 r52)), (x29_7 + 1))))
def f_X7_withLines_L14 (vD : Int32) (vN : (Nat → Int32)) (x5_5 : Int32) (x14_3 : Int64) (x14_6 : Int32) : Option ((Int64 × Int32) ⊕ ((Int64 × Int32) ⊕ (Int64))) :=
  if vD ≤ x14_6 then some (.inr (.inl (x14_3, (x5_5 + 1)))) else dz_it (fun s : Int64 × Int32 => f_X7_withLines_L29 vD vN x14_6 x5_5 s.1 s.2) (x14_3, 0)
def f_X7_withLines_L5 (vD : Int32) (vN : (Nat → Int32)) (x5_3 : Int64) (x5_5 : Int32) : Option ((Int64 × Int32) ⊕ (Int64)) :=
  if 3 ≤ x5_5 then some (.inr (x5_3)) else dz_it (fun s : Int64 × Int32 => f_X7_withLines_L14 vD vN x5_5 s.1 s.2) (x5_3, 0)
def f_X7_withLines (p1 : Int64) (vD : Int32) (vN : (Nat → Int32)) : Option (Int64) :=
  dz_it (fun s : Int64 × Int32 => f_X7_withLines_L5 vD vN s.1 s.2) (p1, 0)
abbrev rm_X7_withLines : Room := { frames := 4, cells := 0, slots := 0, locals := 87 }
theorem k_X7_withLines : Cf yX7_withLines wsX7_withLines rm_X7_withLines cX7_withLines 8 (some .long) 1 := ⟨⟨_, rfl⟩, by decide +kernel, by decide +kernel, by decide +kernel⟩
set_option maxRecDepth 100000 in
set_option maxHeartbeats 4000000 in
theorem b_X7_withLines (G : CG) (hl : (gL G).stackTraces = false) (h7 : Nat) (h5 : Nat) (h2 : Nat) (h6 : Nat) (h4 : Nat) (h0 : Nat) (h3 : Nat) (h1 : Nat) (qb : Nat) (qn : Nat) (qm : Nat) (vD : Int32) (vA : Int32) (vL : Int32) (vN : (Nat → Int32)) (vM : (Nat → Int32)) (nB : (Nat → Int32)) (p1 : Int64) (y : Int64) (hf : f_X7_withLines p1 vD vN = some y) : Ct G yX7_withLines wsX7_withLines rm_X7_withLines [.ref h7, .long p1] [(h7, .inr (7, [.ref h5, .ref h2, .ref h6, .ref h4, .ref h0, .ref h3, .ref h1, .ref qb])), (qb, .inl (gI G, 512, .inl nB)), (h5, .inr (5, [.int vD, .int vA, .int vL, .ref qn, .ref qm])), (qn, .inl (gI G, 512, .inl vN)), (qm, .inl (gI G, 512, .inl vM))] (fin1 (some (.long y)) [(h7, .inr (7, [.ref h5, .ref h2, .ref h6, .ref h4, .ref h0, .ref h3, .ref h1, .ref qb])), (qb, .inl (gI G, 512, .inl nB)), (h5, .inr (5, [.int vD, .int vA, .int vL, .ref qn, .ref qm])), (qn, .inl (gI G, 512, .inl vN)), (qm, .inl (gI G, 512, .inl vM))]) 0 0 := by
  refine Ct.of (cc := cX7_withLines) (N := 8) (ret := (some .long)) RX7 (by decide) rfl rfl hl (Nat.le_of_ble_eq_true rfl) (lv := [(0, .ref h7), (1, .long p1)]) rfl (fun X hXG C hex hnm hQ => ?_)
  subst hXG
  unfold f_X7_withLines at hf
  refine j_lload_n C dX7_withLines_0 rfl 1 rfl ?_
  refine j_lstore_n (lv' := [(3, .long p1), (0, .ref h7), (1, .long p1)]) C dX7_withLines_1 rfl (by decide) rfl ?_
  refine j_iconst C (v := 0) dX7_withLines_2 (by decide) ?_
  refine j_istore (lv' := [(5, .int 0), (3, .long p1), (0, .ref h7), (1, .long p1)]) C dX7_withLines_3 (by decide) rfl ?_
  have kk5 : ∀ (n : Nat) (x5_3 : Int64) (x5_5 : Int32), dz_iter n (fun s : Int64 × Int32 => f_X7_withLines_L5 vD vN s.1 s.2) (x5_3, x5_5) = some y → Jt X [(h7, .inr (7, [.ref h5, .ref h2, .ref h6, .ref h4, .ref h0, .ref h3, .ref h1, .ref qb])), (qb, .inl (gI X.1, 512, .inl nB)), (h5, .inr (5, [.int vD, .int vA, .int vL, .ref qn, .ref qm])), (qn, .inl (gI X.1, 512, .inl vN)), (qm, .inl (gI X.1, 512, .inl vM))] 0 0 5 [(0, .ref h7), (1, .long p1), (3, .long x5_3), (5, .int x5_5)] [] := by
    intro n
    induction n with
    | zero => intro x5_3 x5_5 hit; exact absurd hit (by simp [dz_iter])
    | succ n ih5 =>
      intro x5_3 x5_5 hit
      obtain ⟨y5, hf, hg5⟩ := dz_iter_succ hit
      replace hf : f_X7_withLines_L5 vD vN x5_3 x5_5 = some y5 := hf
      unfold f_X7_withLines_L5 at hf
      refine j_iload C dX7_withLines_5 3 rfl ?_
      refine j_iconst C (v := 3) dX7_withLines_7 (by decide) ?_
      refine j_icmp_ge C (tgt := 78) dX7_withLines_8 (by decide) (fun e8 => ?_) (fun e8 => ?_)
      · have hf := (if_pos e8).symm.trans hf
        refine j_lload_n C dX7_withLines_78 rfl 2 rfl ?_
        obtain rfl := Option.some.inj hf
        obtain rfl := dz_go_inr hg5
        exact j_lret C hQ rfl dX7_withLines_79 (Nat.zero_le _) (Nat.zero_le _) ⟨rfl, rfl⟩
      · have hf := (if_neg e8).symm.trans hf
        refine j_iconst C (v := 0) dX7_withLines_11 (by decide) ?_
        refine j_istore (lv' := [(6, .int 0), (0, .ref h7), (1, .long p1), (3, .long x5_3), (5, .int x5_5)]) C dX7_withLines_12 (by decide) rfl ?_
        have kk14 : ∀ (n : Nat) (x14_3 : Int64) (x14_6 : Int32), dz_iter n (fun s : Int64 × Int32 => f_X7_withLines_L14 vD vN x5_5 s.1 s.2) (x14_3, x14_6) = some y5 → Jt X [(h7, .inr (7, [.ref h5, .ref h2, .ref h6, .ref h4, .ref h0, .ref h3, .ref h1, .ref qb])), (qb, .inl (gI X.1, 512, .inl nB)), (h5, .inr (5, [.int vD, .int vA, .int vL, .ref qn, .ref qm])), (qn, .inl (gI X.1, 512, .inl vN)), (qm, .inl (gI X.1, 512, .inl vM))] 0 0 14 [(0, .ref h7), (1, .long p1), (3, .long x14_3), (5, .int x5_5), (6, .int x14_6)] [] := by
          intro n
          induction n with
          | zero => intro x14_3 x14_6 hit; exact absurd hit (by simp [dz_iter])
          | succ n ih14 =>
            intro x14_3 x14_6 hit
            obtain ⟨y14, hf, hg14⟩ := dz_iter_succ hit
            replace hf : f_X7_withLines_L14 vD vN x5_5 x14_3 x14_6 = some y14 := hf
            unfold f_X7_withLines_L14 at hf
            refine j_iload C dX7_withLines_14 4 rfl ?_
            refine j_aload_n C dX7_withLines_16 rfl 0 rfl ?_
            refine j_get7 C 0 rfl 0 (by decide) in_X7_withLines_7 lk_X7_withLines_10 rfl dX7_withLines_17 ?_
            refine j_getN5 C 2 rfl 0 (by decide) in_X7_withLines_5 nw_X7_137 rfl dX7_withLines_20 ?_
            refine j_icmp_ge C (tgt := 72) dX7_withLines_23 (by decide) (fun e23 => ?_) (fun e23 => ?_)
            · have hf := (if_pos e23).symm.trans hf
              refine j_iinc (v := (x5_5 + 1)) (lv' := [(5, .int (x5_5 + 1)), (0, .ref h7), (1, .long p1), (3, .long x14_3), (6, .int x14_6)]) C dX7_withLines_72 3 rfl (by first | rfl | decide) (by decide) rfl ?_
              refine j_goto C (tgt := 5) dX7_withLines_75 (by decide) ?_
              obtain rfl := Option.some.inj hf
              obtain rfl := dz_go_inr hg14
              have hf := dz_go_inl hg5
              refine j_loc [1, 2, 3, 0] rfl ?_
              exact ih5 x14_3 (x5_5 + 1) hf
            · have hf := (if_neg e23).symm.trans hf
              refine j_iconst C (v := 0) dX7_withLines_26 (by decide) ?_
              refine j_istore (lv' := [(7, .int 0), (0, .ref h7), (1, .long p1), (3, .long x14_3), (5, .int x5_5), (6, .int x14_6)]) C dX7_withLines_27 (by decide) rfl ?_
              have kk29 : ∀ (n : Nat) (x29_3 : Int64) (x29_7 : Int32), dz_iter n (fun s : Int64 × Int32 => f_X7_withLines_L29 vD vN x14_6 x5_5 s.1 s.2) (x29_3, x29_7) = some y14 → Jt X [(h7, .inr (7, [.ref h5, .ref h2, .ref h6, .ref h4, .ref h0, .ref h3, .ref h1, .ref qb])), (qb, .inl (gI X.1, 512, .inl nB)), (h5, .inr (5, [.int vD, .int vA, .int vL, .ref qn, .ref qm])), (qn, .inl (gI X.1, 512, .inl vN)), (qm, .inl (gI X.1, 512, .inl vM))] 0 0 29 [(0, .ref h7), (1, .long p1), (3, .long x29_3), (5, .int x5_5), (6, .int x14_6), (7, .int x29_7)] [] := by
                intro n
                induction n with
                | zero => intro x29_3 x29_7 hit; exact absurd hit (by simp [dz_iter])
                | succ n ih29 =>
                  intro x29_3 x29_7 hit
                  obtain ⟨y29, hf, hg29⟩ := dz_iter_succ hit
                  replace hf : f_X7_withLines_L29 vD vN x14_6 x5_5 x29_3 x29_7 = some y29 := hf
                  unfold f_X7_withLines_L29 at hf
                  refine j_iload C dX7_withLines_29 5 rfl ?_
                  refine j_aload_n C dX7_withLines_31 rfl 0 rfl ?_
                  refine j_get7 C 0 rfl 0 (by decide) in_X7_withLines_7 lk_X7_withLines_10 rfl dX7_withLines_32 ?_
                  refine j_getN5 C 2 rfl 0 (by decide) in_X7_withLines_5 nw_X7_137 rfl dX7_withLines_35 ?_
                  refine j_icmp_ge C (tgt := 66) dX7_withLines_38 (by decide) (fun e38 => ?_) (fun e38 => ?_)
                  · have hf := (if_pos e38).symm.trans hf
                    refine j_iinc (v := (x14_6 + 1)) (lv' := [(6, .int (x14_6 + 1)), (0, .ref h7), (1, .long p1), (3, .long x29_3), (5, .int x5_5), (7, .int x29_7)]) C dX7_withLines_66 4 rfl (by first | rfl | decide) (by decide) rfl ?_
                    refine j_goto C (tgt := 14) dX7_withLines_69 (by decide) ?_
                    obtain rfl := Option.some.inj hf
                    obtain rfl := dz_go_inr hg29
                    have hf := dz_go_inl hg14
                    refine j_loc [1, 2, 3, 4, 0] rfl ?_
                    exact ih14 x29_3 (x14_6 + 1) hf
                  · have hf := (if_neg e38).symm.trans hf
                    refine j_lload_n C dX7_withLines_41 rfl 2 rfl ?_
                    refine j_aload_n C dX7_withLines_42 rfl 0 rfl ?_
                    refine j_get7 C 0 rfl 0 (by decide) in_X7_withLines_7 lk_X7_withLines_10 rfl dX7_withLines_43 ?_
                    refine j_iload C dX7_withLines_46 3 rfl ?_
                    refine j_iload C dX7_withLines_48 4 rfl ?_
                    refine j_iload C dX7_withLines_50 5 rfl ?_
                    obtain ⟨r52, hc52, hf⟩ := Option.bind_eq_some_iff.mp hf
                    refine j_cV C (b_X5_lineSum X.1 hl h5 qn qm vD vA vL vN vM x5_5 x14_6 x29_7 r52 hc52) k_X5_lineSum gX7_withLines_X5_lineSum rfl (ci := 5) (q0 := 0) rfl rfl (As := [.int x5_5, .int x14_6, .int x29_7]) (rest := [.long x29_3]) (st' := [.int r52, .long x29_3]) (ws' := [(h7, .inr (7, [.ref h5, .ref h2, .ref h6, .ref h4, .ref h0, .ref h3, .ref h1, .ref qb])), (qb, .inl (gI X.1, 512, .inl nB)), (h5, .inr (5, [.int vD, .int vA, .int vL, .ref qn, .ref qm])), (qn, .inl (gI X.1, 512, .inl vN)), (qm, .inl (gI X.1, 512, .inl vM))]) rfl rfl dX7_withLines_52 [2, 3, 4] [0, 1] [0, 1, 2, 3, 4] rfl rfl rfl rfl rfl rfl ?_
                    refine j_i2l C dX7_withLines_55 ?_
                    refine j_cS C (c_X7_mixed X.1 hl x29_3 (Int32.toInt64 r52)) k_X7_mixed gX7_withLines_X7_mixed (As := [.long x29_3, .long (Int32.toInt64 r52)]) (rest := []) (st' := [.long (f_X7_mixed x29_3 (Int32.toInt64 r52))]) (ws' := [(h7, .inr (7, [.ref h5, .ref h2, .ref h6, .ref h4, .ref h0, .ref h3, .ref h1, .ref qb])), (qb, .inl (gI X.1, 512, .inl nB)), (h5, .inr (5, [.int vD, .int vA, .int vL, .ref qn, .ref qm])), (qn, .inl (gI X.1, 512, .inl vN)), (qm, .inl (gI X.1, 512, .inl vM))]) rfl rfl dX7_withLines_56 [] [0, 1, 2, 3, 4] [0, 1, 2, 3, 4] rfl rfl rfl rfl rfl rfl ?_
                    refine j_lstore_n (lv' := [(3, .long (f_X7_mixed x29_3 (Int32.toInt64 r52))), (0, .ref h7), (1, .long p1), (5, .int x5_5), (6, .int x14_6), (7, .int x29_7)]) C dX7_withLines_59 rfl (by decide) rfl ?_
                    refine j_iinc (v := (x29_7 + 1)) (lv' := [(7, .int (x29_7 + 1)), (3, .long (f_X7_mixed x29_3 (Int32.toInt64 r52))), (0, .ref h7), (1, .long p1), (5, .int x5_5), (6, .int x14_6)]) C dX7_withLines_60 5 rfl (by first | rfl | decide) (by decide) rfl ?_
                    refine j_goto C (tgt := 29) dX7_withLines_63 (by decide) ?_
                    obtain rfl := Option.some.inj hf
                    have hf := dz_go_inl hg29
                    refine j_loc [2, 3, 1, 4, 5, 0] rfl ?_
                    exact ih29 (f_X7_mixed x29_3 (Int32.toInt64 r52)) (x29_7 + 1) hf
              refine j_loc [1, 2, 3, 4, 5, 0] rfl ?_
              exact kk29 _ x14_3 0 hf
        refine j_loc [1, 2, 3, 4, 0] rfl ?_
        exact kk14 _ x5_3 0 hf
  refine j_loc [2, 3, 1, 0] rfl ?_
  exact kk5 _ p1 0 hf

theorem lk_X7_withOrdered_10 : Cond.fieldLink RX7 10 (TX7 0).1 (TX7 0).2.1 (TX7 0).2.2.1 ∈ wsX7_withOrdered := by decide +kernel
theorem in_X7_withOrdered_7 : ∀ w ∈ wsX70, w ∈ wsX7_withOrdered := by decide +kernel
def f_X7_withOrdered_L16 (vD : Int32) (vN : (Nat → Int32)) (r8 : Int32) (x16_4 : Int64) (x16_7 : Int32) : Option ((Int64 × Int32) ⊕ (Int64)) :=
  if 3 < x16_7 then some (.inr (x16_4)) else Option.bind (f_X7_orderedPoint r8 x16_7 vD vN) (fun r29 => some (.inl ((f_X7_mixed x16_4 (Int32.toInt64 r29)), (x16_7 + 1))))
def f_X7_withOrdered (p1 : Int64) (p2 : Int32) (vD : Int32) (vA : Int32) (vN : (Nat → Int32)) : Option (Int64) :=
  Option.bind (f_X5_placeOfRank p2 vD vA vN) (fun r8 => dz_it (fun s : Int64 × Int32 => f_X7_withOrdered_L16 vD vN r8 s.1 s.2) (p1, 0))
abbrev rm_X7_withOrdered : Room := { frames := 4, cells := 0, slots := 0, locals := 87 }
theorem k_X7_withOrdered : Cf yX7_withOrdered wsX7_withOrdered rm_X7_withOrdered cX7_withOrdered 8 (some .long) 2 := ⟨⟨_, rfl⟩, by decide +kernel, by decide +kernel, by decide +kernel⟩
set_option maxRecDepth 100000 in
set_option maxHeartbeats 4000000 in
theorem b_X7_withOrdered (G : CG) (hl : (gL G).stackTraces = false) (h7 : Nat) (h5 : Nat) (h2 : Nat) (h6 : Nat) (h4 : Nat) (h0 : Nat) (h3 : Nat) (h1 : Nat) (qb : Nat) (qn : Nat) (qm : Nat) (vD : Int32) (vA : Int32) (vL : Int32) (vN : (Nat → Int32)) (vM : (Nat → Int32)) (nB : (Nat → Int32)) (p1 : Int64) (p2 : Int32) (y : Int64) (hf : f_X7_withOrdered p1 p2 vD vA vN = some y) : Ct G yX7_withOrdered wsX7_withOrdered rm_X7_withOrdered [.ref h7, .long p1, .int p2] [(h7, .inr (7, [.ref h5, .ref h2, .ref h6, .ref h4, .ref h0, .ref h3, .ref h1, .ref qb])), (qb, .inl (gI G, 512, .inl nB)), (h5, .inr (5, [.int vD, .int vA, .int vL, .ref qn, .ref qm])), (qn, .inl (gI G, 512, .inl vN)), (qm, .inl (gI G, 512, .inl vM))] (fin1 (some (.long y)) [(h7, .inr (7, [.ref h5, .ref h2, .ref h6, .ref h4, .ref h0, .ref h3, .ref h1, .ref qb])), (qb, .inl (gI G, 512, .inl nB)), (h5, .inr (5, [.int vD, .int vA, .int vL, .ref qn, .ref qm])), (qn, .inl (gI G, 512, .inl vN)), (qm, .inl (gI G, 512, .inl vM))]) 0 0 := by
  refine Ct.of (cc := cX7_withOrdered) (N := 8) (ret := (some .long)) RX7 (by decide) rfl rfl hl (Nat.le_of_ble_eq_true rfl) (lv := [(0, .ref h7), (1, .long p1), (3, .int p2)]) rfl (fun X hXG C hex hnm hQ => ?_)
  subst hXG
  unfold f_X7_withOrdered at hf
  refine j_lload_n C dX7_withOrdered_0 rfl 1 rfl ?_
  refine j_lstore (lv' := [(4, .long p1), (0, .ref h7), (1, .long p1), (3, .int p2)]) C dX7_withOrdered_1 (by decide) rfl ?_
  refine j_aload_n C dX7_withOrdered_3 rfl 1 rfl ?_
  refine j_get7 C 0 rfl 0 (by decide) in_X7_withOrdered_7 lk_X7_withOrdered_10 rfl dX7_withOrdered_4 ?_
  refine j_iload_n C dX7_withOrdered_7 rfl 3 rfl ?_
  obtain ⟨r8, hc8, hf⟩ := Option.bind_eq_some_iff.mp hf
  refine j_cV C (b_X5_placeOfRank X.1 hl h5 qn qm vD vA vL vN vM p2 r8 hc8) k_X5_placeOfRank gX7_withOrdered_X5_placeOfRank rfl (ci := 5) (q0 := 0) rfl rfl (As := [.int p2]) (rest := []) (st' := [.int r8]) (ws' := [(h7, .inr (7, [.ref h5, .ref h2, .ref h6, .ref h4, .ref h0, .ref h3, .ref h1, .ref qb])), (qb, .inl (gI X.1, 512, .inl nB)), (h5, .inr (5, [.int vD, .int vA, .int vL, .ref qn, .ref qm])), (qn, .inl (gI X.1, 512, .inl vN)), (qm, .inl (gI X.1, 512, .inl vM))]) rfl rfl dX7_withOrdered_8 [2, 3, 4] [0, 1] [0, 1, 2, 3, 4] rfl rfl rfl rfl rfl rfl ?_
  refine j_istore (lv' := [(6, .int r8), (4, .long p1), (0, .ref h7), (1, .long p1), (3, .int p2)]) C dX7_withOrdered_11 (by decide) rfl ?_
  refine j_iconst C (v := 0) dX7_withOrdered_13 (by decide) ?_
  refine j_istore (lv' := [(7, .int 0), (6, .int r8), (4, .long p1), (0, .ref h7), (1, .long p1), (3, .int p2)]) C dX7_withOrdered_14 (by decide) rfl ?_
  have kk16 : ∀ (n : Nat) (x16_4 : Int64) (x16_7 : Int32), dz_iter n (fun s : Int64 × Int32 => f_X7_withOrdered_L16 vD vN r8 s.1 s.2) (x16_4, x16_7) = some y → Jt X [(h7, .inr (7, [.ref h5, .ref h2, .ref h6, .ref h4, .ref h0, .ref h3, .ref h1, .ref qb])), (qb, .inl (gI X.1, 512, .inl nB)), (h5, .inr (5, [.int vD, .int vA, .int vL, .ref qn, .ref qm])), (qn, .inl (gI X.1, 512, .inl vN)), (qm, .inl (gI X.1, 512, .inl vM))] 0 0 16 [(0, .ref h7), (1, .long p1), (3, .int p2), (4, .long x16_4), (6, .int r8), (7, .int x16_7)] [] := by
    intro n
    induction n with
    | zero => intro x16_4 x16_7 hit; exact absurd hit (by simp [dz_iter])
    | succ n ih16 =>
      intro x16_4 x16_7 hit
      obtain ⟨y16, hf, hg16⟩ := dz_iter_succ hit
      replace hf : f_X7_withOrdered_L16 vD vN r8 x16_4 x16_7 = some y16 := hf
      unfold f_X7_withOrdered_L16 at hf
      refine j_iload C dX7_withOrdered_16 5 rfl ?_
      refine j_iconst C (v := 3) dX7_withOrdered_18 (by decide) ?_
      refine j_icmp_gt C (tgt := 44) dX7_withOrdered_19 (by decide) (fun e19 => ?_) (fun e19 => ?_)
      · have hf := (if_pos e19).symm.trans hf
        refine j_lload C dX7_withOrdered_44 3 rfl ?_
        obtain rfl := Option.some.inj hf
        obtain rfl := dz_go_inr hg16
        exact j_lret C hQ rfl dX7_withOrdered_46 (Nat.zero_le _) (Nat.zero_le _) ⟨rfl, rfl⟩
      · have hf := (if_neg e19).symm.trans hf
        refine j_lload C dX7_withOrdered_22 3 rfl ?_
        refine j_aload_n C dX7_withOrdered_24 rfl 0 rfl ?_
        refine j_iload C dX7_withOrdered_25 4 rfl ?_
        refine j_iload C dX7_withOrdered_27 5 rfl ?_
        obtain ⟨r29, hc29, hf⟩ := Option.bind_eq_some_iff.mp hf
        refine j_cV C (b_X7_orderedPoint X.1 hl h7 h5 h2 h6 h4 h0 h3 h1 qb qn qm vD vA vL vN vM nB r8 x16_7 r29 hc29) k_X7_orderedPoint gX7_withOrdered_X7_orderedPoint rfl (ci := 7) (q0 := 0) rfl rfl (As := [.int r8, .int x16_7]) (rest := [.long x16_4]) (st' := [.int r29, .long x16_4]) (ws' := [(h7, .inr (7, [.ref h5, .ref h2, .ref h6, .ref h4, .ref h0, .ref h3, .ref h1, .ref qb])), (qb, .inl (gI X.1, 512, .inl nB)), (h5, .inr (5, [.int vD, .int vA, .int vL, .ref qn, .ref qm])), (qn, .inl (gI X.1, 512, .inl vN)), (qm, .inl (gI X.1, 512, .inl vM))]) rfl rfl dX7_withOrdered_29 [0, 1, 2, 3, 4] [] [0, 1, 2, 3, 4] rfl rfl rfl rfl rfl rfl ?_
        refine j_i2l C dX7_withOrdered_32 ?_
        refine j_cS C (c_X7_mixed X.1 hl x16_4 (Int32.toInt64 r29)) k_X7_mixed gX7_withOrdered_X7_mixed (As := [.long x16_4, .long (Int32.toInt64 r29)]) (rest := []) (st' := [.long (f_X7_mixed x16_4 (Int32.toInt64 r29))]) (ws' := [(h7, .inr (7, [.ref h5, .ref h2, .ref h6, .ref h4, .ref h0, .ref h3, .ref h1, .ref qb])), (qb, .inl (gI X.1, 512, .inl nB)), (h5, .inr (5, [.int vD, .int vA, .int vL, .ref qn, .ref qm])), (qn, .inl (gI X.1, 512, .inl vN)), (qm, .inl (gI X.1, 512, .inl vM))]) rfl rfl dX7_withOrdered_33 [] [0, 1, 2, 3, 4] [0, 1, 2, 3, 4] rfl rfl rfl rfl rfl rfl ?_
        refine j_lstore (lv' := [(4, .long (f_X7_mixed x16_4 (Int32.toInt64 r29))), (0, .ref h7), (1, .long p1), (3, .int p2), (6, .int r8), (7, .int x16_7)]) C dX7_withOrdered_36 (by decide) rfl ?_
        refine j_iinc (v := (x16_7 + 1)) (lv' := [(7, .int (x16_7 + 1)), (4, .long (f_X7_mixed x16_4 (Int32.toInt64 r29))), (0, .ref h7), (1, .long p1), (3, .int p2), (6, .int r8)]) C dX7_withOrdered_38 5 rfl (by first | rfl | decide) (by decide) rfl ?_
        refine j_goto C (tgt := 16) dX7_withOrdered_41 (by decide) ?_
        obtain rfl := Option.some.inj hf
        have hf := dz_go_inl hg16
        refine j_loc [2, 3, 4, 1, 5, 0] rfl ?_
        exact ih16 (f_X7_mixed x16_4 (Int32.toInt64 r29)) (x16_7 + 1) hf
  refine j_loc [3, 4, 5, 2, 1, 0] rfl ?_
  exact kk16 _ p1 0 hf

def f_X7_withOrder (p1 : Int64) (vD : Int32) (vA : Int32) (vN : (Nat → Int32)) : Option (Int64) :=
  Option.bind (f_X7_withOrdered p1 0 vD vA vN) (fun r5 => Option.bind (f_X7_withOrdered r5 1 vD vA vN) (fun r9 => Option.bind (f_X7_withOrdered r9 5 vD vA vN) (fun r13 => some (r13))))
abbrev rm_X7_withOrder : Room := { frames := 5, cells := 0, slots := 0, locals := 114 }
theorem k_X7_withOrder : Cf yX7_withOrder wsX7_withOrder rm_X7_withOrder cX7_withOrder 3 (some .long) 1 := ⟨⟨_, rfl⟩, by decide +kernel, by decide +kernel, by decide +kernel⟩
set_option maxRecDepth 100000 in
set_option maxHeartbeats 4000000 in
theorem b_X7_withOrder (G : CG) (hl : (gL G).stackTraces = false) (h7 : Nat) (h5 : Nat) (h2 : Nat) (h6 : Nat) (h4 : Nat) (h0 : Nat) (h3 : Nat) (h1 : Nat) (qb : Nat) (qn : Nat) (qm : Nat) (vD : Int32) (vA : Int32) (vL : Int32) (vN : (Nat → Int32)) (vM : (Nat → Int32)) (nB : (Nat → Int32)) (p1 : Int64) (y : Int64) (hf : f_X7_withOrder p1 vD vA vN = some y) : Ct G yX7_withOrder wsX7_withOrder rm_X7_withOrder [.ref h7, .long p1] [(h7, .inr (7, [.ref h5, .ref h2, .ref h6, .ref h4, .ref h0, .ref h3, .ref h1, .ref qb])), (qb, .inl (gI G, 512, .inl nB)), (h5, .inr (5, [.int vD, .int vA, .int vL, .ref qn, .ref qm])), (qn, .inl (gI G, 512, .inl vN)), (qm, .inl (gI G, 512, .inl vM))] (fin1 (some (.long y)) [(h7, .inr (7, [.ref h5, .ref h2, .ref h6, .ref h4, .ref h0, .ref h3, .ref h1, .ref qb])), (qb, .inl (gI G, 512, .inl nB)), (h5, .inr (5, [.int vD, .int vA, .int vL, .ref qn, .ref qm])), (qn, .inl (gI G, 512, .inl vN)), (qm, .inl (gI G, 512, .inl vM))]) 0 0 := by
  refine Ct.of (cc := cX7_withOrder) (N := 3) (ret := (some .long)) RX7 (by decide) rfl rfl hl (Nat.le_of_ble_eq_true rfl) (lv := [(0, .ref h7), (1, .long p1)]) rfl (fun X hXG C hex hnm hQ => ?_)
  subst hXG
  unfold f_X7_withOrder at hf
  refine j_aload_n C dX7_withOrder_0 rfl 0 rfl ?_
  refine j_aload_n C dX7_withOrder_1 rfl 0 rfl ?_
  refine j_aload_n C dX7_withOrder_2 rfl 0 rfl ?_
  refine j_lload_n C dX7_withOrder_3 rfl 1 rfl ?_
  refine j_iconst C (v := 0) dX7_withOrder_4 (by decide) ?_
  obtain ⟨r5, hc5, hf⟩ := Option.bind_eq_some_iff.mp hf
  refine j_cV C (b_X7_withOrdered X.1 hl h7 h5 h2 h6 h4 h0 h3 h1 qb qn qm vD vA vL vN vM nB p1 0 r5 hc5) k_X7_withOrdered gX7_withOrder_X7_withOrdered rfl (ci := 7) (q0 := 0) rfl rfl (As := [.long p1, .int 0]) (rest := [.ref h7, .ref h7]) (st' := [.long r5, .ref h7, .ref h7]) (ws' := [(h7, .inr (7, [.ref h5, .ref h2, .ref h6, .ref h4, .ref h0, .ref h3, .ref h1, .ref qb])), (qb, .inl (gI X.1, 512, .inl nB)), (h5, .inr (5, [.int vD, .int vA, .int vL, .ref qn, .ref qm])), (qn, .inl (gI X.1, 512, .inl vN)), (qm, .inl (gI X.1, 512, .inl vM))]) rfl rfl dX7_withOrder_5 [0, 1, 2, 3, 4] [] [0, 1, 2, 3, 4] rfl rfl rfl rfl rfl rfl ?_
  refine j_iconst C (v := 1) dX7_withOrder_8 (by decide) ?_
  obtain ⟨r9, hc9, hf⟩ := Option.bind_eq_some_iff.mp hf
  refine j_cV C (b_X7_withOrdered X.1 hl h7 h5 h2 h6 h4 h0 h3 h1 qb qn qm vD vA vL vN vM nB r5 1 r9 hc9) k_X7_withOrdered gX7_withOrder_X7_withOrdered rfl (ci := 7) (q0 := 0) rfl rfl (As := [.long r5, .int 1]) (rest := [.ref h7]) (st' := [.long r9, .ref h7]) (ws' := [(h7, .inr (7, [.ref h5, .ref h2, .ref h6, .ref h4, .ref h0, .ref h3, .ref h1, .ref qb])), (qb, .inl (gI X.1, 512, .inl nB)), (h5, .inr (5, [.int vD, .int vA, .int vL, .ref qn, .ref qm])), (qn, .inl (gI X.1, 512, .inl vN)), (qm, .inl (gI X.1, 512, .inl vM))]) rfl rfl dX7_withOrder_9 [0, 1, 2, 3, 4] [] [0, 1, 2, 3, 4] rfl rfl rfl rfl rfl rfl ?_
  refine j_iconst C (v := 5) dX7_withOrder_12 (by decide) ?_
  obtain ⟨r13, hc13, hf⟩ := Option.bind_eq_some_iff.mp hf
  refine j_cV C (b_X7_withOrdered X.1 hl h7 h5 h2 h6 h4 h0 h3 h1 qb qn qm vD vA vL vN vM nB r9 5 r13 hc13) k_X7_withOrdered gX7_withOrder_X7_withOrdered rfl (ci := 7) (q0 := 0) rfl rfl (As := [.long r9, .int 5]) (rest := []) (st' := [.long r13]) (ws' := [(h7, .inr (7, [.ref h5, .ref h2, .ref h6, .ref h4, .ref h0, .ref h3, .ref h1, .ref qb])), (qb, .inl (gI X.1, 512, .inl nB)), (h5, .inr (5, [.int vD, .int vA, .int vL, .ref qn, .ref qm])), (qn, .inl (gI X.1, 512, .inl vN)), (qm, .inl (gI X.1, 512, .inl vM))]) rfl rfl dX7_withOrder_13 [0, 1, 2, 3, 4] [] [0, 1, 2, 3, 4] rfl rfl rfl rfl rfl rfl ?_
  obtain rfl := Option.some.inj hf
  exact j_lret C hQ rfl dX7_withOrder_16 (Nat.zero_le _) (Nat.zero_le _) ⟨rfl, rfl⟩

theorem lk_X7_withDifferences_40 : Cond.fieldLink RX7 40 (TX7 4).1 (TX7 4).2.1 (TX7 4).2.2.1 ∈ wsX7_withDifferences := by decide +kernel
theorem in_X7_withDifferences_7 : ∀ w ∈ wsX70, w ∈ wsX7_withDifferences := by decide +kernel
theorem lk_X7_withDifferences_10 : Cond.fieldLink RX7 10 (TX7 0).1 (TX7 0).2.1 (TX7 0).2.2.1 ∈ wsX7_withDifferences := by decide +kernel
def f_X7_withDifferences_L16 (r10 : Int32 × Int32 × Int32 × Int32) (x16_3 : Int64) (x16_5 : Int32) : Option ((Int64 × Int32) ⊕ (Int64 × Int32 × Int32 × Int32 × Int32)) :=
  if 3 < x16_5 then some (.inr ((x16_3, r10.1, r10.2.1, r10.2.2.1, r10.2.2.2))) else some (.inl ((f_X7_mixed x16_3 (Int32.toInt64 (f_X0_told x16_5 r10.1 r10.2.1 r10.2.2.1 r10.2.2.2))), (x16_5 + 1)))
def f_X7_withDifferences (p1 : Int64) (vD : Int32) (vN : (Nat → Int32)) (vM : (Nat → Int32)) : Option (Int64 × Int32 × Int32 × Int32 × Int32) :=
  Option.bind (f_X0_look vD vN vM) (fun r10 => dz_it (fun s : Int64 × Int32 => f_X7_withDifferences_L16 r10 s.1 s.2) (p1, 0))
abbrev rm_X7_withDifferences : Room := { frames := 4, cells := 0, slots := 0, locals := 81 }
theorem k_X7_withDifferences : Cf yX7_withDifferences wsX7_withDifferences rm_X7_withDifferences cX7_withDifferences 6 (some .long) 1 := ⟨⟨_, rfl⟩, by decide +kernel, by decide +kernel, by decide +kernel⟩
set_option maxRecDepth 100000 in
set_option maxHeartbeats 4000000 in
theorem b_X7_withDifferences (G : CG) (hl : (gL G).stackTraces = false) (h7 : Nat) (h5 : Nat) (h2 : Nat) (h6 : Nat) (h4 : Nat) (h0 : Nat) (h3 : Nat) (h1 : Nat) (qb : Nat) (qn : Nat) (qm : Nat) (vD : Int32) (vA : Int32) (vL : Int32) (vN : (Nat → Int32)) (vM : (Nat → Int32)) (dP : Int32) (dS : Int32) (dG : Int32) (dF : Int32) (nB : (Nat → Int32)) (p1 : Int64) (y : Int64 × Int32 × Int32 × Int32 × Int32) (hf : f_X7_withDifferences p1 vD vN vM = some y) : Ct G yX7_withDifferences wsX7_withDifferences rm_X7_withDifferences [.ref h7, .long p1] [(h7, .inr (7, [.ref h5, .ref h2, .ref h6, .ref h4, .ref h0, .ref h3, .ref h1, .ref qb])), (qb, .inl (gI G, 512, .inl nB)), (h5, .inr (5, [.int vD, .int vA, .int vL, .ref qn, .ref qm])), (qn, .inl (gI G, 512, .inl vN)), (qm, .inl (gI G, 512, .inl vM)), (h0, .inr (0, [.int dP, .int dS, .int dG, .int dF]))] (fin1 (some (.long y.1)) [(h7, .inr (7, [.ref h5, .ref h2, .ref h6, .ref h4, .ref h0, .ref h3, .ref h1, .ref qb])), (qb, .inl (gI G, 512, .inl nB)), (h5, .inr (5, [.int vD, .int vA, .int vL, .ref qn, .ref qm])), (qn, .inl (gI G, 512, .inl vN)), (qm, .inl (gI G, 512, .inl vM)), (h0, .inr (0, [.int y.2.1, .int y.2.2.1, .int y.2.2.2.1, .int y.2.2.2.2]))]) 0 0 := by
  refine Ct.of (cc := cX7_withDifferences) (N := 6) (ret := (some .long)) RX7 (by decide) rfl rfl hl (Nat.le_of_ble_eq_true rfl) (lv := [(0, .ref h7), (1, .long p1)]) rfl (fun X hXG C hex hnm hQ => ?_)
  subst hXG
  unfold f_X7_withDifferences at hf
  refine j_lload_n C dX7_withDifferences_0 rfl 1 rfl ?_
  refine j_lstore_n (lv' := [(3, .long p1), (0, .ref h7), (1, .long p1)]) C dX7_withDifferences_1 rfl (by decide) rfl ?_
  refine j_aload_n C dX7_withDifferences_2 rfl 1 rfl ?_
  refine j_get7 C 0 rfl 4 (by decide) in_X7_withDifferences_7 lk_X7_withDifferences_40 rfl dX7_withDifferences_3 ?_
  refine j_aload_n C dX7_withDifferences_6 rfl 1 rfl ?_
  refine j_get7 C 0 rfl 0 (by decide) in_X7_withDifferences_7 lk_X7_withDifferences_10 rfl dX7_withDifferences_7 ?_
  obtain ⟨r10, hc10, hf⟩ := Option.bind_eq_some_iff.mp hf
  refine j_cV C (b_X0_look X.1 hl h0 h5 qn qm vD vA vL vN vM dP dS dG dF r10 hc10) k_X0_look gX7_withDifferences_X0_look rfl (ci := 0) (q0 := 0) rfl rfl (As := [.ref h5]) (rest := []) (st' := []) (ws' := [(h7, .inr (7, [.ref h5, .ref h2, .ref h6, .ref h4, .ref h0, .ref h3, .ref h1, .ref qb])), (qb, .inl (gI X.1, 512, .inl nB)), (h5, .inr (5, [.int vD, .int vA, .int vL, .ref qn, .ref qm])), (qn, .inl (gI X.1, 512, .inl vN)), (qm, .inl (gI X.1, 512, .inl vM)), (h0, .inr (0, [.int r10.1, .int r10.2.1, .int r10.2.2.1, .int r10.2.2.2]))]) rfl rfl dX7_withDifferences_10 [5, 2, 3, 4] [0, 1] [0, 1, 3, 4, 5, 2] rfl rfl rfl rfl rfl rfl ?_
  refine j_iconst C (v := 0) dX7_withDifferences_13 (by decide) ?_
  refine j_istore (lv' := [(5, .int 0), (3, .long p1), (0, .ref h7), (1, .long p1)]) C dX7_withDifferences_14 (by decide) rfl ?_
  have kk16 : ∀ (n : Nat) (x16_3 : Int64) (x16_5 : Int32), dz_iter n (fun s : Int64 × Int32 => f_X7_withDifferences_L16 r10 s.1 s.2) (x16_3, x16_5) = some y → Jt X [(h7, .inr (7, [.ref h5, .ref h2, .ref h6, .ref h4, .ref h0, .ref h3, .ref h1, .ref qb])), (qb, .inl (gI X.1, 512, .inl nB)), (h5, .inr (5, [.int vD, .int vA, .int vL, .ref qn, .ref qm])), (qn, .inl (gI X.1, 512, .inl vN)), (qm, .inl (gI X.1, 512, .inl vM)), (h0, .inr (0, [.int r10.1, .int r10.2.1, .int r10.2.2.1, .int r10.2.2.2]))] 0 0 16 [(0, .ref h7), (1, .long p1), (3, .long x16_3), (5, .int x16_5)] [] := by
    intro n
    induction n with
    | zero => intro x16_3 x16_5 hit; exact absurd hit (by simp [dz_iter])
    | succ n ih16 =>
      intro x16_3 x16_5 hit
      obtain ⟨y16, hf, hg16⟩ := dz_iter_succ hit
      replace hf : f_X7_withDifferences_L16 r10 x16_3 x16_5 = some y16 := hf
      unfold f_X7_withDifferences_L16 at hf
      refine j_iload C dX7_withDifferences_16 3 rfl ?_
      refine j_iconst C (v := 3) dX7_withDifferences_18 (by decide) ?_
      refine j_icmp_gt C (tgt := 43) dX7_withDifferences_19 (by decide) (fun e19 => ?_) (fun e19 => ?_)
      · have hf := (if_pos e19).symm.trans hf
        refine j_lload_n C dX7_withDifferences_43 rfl 2 rfl ?_
        obtain rfl := Option.some.inj hf
        obtain rfl := dz_go_inr hg16
        exact j_lret C hQ rfl dX7_withDifferences_44 (Nat.zero_le _) (Nat.zero_le _) ⟨rfl, rfl⟩
      · have hf := (if_neg e19).symm.trans hf
        refine j_lload_n C dX7_withDifferences_22 rfl 2 rfl ?_
        refine j_aload_n C dX7_withDifferences_23 rfl 0 rfl ?_
        refine j_get7 C 0 rfl 4 (by decide) in_X7_withDifferences_7 lk_X7_withDifferences_40 rfl dX7_withDifferences_24 ?_
        refine j_iload C dX7_withDifferences_27 3 rfl ?_
        refine j_cV C (c_X0_told X.1 hl h0 r10.1 r10.2.1 r10.2.2.1 r10.2.2.2 x16_5) k_X0_told gX7_withDifferences_X0_told rfl (ci := 0) (q0 := 0) rfl rfl (As := [.int x16_5]) (rest := [.long x16_3]) (st' := [.int (f_X0_told x16_5 r10.1 r10.2.1 r10.2.2.1 r10.2.2.2), .long x16_3]) (ws' := [(h7, .inr (7, [.ref h5, .ref h2, .ref h6, .ref h4, .ref h0, .ref h3, .ref h1, .ref qb])), (qb, .inl (gI X.1, 512, .inl nB)), (h5, .inr (5, [.int vD, .int vA, .int vL, .ref qn, .ref qm])), (qn, .inl (gI X.1, 512, .inl vN)), (qm, .inl (gI X.1, 512, .inl vM)), (h0, .inr (0, [.int r10.1, .int r10.2.1, .int r10.2.2.1, .int r10.2.2.2]))]) rfl rfl dX7_withDifferences_29 [5] [0, 1, 2, 3, 4] [0, 1, 2, 3, 4, 5] rfl rfl rfl rfl rfl rfl ?_
        refine j_i2l C dX7_withDifferences_32 ?_
        refine j_cS C (c_X7_mixed X.1 hl x16_3 (Int32.toInt64 (f_X0_told x16_5 r10.1 r10.2.1 r10.2.2.1 r10.2.2.2))) k_X7_mixed gX7_withDifferences_X7_mixed (As := [.long x16_3, .long (Int32.toInt64 (f_X0_told x16_5 r10.1 r10.2.1 r10.2.2.1 r10.2.2.2))]) (rest := []) (st' := [.long (f_X7_mixed x16_3 (Int32.toInt64 (f_X0_told x16_5 r10.1 r10.2.1 r10.2.2.1 r10.2.2.2)))]) (ws' := [(h7, .inr (7, [.ref h5, .ref h2, .ref h6, .ref h4, .ref h0, .ref h3, .ref h1, .ref qb])), (qb, .inl (gI X.1, 512, .inl nB)), (h5, .inr (5, [.int vD, .int vA, .int vL, .ref qn, .ref qm])), (qn, .inl (gI X.1, 512, .inl vN)), (qm, .inl (gI X.1, 512, .inl vM)), (h0, .inr (0, [.int r10.1, .int r10.2.1, .int r10.2.2.1, .int r10.2.2.2]))]) rfl rfl dX7_withDifferences_33 [] [0, 1, 2, 3, 4, 5] [0, 1, 2, 3, 4, 5] rfl rfl rfl rfl rfl rfl ?_
        refine j_lstore_n (lv' := [(3, .long (f_X7_mixed x16_3 (Int32.toInt64 (f_X0_told x16_5 r10.1 r10.2.1 r10.2.2.1 r10.2.2.2)))), (0, .ref h7), (1, .long p1), (5, .int x16_5)]) C dX7_withDifferences_36 rfl (by decide) rfl ?_
        refine j_iinc (v := (x16_5 + 1)) (lv' := [(5, .int (x16_5 + 1)), (3, .long (f_X7_mixed x16_3 (Int32.toInt64 (f_X0_told x16_5 r10.1 r10.2.1 r10.2.2.1 r10.2.2.2)))), (0, .ref h7), (1, .long p1)]) C dX7_withDifferences_37 3 rfl (by first | rfl | decide) (by decide) rfl ?_
        refine j_goto C (tgt := 16) dX7_withDifferences_40 (by decide) ?_
        obtain rfl := Option.some.inj hf
        have hf := dz_go_inl hg16
        refine j_loc [2, 3, 1, 0] rfl ?_
        exact ih16 (f_X7_mixed x16_3 (Int32.toInt64 (f_X0_told x16_5 r10.1 r10.2.1 r10.2.2.1 r10.2.2.2))) (x16_5 + 1) hf
  refine j_loc [2, 3, 1, 0] rfl ?_
  exact kk16 _ p1 0 hf

theorem wd_X7_bitsOf_k317 : Cond.constantLong RX7 317 1023 ∈ wsX7_bitsOf := by decide +kernel
theorem wd_X7_bitsOf_k319 : Cond.constantDouble RX7 319 4611686018427387904 ∈ wsX7_bitsOf := by decide +kernel
theorem wd_X7_bitsOf_k321 : Cond.constantDouble RX7 321 4841369599423283200 ∈ wsX7_bitsOf := by decide +kernel
def f_X7_bitsOf_J50 (x18_2 : UInt64) (x18_4 : Int64) : Option ((UInt64 × Int64 × Int32) ⊕ (Int64)) :=
  dz_nn (FP.dsub x18_2 FP.dconst1) (dz_nn (FP.dmul (FP.dsub x18_2 FP.dconst1) 4841369599423283200) (some (.inr (((x18_4 <<< ((52 : Int32).toInt64 &&& 63)) + (FP.d2l (FP.dmul (FP.dsub x18_2 FP.dconst1) 4841369599423283200)))))))
def f_X7_bitsOf_L18 (x18_2 : UInt64) (x18_4 : Int64) (x18_6 : Int32) : Option ((UInt64 × Int64 × Int32) ⊕ (Int64)) :=
  if 1000 ≤ x18_6 then (f_X7_bitsOf_J50 x18_2 x18_4) else if 0 ≤ (Op.cmpValue (FP.dcmp x18_2 FP.dconst1) .g) then (f_X7_bitsOf_J50 x18_2 x18_4) else dz_nn (FP.dmul x18_2 4611686018427387904) (some (.inl ((FP.dmul x18_2 4611686018427387904), (x18_4 - 1), (x18_6 + 1))))
def f_X7_bitsOf (p1 : UInt64) : Option (Int64) :=
  if 0 < (Op.cmpValue (FP.dcmp p1 FP.dconst0) .l) then dz_it (fun s : UInt64 × Int64 × Int32 => f_X7_bitsOf_L18 s.1 s.2.1 s.2.2) (p1, 1023, 0) else some (0)
abbrev rm_X7_bitsOf : Room := { frames := 1, cells := 0, slots := 0, locals := 16 }
theorem k_X7_bitsOf : Cf yX7_bitsOf wsX7_bitsOf rm_X7_bitsOf cX7_bitsOf 7 (some .long) 1 := ⟨⟨_, rfl⟩, by decide +kernel, by decide +kernel, by decide +kernel⟩
set_option maxRecDepth 100000 in
set_option maxHeartbeats 4000000 in
theorem b_X7_bitsOf (G : CG) (hl : (gL G).stackTraces = false) (p1 : UInt64) (y : Int64) (hf : f_X7_bitsOf p1 = some y) : Ct G yX7_bitsOf wsX7_bitsOf rm_X7_bitsOf [.double p1] [] (fin1 (some (.long y)) []) 0 0 := by
  refine Ct.of (cc := cX7_bitsOf) (N := 7) (ret := (some .long)) RX7 (by decide) rfl rfl hl (Nat.le_of_ble_eq_true rfl) (lv := [(0, .double p1)]) rfl (fun X hXG C hex hnm hQ => ?_)
  subst hXG
  unfold f_X7_bitsOf at hf
  refine j_dload_n C dX7_bitsOf_0 rfl 0 rfl ?_
  refine j_dconst0 C dX7_bitsOf_1 ?_
  refine j_dcmp C dX7_bitsOf_2 ?_
  refine j_if_gt C (tgt := 8) dX7_bitsOf_3 (by decide) (fun e3 => ?_) (fun e3 => ?_)
  · have hf := (if_pos e3).symm.trans hf
    refine j_dload_n C dX7_bitsOf_8 rfl 0 rfl ?_
    refine j_dstore_n (lv' := [(2, .double p1), (0, .double p1)]) C dX7_bitsOf_9 rfl (by decide) rfl ?_
    refine j_ldc2 C (v := 1023) dX7_bitsOf_10 wd_X7_bitsOf_k317 ?_
    refine j_lstore (lv' := [(4, .long 1023), (2, .double p1), (0, .double p1)]) C dX7_bitsOf_13 (by decide) rfl ?_
    refine j_iconst C (v := 0) dX7_bitsOf_15 (by decide) ?_
    refine j_istore (lv' := [(6, .int 0), (4, .long 1023), (2, .double p1), (0, .double p1)]) C dX7_bitsOf_16 (by decide) rfl ?_
    have kk18 : ∀ (n : Nat) (x18_2 : UInt64) (x18_4 : Int64) (x18_6 : Int32), dz_iter n (fun s : UInt64 × Int64 × Int32 => f_X7_bitsOf_L18 s.1 s.2.1 s.2.2) (x18_2, x18_4, x18_6) = some y → Jt X [] 0 0 18 [(0, .double p1), (2, .double x18_2), (4, .long x18_4), (6, .int x18_6)] [] := by
      intro n
      induction n with
      | zero => intro x18_2 x18_4 x18_6 hit; exact absurd hit (by simp [dz_iter])
      | succ n ih18 =>
        intro x18_2 x18_4 x18_6 hit
        obtain ⟨y18, hf, hg18⟩ := dz_iter_succ hit
        replace hf : f_X7_bitsOf_L18 x18_2 x18_4 x18_6 = some y18 := hf
        unfold f_X7_bitsOf_L18 at hf
        refine j_iload C dX7_bitsOf_18 3 rfl ?_
        refine j_sipush C (v := 1000) dX7_bitsOf_20 (by decide) ?_
        have k50 : f_X7_bitsOf_J50 x18_2 x18_4 = some y18 → Jt X [] 0 0 50 [(0, .double p1), (2, .double x18_2), (4, .long x18_4), (6, .int x18_6)] [] := by
          intro  hf
          unfold f_X7_bitsOf_J50 at hf
          refine j_lload C dX7_bitsOf_50 2 rfl ?_
          refine j_bipush C (v := 52) dX7_bitsOf_52 (by decide) ?_
          refine j_lshl C dX7_bitsOf_54 ?_
          refine j_dload_n C dX7_bitsOf_55 rfl 1 rfl ?_
          refine j_dconst1 C dX7_bitsOf_56 ?_
          obtain ⟨z57, hf⟩ := dz_nn_some hf
          refine j_dsub C dX7_bitsOf_57 z57 ?_
          refine j_ldc2d C (v := 4841369599423283200) dX7_bitsOf_58 wd_X7_bitsOf_k321 ?_
          obtain ⟨z61, hf⟩ := dz_nn_some hf
          refine j_dmul C dX7_bitsOf_61 z61 ?_
          refine j_d2l C dX7_bitsOf_62 ?_
          refine j_ladd C dX7_bitsOf_63 ?_
          obtain rfl := Option.some.inj hf
          obtain rfl := dz_go_inr hg18
          exact j_lret C hQ rfl dX7_bitsOf_64 (Nat.zero_le _) (Nat.zero_le _) ⟨rfl, rfl⟩
        refine j_icmp_ge C (tgt := 50) dX7_bitsOf_23 (by decide) (fun e23 => ?_) (fun e23 => ?_)
        · have hf := (if_pos e23).symm.trans hf
          refine j_loc [0, 1, 2, 3] rfl ?_
          exact k50  hf
        · have hf := (if_neg e23).symm.trans hf
          refine j_dload_n C dX7_bitsOf_26 rfl 1 rfl ?_
          refine j_dconst1 C dX7_bitsOf_27 ?_
          refine j_dcmp C dX7_bitsOf_28 ?_
          refine j_if_ge C (tgt := 50) dX7_bitsOf_29 (by decide) (fun e29 => ?_) (fun e29 => ?_)
          · have hf := (if_pos e29).symm.trans hf
            refine j_loc [0, 1, 2, 3] rfl ?_
            exact k50  hf
          · have hf := (if_neg e29).symm.trans hf
            refine j_dload_n C dX7_bitsOf_32 rfl 1 rfl ?_
            refine j_ldc2d C (v := 4611686018427387904) dX7_bitsOf_33 wd_X7_bitsOf_k319 ?_
            obtain ⟨z36, hf⟩ := dz_nn_some hf
            refine j_dmul C dX7_bitsOf_36 z36 ?_
            refine j_dstore_n (lv' := [(2, .double (FP.dmul x18_2 4611686018427387904)), (0, .double p1), (4, .long x18_4), (6, .int x18_6)]) C dX7_bitsOf_37 rfl (by decide) rfl ?_
            refine j_lload C dX7_bitsOf_38 2 rfl ?_
            refine j_lconst C (v := 1) dX7_bitsOf_40 (by decide) ?_
            refine j_lsub C dX7_bitsOf_41 ?_
            refine j_lstore (lv' := [(4, .long (x18_4 - 1)), (2, .double (FP.dmul x18_2 4611686018427387904)), (0, .double p1), (6, .int x18_6)]) C dX7_bitsOf_42 (by decide) rfl ?_
            refine j_iinc (v := (x18_6 + 1)) (lv' := [(6, .int (x18_6 + 1)), (4, .long (x18_4 - 1)), (2, .double (FP.dmul x18_2 4611686018427387904)), (0, .double p1)]) C dX7_bitsOf_44 3 rfl (by first | rfl | decide) (by decide) rfl ?_
            refine j_goto C (tgt := 18) dX7_bitsOf_47 (by decide) ?_
            obtain rfl := Option.some.inj hf
            have hf := dz_go_inl hg18
            refine j_loc [3, 2, 1, 0] rfl ?_
            exact ih18 (FP.dmul x18_2 4611686018427387904) (x18_4 - 1) (x18_6 + 1) hf
    refine j_loc [3, 2, 1, 0] rfl ?_
    exact kk18 _ p1 1023 0 hf
  · have hf := (if_neg e3).symm.trans hf
    refine j_lconst C (v := 0) dX7_bitsOf_6 (by decide) ?_
    obtain rfl := Option.some.inj hf
    exact j_lret C hQ rfl dX7_bitsOf_7 (Nat.zero_le _) (Nat.zero_le _) ⟨rfl, rfl⟩

theorem lk_X7_withWhatWouldBe_47 : Cond.fieldLink RX7 47 (TX7 5).1 (TX7 5).2.1 (TX7 5).2.2.1 ∈ wsX7_withWhatWouldBe := by decide +kernel
theorem in_X7_withWhatWouldBe_7 : ∀ w ∈ wsX70, w ∈ wsX7_withWhatWouldBe := by decide +kernel
theorem lk_X7_withWhatWouldBe_10 : Cond.fieldLink RX7 10 (TX7 0).1 (TX7 0).2.1 (TX7 0).2.2.1 ∈ wsX7_withWhatWouldBe := by decide +kernel
theorem lk_X7_withWhatWouldBe_33 : Cond.fieldLink RX7 33 (TX7 3).1 (TX7 3).2.1 (TX7 3).2.2.1 ∈ wsX7_withWhatWouldBe := by decide +kernel
theorem lk_X7_withWhatWouldBe_54 : Cond.fieldLink RX7 54 (TX7 6).1 (TX7 6).2.1 (TX7 6).2.2.1 ∈ wsX7_withWhatWouldBe := by decide +kernel
def f_X7_withWhatWouldBe_L150 (vD : Int32) (vA : Int32) (vL : Int32) (r103 : Int32 × (Nat → Int32) × (Nat → Int32) × (Nat → Int32) × (Nat → Int32) × Int32 × Int32 × Int32) (r144 : Int32 × Int32 × Int32 × Int32) (r83 : Int32 × (Nat → Int32) × Int32 × (Nat → Int32) × (Nat → Int32) × (Nat → Int32) × (Nat → Int32)) (x150_3 : Int64) (x150_5 : Int32) : Option ((Int64 × Int32) ⊕ ((Int64 × Int32) ⊕ ((Int64 × Int32 × Int32 × (Nat → Int32) × (Nat → Int32) × (Nat → Int32) × (Nat → Int32)) ⊕ (Int64 × (Nat → Int32) × Int32 × (Nat → Int32) × (Nat → Int32) × (Nat → Int32) × (Nat → Int32) × Int32 × Int32 × Int32 × Int32 × Int32 × Int32 × Int32)))) :=
  if 3 < x150_5 then Option.bind (f_X7_roomShare vD vA vL r83.2.1 r103.1 r103.2.1 r103.2.2.1 r103.2.2.2.1 r103.2.2.2.2.1) (fun r179 => Option.bind (f_X7_bitsOf r179.1) (fun r182 => some (.inr (.inr (.inr (((f_X7_mixed x150_3 r182), r83.2.1, r179.2.1, r179.2.2.1, r179.2.2.2.1, r179.2.2.2.2.1, r179.2.2.2.2.2, r103.2.2.2.2.2.1, r103.2.2.2.2.2.2.1, r103.2.2.2.2.2.2.2, r144.1, r144.2.1, r144.2.2.1, r144.2.2.2))))))) else some (.inl ((f_X7_mixed x150_3 (Int32.toInt64 (f_X1_told x150_5 r144.1 r144.2.1 r144.2.2.1 r144.2.2.2))), (x150_5 + 1)))
def f_X7_withWhatWouldBe_L109 (vD : Int32) (vA : Int32) (vL : Int32) (hA : Int32) (hF : Int32) (hL : Int32) (r103 : Int32 × (Nat → Int32) × (Nat → Int32) × (Nat → Int32) × (Nat → Int32) × Int32 × Int32 × Int32) (r83 : Int32 × (Nat → Int32) × Int32 × (Nat → Int32) × (Nat → Int32) × (Nat → Int32) × (Nat → Int32)) (x109_3 : Int64) (x109_5 : Int32) : Option ((Int64 × Int32) ⊕ ((Int64 × Int32 × Int32 × (Nat → Int32) × (Nat → Int32) × (Nat → Int32) × (Nat → Int32)) ⊕ (Int64 × (Nat → Int32) × Int32 × (Nat → Int32) × (Nat → Int32) × (Nat → Int32) × (Nat → Int32) × Int32 × Int32 × Int32 × Int32 × Int32 × Int32 × Int32))) :=
  if 2 < x109_5 then Option.bind (f_X1_look vD r83.2.1 hA hF hL) (fun r144 => dz_it (fun s : Int64 × Int32 => f_X7_withWhatWouldBe_L150 vD vA vL r103 r144 r83 s.1 s.2) (x109_3, 0)) else some (.inl ((f_X7_mixed x109_3 (Int32.toInt64 (f_X3_told x109_5 r103.2.2.2.2.2.1 r103.2.2.2.2.2.2.1 r103.2.2.2.2.2.2.2))), (x109_5 + 1)))
def f_X7_withWhatWouldBe_L5 (vD : Int32) (vA : Int32) (vL : Int32) (vN : (Nat → Int32)) (eA : Int32) (eM : Int32) (hA : Int32) (hF : Int32) (hL : Int32) (x5_3 : Int64) (x5_5 : Int32) (lD_5 : Int32) (lS_5 : (Nat → Int32)) (lF_5 : (Nat → Int32)) (lG_5 : (Nat → Int32)) (lR_5 : (Nat → Int32)) : Option ((Int64 × Int32 × Int32 × (Nat → Int32) × (Nat → Int32) × (Nat → Int32) × (Nat → Int32)) ⊕ (Int64 × (Nat → Int32) × Int32 × (Nat → Int32) × (Nat → Int32) × (Nat → Int32) × (Nat → Int32) × Int32 × Int32 × Int32 × Int32 × Int32 × Int32 × Int32)) :=
  if 3 ≤ x5_5 then Option.bind (f_X7_ifPut 0 1 0 7 0 vD vA vL vN lD_5 lS_5 lF_5 lG_5 lR_5) (fun o37 => dz_ok o37 (fun r37 => Option.bind (f_X7_ifPut 0 1 0 7 1 vD vA vL r37.2.1 r37.2.2.1 r37.2.2.2.1 r37.2.2.2.2.1 r37.2.2.2.2.2.1 r37.2.2.2.2.2.2) (fun o53 => dz_ok o53 (fun r53 => Option.bind (f_X7_ifPut 0 1 0 0 0 vD vA vL r53.2.1 r53.2.2.1 r53.2.2.2.1 r53.2.2.2.2.1 r53.2.2.2.2.2.1 r53.2.2.2.2.2.2) (fun o68 => dz_ok o68 (fun r68 => Option.bind (f_X7_ifPut 0 1 0 0 1 vD vA vL r68.2.1 r68.2.2.1 r68.2.2.2.1 r68.2.2.2.2.1 r68.2.2.2.2.2.1 r68.2.2.2.2.2.2) (fun o83 => dz_ok o83 (fun r83 => Option.bind (f_X3_look vD r83.2.1 r83.2.2.1 r83.2.2.2.1 r83.2.2.2.2.1 r83.2.2.2.2.2.1 r83.2.2.2.2.2.2 eA eM) (fun r103 => dz_it (fun s : Int64 × Int32 => f_X7_withWhatWouldBe_L109 vD vA vL hA hF hL r103 r83 s.1 s.2) ((f_X7_mixed (f_X7_mixed (f_X7_mixed (f_X7_mixed x5_3 (Int32.toInt64 r37.1)) (Int32.toInt64 r53.1)) (Int32.toInt64 r68.1)) (Int32.toInt64 r83.1)), 0)))))))))) else Option.bind (f_X7_ifKept x5_5 vD vL vN lD_5 lS_5 lF_5 lG_5 lR_5) (fun o15 => dz_ok o15 (fun r15 => some (.inl ((f_X7_mixed x5_3 (Int32.toInt64 r15.1)), (x5_5 + 1), r15.2.1, r15.2.2.1, r15.2.2.2.1, r15.2.2.2.2.1, r15.2.2.2.2.2))))
def f_X7_withWhatWouldBe (p1 : Int64) (vD : Int32) (vA : Int32) (vL : Int32) (vN : (Nat → Int32)) (lD : Int32) (lS : (Nat → Int32)) (lF : (Nat → Int32)) (lG : (Nat → Int32)) (lR : (Nat → Int32)) (eA : Int32) (eM : Int32) (hA : Int32) (hF : Int32) (hL : Int32) : Option (Int64 × (Nat → Int32) × Int32 × (Nat → Int32) × (Nat → Int32) × (Nat → Int32) × (Nat → Int32) × Int32 × Int32 × Int32 × Int32 × Int32 × Int32 × Int32) :=
  dz_it (fun s : Int64 × Int32 × Int32 × (Nat → Int32) × (Nat → Int32) × (Nat → Int32) × (Nat → Int32) => f_X7_withWhatWouldBe_L5 vD vA vL vN eA eM hA hF hL s.1 s.2.1 s.2.2.1 s.2.2.2.1 s.2.2.2.2.1 s.2.2.2.2.2.1 s.2.2.2.2.2.2) (p1, 0, lD, lS, lF, lG, lR)
abbrev rm_X7_withWhatWouldBe : Room := { frames := 7, cells := 0, slots := 0, locals := 158 }
theorem k_X7_withWhatWouldBe : Cf yX7_withWhatWouldBe wsX7_withWhatWouldBe rm_X7_withWhatWouldBe cX7_withWhatWouldBe 6 (some .long) 1 := ⟨⟨_, rfl⟩, by decide +kernel, by decide +kernel, by decide +kernel⟩
set_option maxRecDepth 100000 in
set_option maxHeartbeats 4000000 in
theorem b_X7_withWhatWouldBe (G : CG) (hl : (gL G).stackTraces = false) (h7 : Nat) (h5 : Nat) (h2 : Nat) (h6 : Nat) (h4 : Nat) (h0 : Nat) (h3 : Nat) (h1 : Nat) (qb : Nat) (qn : Nat) (qm : Nat) (a1 : Nat) (a2 : Nat) (a3 : Nat) (a4 : Nat) (vD : Int32) (vA : Int32) (vL : Int32) (vN : (Nat → Int32)) (vM : (Nat → Int32)) (lD : Int32) (lS : (Nat → Int32)) (lF : (Nat → Int32)) (lG : (Nat → Int32)) (lR : (Nat → Int32)) (eA : Int32) (eM : Int32) (eR : Int32) (hA : Int32) (hF : Int32) (hL : Int32) (hS : Int32) (nB : (Nat → Int32)) (p1 : Int64) (y : Int64 × (Nat → Int32) × Int32 × (Nat → Int32) × (Nat → Int32) × (Nat → Int32) × (Nat → Int32) × Int32 × Int32 × Int32 × Int32 × Int32 × Int32 × Int32) (hf : f_X7_withWhatWouldBe p1 vD vA vL vN lD lS lF lG lR eA eM hA hF hL = some y) : Ct G yX7_withWhatWouldBe wsX7_withWhatWouldBe rm_X7_withWhatWouldBe [.ref h7, .long p1] [(h7, .inr (7, [.ref h5, .ref h2, .ref h6, .ref h4, .ref h0, .ref h3, .ref h1, .ref qb])), (qb, .inl (gI G, 512, .inl nB)), (h5, .inr (5, [.int vD, .int vA, .int vL, .ref qn, .ref qm])), (qn, .inl (gI G, 512, .inl vN)), (qm, .inl (gI G, 512, .inl vM)), (h4, .inr (4, [.int lD, .ref a1, .ref a2, .ref a3, .ref a4])), (a1, .inl (gI G, 8, .inl lS)), (a2, .inl (gI G, 8, .inl lF)), (a3, .inl (gI G, 8, .inl lG)), (a4, .inl (gI G, 8, .inl lR)), (h3, .inr (3, [.int eA, .int eM, .int eR])), (h1, .inr (1, [.int hA, .int hF, .int hL, .int hS]))] (fin1 (some (.long y.1)) [(h7, .inr (7, [.ref h5, .ref h2, .ref h6, .ref h4, .ref h0, .ref h3, .ref h1, .ref qb])), (qb, .inl (gI G, 512, .inl nB)), (h5, .inr (5, [.int vD, .int vA, .int vL, .ref qn, .ref qm])), (qn, .inl (gI G, 512, .inl y.2.1)), (qm, .inl (gI G, 512, .inl vM)), (h4, .inr (4, [.int y.2.2.1, .ref a1, .ref a2, .ref a3, .ref a4])), (a1, .inl (gI G, 8, .inl y.2.2.2.1)), (a2, .inl (gI G, 8, .inl y.2.2.2.2.1)), (a3, .inl (gI G, 8, .inl y.2.2.2.2.2.1)), (a4, .inl (gI G, 8, .inl y.2.2.2.2.2.2.1)), (h3, .inr (3, [.int y.2.2.2.2.2.2.2.1, .int y.2.2.2.2.2.2.2.2.1, .int y.2.2.2.2.2.2.2.2.2.1])), (h1, .inr (1, [.int y.2.2.2.2.2.2.2.2.2.2.1, .int y.2.2.2.2.2.2.2.2.2.2.2.1, .int y.2.2.2.2.2.2.2.2.2.2.2.2.1, .int y.2.2.2.2.2.2.2.2.2.2.2.2.2]))]) 0 0 := by
  refine Ct.of (cc := cX7_withWhatWouldBe) (N := 6) (ret := (some .long)) RX7 (by decide) rfl rfl hl (Nat.le_of_ble_eq_true rfl) (lv := [(0, .ref h7), (1, .long p1)]) rfl (fun X hXG C hex hnm hQ => ?_)
  subst hXG
  unfold f_X7_withWhatWouldBe at hf
  refine j_lload_n C dX7_withWhatWouldBe_0 rfl 1 rfl ?_
  refine j_lstore_n (lv' := [(3, .long p1), (0, .ref h7), (1, .long p1)]) C dX7_withWhatWouldBe_1 rfl (by decide) rfl ?_
  refine j_iconst C (v := 0) dX7_withWhatWouldBe_2 (by decide) ?_
  refine j_istore (lv' := [(5, .int 0), (3, .long p1), (0, .ref h7), (1, .long p1)]) C dX7_withWhatWouldBe_3 (by decide) rfl ?_
  have kk5 : ∀ (n : Nat) (x5_3 : Int64) (x5_5 : Int32) (lD_5 : Int32) (lS_5 : (Nat → Int32)) (lF_5 : (Nat → Int32)) (lG_5 : (Nat → Int32)) (lR_5 : (Nat → Int32)), dz_iter n (fun s : Int64 × Int32 × Int32 × (Nat → Int32) × (Nat → Int32) × (Nat → Int32) × (Nat → Int32) => f_X7_withWhatWouldBe_L5 vD vA vL vN eA eM hA hF hL s.1 s.2.1 s.2.2.1 s.2.2.2.1 s.2.2.2.2.1 s.2.2.2.2.2.1 s.2.2.2.2.2.2) (x5_3, x5_5, lD_5, lS_5, lF_5, lG_5, lR_5) = some y → Jt X [(h7, .inr (7, [.ref h5, .ref h2, .ref h6, .ref h4, .ref h0, .ref h3, .ref h1, .ref qb])), (qb, .inl (gI X.1, 512, .inl nB)), (h5, .inr (5, [.int vD, .int vA, .int vL, .ref qn, .ref qm])), (qn, .inl (gI X.1, 512, .inl vN)), (qm, .inl (gI X.1, 512, .inl vM)), (h4, .inr (4, [.int lD_5, .ref a1, .ref a2, .ref a3, .ref a4])), (a1, .inl (gI X.1, 8, .inl lS_5)), (a2, .inl (gI X.1, 8, .inl lF_5)), (a3, .inl (gI X.1, 8, .inl lG_5)), (a4, .inl (gI X.1, 8, .inl lR_5)), (h3, .inr (3, [.int eA, .int eM, .int eR])), (h1, .inr (1, [.int hA, .int hF, .int hL, .int hS]))] 0 0 5 [(0, .ref h7), (1, .long p1), (3, .long x5_3), (5, .int x5_5)] [] := by
    intro n
    induction n with
    | zero => intro x5_3 x5_5 lD_5 lS_5 lF_5 lG_5 lR_5 hit; exact absurd hit (by simp [dz_iter])
    | succ n ih5 =>
      intro x5_3 x5_5 lD_5 lS_5 lF_5 lG_5 lR_5 hit
      obtain ⟨y5, hf, hg5⟩ := dz_iter_succ hit
      replace hf : f_X7_withWhatWouldBe_L5 vD vA vL vN eA eM hA hF hL x5_3 x5_5 lD_5 lS_5 lF_5 lG_5 lR_5 = some y5 := hf
      unfold f_X7_withWhatWouldBe_L5 at hf
      refine j_iload C dX7_withWhatWouldBe_5 3 rfl ?_
      refine j_iconst C (v := 3) dX7_withWhatWouldBe_7 (by decide) ?_
      refine j_icmp_ge C (tgt := 29) dX7_withWhatWouldBe_8 (by decide) (fun e8 => ?_) (fun e8 => ?_)
      · have hf := (if_pos e8).symm.trans hf
        refine j_lload_n C dX7_withWhatWouldBe_29 rfl 2 rfl ?_
        refine j_aload_n C dX7_withWhatWouldBe_30 rfl 0 rfl ?_
        refine j_iconst C (v := 0) dX7_withWhatWouldBe_31 (by decide) ?_
        refine j_iconst C (v := 1) dX7_withWhatWouldBe_32 (by decide) ?_
        refine j_iconst C (v := 0) dX7_withWhatWouldBe_33 (by decide) ?_
        refine j_bipush C (v := 7) dX7_withWhatWouldBe_34 (by decide) ?_
        refine j_iconst C (v := 0) dX7_withWhatWouldBe_36 (by decide) ?_
        obtain ⟨o37, hc37, hf⟩ := Option.bind_eq_some_iff.mp hf
        obtain ⟨r37, hr37, hf⟩ := dz_ok_some hf
        refine j_cV C (n_X7_ifPut X.1 hl h7 h5 h2 h6 h4 h0 h3 h1 qb qn qm a1 a2 a3 a4 vD vA vL vN vM lD_5 lS_5 lF_5 lG_5 lR_5 nB 0 1 0 7 0 r37 o37 hr37 hc37) kn_X7_ifPut gX7_withWhatWouldBe_X7_ifPut rfl (ci := 7) (q0 := 0) rfl rfl (As := [.int 0, .int 1, .int 0, .int 7, .int 0]) (rest := [.long x5_3]) (st' := [.int r37.1, .long x5_3]) (ws' := [(h7, .inr (7, [.ref h5, .ref h2, .ref h6, .ref h4, .ref h0, .ref h3, .ref h1, .ref qb])), (qb, .inl (gI X.1, 512, .inl nB)), (h5, .inr (5, [.int vD, .int vA, .int vL, .ref qn, .ref qm])), (qn, .inl (gI X.1, 512, .inl r37.2.1)), (qm, .inl (gI X.1, 512, .inl vM)), (h4, .inr (4, [.int r37.2.2.1, .ref a1, .ref a2, .ref a3, .ref a4])), (a1, .inl (gI X.1, 8, .inl r37.2.2.2.1)), (a2, .inl (gI X.1, 8, .inl r37.2.2.2.2.1)), (a3, .inl (gI X.1, 8, .inl r37.2.2.2.2.2.1)), (a4, .inl (gI X.1, 8, .inl r37.2.2.2.2.2.2)), (h3, .inr (3, [.int eA, .int eM, .int eR])), (h1, .inr (1, [.int hA, .int hF, .int hL, .int hS]))]) rfl rfl dX7_withWhatWouldBe_37 [0, 1, 2, 3, 4, 5, 6, 7, 8, 9] [10, 11] [2, 3, 4, 5, 6, 7, 8, 9, 10, 11, 0, 1] rfl rfl rfl rfl rfl rfl ?_
        refine j_i2l C dX7_withWhatWouldBe_40 ?_
        refine j_cS C (c_X7_mixed X.1 hl x5_3 (Int32.toInt64 r37.1)) k_X7_mixed gX7_withWhatWouldBe_X7_mixed (As := [.long x5_3, .long (Int32.toInt64 r37.1)]) (rest := []) (st' := [.long (f_X7_mixed x5_3 (Int32.toInt64 r37.1))]) (ws' := [(h7, .inr (7, [.ref h5, .ref h2, .ref h6, .ref h4, .ref h0, .ref h3, .ref h1, .ref qb])), (qb, .inl (gI X.1, 512, .inl nB)), (h5, .inr (5, [.int vD, .int vA, .int vL, .ref qn, .ref qm])), (qn, .inl (gI X.1, 512, .inl r37.2.1)), (qm, .inl (gI X.1, 512, .inl vM)), (h4, .inr (4, [.int r37.2.2.1, .ref a1, .ref a2, .ref a3, .ref a4])), (a1, .inl (gI X.1, 8, .inl r37.2.2.2.1)), (a2, .inl (gI X.1, 8, .inl r37.2.2.2.2.1)), (a3, .inl (gI X.1, 8, .inl r37.2.2.2.2.2.1)), (a4, .inl (gI X.1, 8, .inl r37.2.2.2.2.2.2)), (h3, .inr (3, [.int eA, .int eM, .int eR])), (h1, .inr (1, [.int hA, .int hF, .int hL, .int hS]))]) rfl rfl dX7_withWhatWouldBe_41 [] [0, 1, 2, 3, 4, 5, 6, 7, 8, 9, 10, 11] [0, 1, 2, 3, 4, 5, 6, 7, 8, 9, 10, 11] rfl rfl rfl rfl rfl rfl ?_
        refine j_lstore_n (lv' := [(3, .long (f_X7_mixed x5_3 (Int32.toInt64 r37.1))), (0, .ref h7), (1, .long p1), (5, .int x5_5)]) C dX7_withWhatWouldBe_44 rfl (by decide) rfl ?_
        refine j_lload_n C dX7_withWhatWouldBe_45 rfl 0 rfl ?_
        refine j_aload_n C dX7_withWhatWouldBe_46 rfl 1 rfl ?_
        refine j_iconst C (v := 0) dX7_withWhatWouldBe_47 (by decide) ?_
        refine j_iconst C (v := 1) dX7_withWhatWouldBe_48 (by decide) ?_
        refine j_iconst C (v := 0) dX7_withWhatWouldBe_49 (by decide) ?_
        refine j_bipush C (v := 7) dX7_withWhatWouldBe_50 (by decide) ?_
        refine j_iconst C (v := 1) dX7_withWhatWouldBe_52 (by decide) ?_
        obtain ⟨o53, hc53, hf⟩ := Option.bind_eq_some_iff.mp hf
        obtain ⟨r53, hr53, hf⟩ := dz_ok_some hf
        refine j_cV C (n_X7_ifPut X.1 hl h7 h5 h2 h6 h4 h0 h3 h1 qb qn qm a1 a2 a3 a4 vD vA vL r37.2.1 vM r37.2.2.1 r37.2.2.2.1 r37.2.2.2.2.1 r37.2.2.2.2.2.1 r37.2.2.2.2.2.2 nB 0 1 0 7 1 r53 o53 hr53 hc53) kn_X7_ifPut gX7_withWhatWouldBe_X7_ifPut rfl (ci := 7) (q0 := 0) rfl rfl (As := [.int 0, .int 1, .int 0, .int 7, .int 1]) (rest := [.long (f_X7_mixed x5_3 (Int32.toInt64 r37.1))]) (st' := [.int r53.1, .long (f_X7_mixed x5_3 (Int32.toInt64 r37.1))]) (ws' := [(h7, .inr (7, [.ref h5, .ref h2, .ref h6, .ref h4, .ref h0, .ref h3, .ref h1, .ref qb])), (qb, .inl (gI X.1, 512, .inl nB)), (h5, .inr (5, [.int vD, .int vA, .int vL, .ref qn, .ref qm])), (qn, .inl (gI X.1, 512, .inl r53.2.1)), (qm, .inl (gI X.1, 512, .inl vM)), (h4, .inr (4, [.int r53.2.2.1, .ref a1, .ref a2, .ref a3, .ref a4])), (a1, .inl (gI X.1, 8, .inl r53.2.2.2.1)), (a2, .inl (gI X.1, 8, .inl r53.2.2.2.2.1)), (a3, .inl (gI X.1, 8, .inl r53.2.2.2.2.2.1)), (a4, .inl (gI X.1, 8, .inl r53.2.2.2.2.2.2)), (h3, .inr (3, [.int eA, .int eM, .int eR])), (h1, .inr (1, [.int hA, .int hF, .int hL, .int hS]))]) rfl rfl dX7_withWhatWouldBe_53 [0, 1, 2, 3, 4, 5, 6, 7, 8, 9] [10, 11] [2, 3, 4, 5, 6, 7, 8, 9, 10, 11, 0, 1] rfl rfl rfl rfl rfl rfl ?_
        refine j_i2l C dX7_withWhatWouldBe_56 ?_
        refine j_cS C (c_X7_mixed X.1 hl (f_X7_mixed x5_3 (Int32.toInt64 r37.1)) (Int32.toInt64 r53.1)) k_X7_mixed gX7_withWhatWouldBe_X7_mixed (As := [.long (f_X7_mixed x5_3 (Int32.toInt64 r37.1)), .long (Int32.toInt64 r53.1)]) (rest := []) (st' := [.long (f_X7_mixed (f_X7_mixed x5_3 (Int32.toInt64 r37.1)) (Int32.toInt64 r53.1))]) (ws' := [(h7, .inr (7, [.ref h5, .ref h2, .ref h6, .ref h4, .ref h0, .ref h3, .ref h1, .ref qb])), (qb, .inl (gI X.1, 512, .inl nB)), (h5, .inr (5, [.int vD, .int vA, .int vL, .ref qn, .ref qm])), (qn, .inl (gI X.1, 512, .inl r53.2.1)), (qm, .inl (gI X.1, 512, .inl vM)), (h4, .inr (4, [.int r53.2.2.1, .ref a1, .ref a2, .ref a3, .ref a4])), (a1, .inl (gI X.1, 8, .inl r53.2.2.2.1)), (a2, .inl (gI X.1, 8, .inl r53.2.2.2.2.1)), (a3, .inl (gI X.1, 8, .inl r53.2.2.2.2.2.1)), (a4, .inl (gI X.1, 8, .inl r53.2.2.2.2.2.2)), (h3, .inr (3, [.int eA, .int eM, .int eR])), (h1, .inr (1, [.int hA, .int hF, .int hL, .int hS]))]) rfl rfl dX7_withWhatWouldBe_57 [] [0, 1, 2, 3, 4, 5, 6, 7, 8, 9, 10, 11] [0, 1, 2, 3, 4, 5, 6, 7, 8, 9, 10, 11] rfl rfl rfl rfl rfl rfl ?_
        refine j_lstore_n (lv' := [(3, .long (f_X7_mixed (f_X7_mixed x5_3 (Int32.toInt64 r37.1)) (Int32.toInt64 r53.1))), (0, .ref h7), (1, .long p1), (5, .int x5_5)]) C dX7_withWhatWouldBe_60 rfl (by decide) rfl ?_
        refine j_lload_n C dX7_withWhatWouldBe_61 rfl 0 rfl ?_
        refine j_aload_n C dX7_withWhatWouldBe_62 rfl 1 rfl ?_
        refine j_iconst C (v := 0) dX7_withWhatWouldBe_63 (by decide) ?_
        refine j_iconst C (v := 1) dX7_withWhatWouldBe_64 (by decide) ?_
        refine j_iconst C (v := 0) dX7_withWhatWouldBe_65 (by decide) ?_
        refine j_iconst C (v := 0) dX7_withWhatWouldBe_66 (by decide) ?_
        refine j_iconst C (v := 0) dX7_withWhatWouldBe_67 (by decide) ?_
        obtain ⟨o68, hc68, hf⟩ := Option.bind_eq_some_iff.mp hf
        obtain ⟨r68, hr68, hf⟩ := dz_ok_some hf
        refine j_cV C (n_X7_ifPut X.1 hl h7 h5 h2 h6 h4 h0 h3 h1 qb qn qm a1 a2 a3 a4 vD vA vL r53.2.1 vM r53.2.2.1 r53.2.2.2.1 r53.2.2.2.2.1 r53.2.2.2.2.2.1 r53.2.2.2.2.2.2 nB 0 1 0 0 0 r68 o68 hr68 hc68) kn_X7_ifPut gX7_withWhatWouldBe_X7_ifPut rfl (ci := 7) (q0 := 0) rfl rfl (As := [.int 0, .int 1, .int 0, .int 0, .int 0]) (rest := [.long (f_X7_mixed (f_X7_mixed x5_3 (Int32.toInt64 r37.1)) (Int32.toInt64 r53.1))]) (st' := [.int r68.1, .long (f_X7_mixed (f_X7_mixed x5_3 (Int32.toInt64 r37.1)) (Int32.toInt64 r53.1))]) (ws' := [(h7, .inr (7, [.ref h5, .ref h2, .ref h6, .ref h4, .ref h0, .ref h3, .ref h1, .ref qb])), (qb, .inl (gI X.1, 512, .inl nB)), (h5, .inr (5, [.int vD, .int vA, .int vL, .ref qn, .ref qm])), (qn, .inl (gI X.1, 512, .inl r68.2.1)), (qm, .inl (gI X.1, 512, .inl vM)), (h4, .inr (4, [.int r68.2.2.1, .ref a1, .ref a2, .ref a3, .ref a4])), (a1, .inl (gI X.1, 8, .inl r68.2.2.2.1)), (a2, .inl (gI X.1, 8, .inl r68.2.2.2.2.1)), (a3, .inl (gI X.1, 8, .inl r68.2.2.2.2.2.1)), (a4, .inl (gI X.1, 8, .inl r68.2.2.2.2.2.2)), (h3, .inr (3, [.int eA, .int eM, .int eR])), (h1, .inr (1, [.int hA, .int hF, .int hL, .int hS]))]) rfl rfl dX7_withWhatWouldBe_68 [0, 1, 2, 3, 4, 5, 6, 7, 8, 9] [10, 11] [2, 3, 4, 5, 6, 7, 8, 9, 10, 11, 0, 1] rfl rfl rfl rfl rfl rfl ?_
        refine j_i2l C dX7_withWhatWouldBe_71 ?_
        refine j_cS C (c_X7_mixed X.1 hl (f_X7_mixed (f_X7_mixed x5_3 (Int32.toInt64 r37.1)) (Int32.toInt64 r53.1)) (Int32.toInt64 r68.1)) k_X7_mixed gX7_withWhatWouldBe_X7_mixed (As := [.long (f_X7_mixed (f_X7_mixed x5_3 (Int32.toInt64 r37.1)) (Int32.toInt64 r53.1)), .long (Int32.toInt64 r68.1)]) (rest := []) (st' := [.long (f_X7_mixed (f_X7_mixed (f_X7_mixed x5_3 (Int32.toInt64 r37.1)) (Int32.toInt64 r53.1)) (Int32.toInt64 r68.1))]) (ws' := [(h7, .inr (7, [.ref h5, .ref h2, .ref h6, .ref h4, .ref h0, .ref h3, .ref h1, .ref qb])), (qb, .inl (gI X.1, 512, .inl nB)), (h5, .inr (5, [.int vD, .int vA, .int vL, .ref qn, .ref qm])), (qn, .inl (gI X.1, 512, .inl r68.2.1)), (qm, .inl (gI X.1, 512, .inl vM)), (h4, .inr (4, [.int r68.2.2.1, .ref a1, .ref a2, .ref a3, .ref a4])), (a1, .inl (gI X.1, 8, .inl r68.2.2.2.1)), (a2, .inl (gI X.1, 8, .inl r68.2.2.2.2.1)), (a3, .inl (gI X.1, 8, .inl r68.2.2.2.2.2.1)), (a4, .inl (gI X.1, 8, .inl r68.2.2.2.2.2.2)), (h3, .inr (3, [.int eA, .int eM, .int eR])), (h1, .inr (1, [.int hA, .int hF, .int hL, .int hS]))]) rfl rfl dX7_withWhatWouldBe_72 [] [0, 1, 2, 3, 4, 5, 6, 7, 8, 9, 10, 11] [0, 1, 2, 3, 4, 5, 6, 7, 8, 9, 10, 11] rfl rfl rfl rfl rfl rfl ?_
        refine j_lstore_n (lv' := [(3, .long (f_X7_mixed (f_X7_mixed (f_X7_mixed x5_3 (Int32.toInt64 r37.1)) (Int32.toInt64 r53.1)) (Int32.toInt64 r68.1))), (0, .ref h7), (1, .long p1), (5, .int x5_5)]) C dX7_withWhatWouldBe_75 rfl (by decide) rfl ?_
        refine j_lload_n C dX7_withWhatWouldBe_76 rfl 0 rfl ?_
        refine j_aload_n C dX7_withWhatWouldBe_77 rfl 1 rfl ?_
        refine j_iconst C (v := 0) dX7_withWhatWouldBe_78 (by decide) ?_
        refine j_iconst C (v := 1) dX7_withWhatWouldBe_79 (by decide) ?_
        refine j_iconst C (v := 0) dX7_withWhatWouldBe_80 (by decide) ?_
        refine j_iconst C (v := 0) dX7_withWhatWouldBe_81 (by decide) ?_
        refine j_iconst C (v := 1) dX7_withWhatWouldBe_82 (by decide) ?_
        obtain ⟨o83, hc83, hf⟩ := Option.bind_eq_some_iff.mp hf
        obtain ⟨r83, hr83, hf⟩ := dz_ok_some hf
        refine j_cV C (n_X7_ifPut X.1 hl h7 h5 h2 h6 h4 h0 h3 h1 qb qn qm a1 a2 a3 a4 vD vA vL r68.2.1 vM r68.2.2.1 r68.2.2.2.1 r68.2.2.2.2.1 r68.2.2.2.2.2.1 r68.2.2.2.2.2.2 nB 0 1 0 0 1 r83 o83 hr83 hc83) kn_X7_ifPut gX7_withWhatWouldBe_X7_ifPut rfl (ci := 7) (q0 := 0) rfl rfl (As := [.int 0, .int 1, .int 0, .int 0, .int 1]) (rest := [.long (f_X7_mixed (f_X7_mixed (f_X7_mixed x5_3 (Int32.toInt64 r37.1)) (Int32.toInt64 r53.1)) (Int32.toInt64 r68.1))]) (st' := [.int r83.1, .long (f_X7_mixed (f_X7_mixed (f_X7_mixed x5_3 (Int32.toInt64 r37.1)) (Int32.toInt64 r53.1)) (Int32.toInt64 r68.1))]) (ws' := [(h7, .inr (7, [.ref h5, .ref h2, .ref h6, .ref h4, .ref h0, .ref h3, .ref h1, .ref qb])), (qb, .inl (gI X.1, 512, .inl nB)), (h5, .inr (5, [.int vD, .int vA, .int vL, .ref qn, .ref qm])), (qn, .inl (gI X.1, 512, .inl r83.2.1)), (qm, .inl (gI X.1, 512, .inl vM)), (h4, .inr (4, [.int r83.2.2.1, .ref a1, .ref a2, .ref a3, .ref a4])), (a1, .inl (gI X.1, 8, .inl r83.2.2.2.1)), (a2, .inl (gI X.1, 8, .inl r83.2.2.2.2.1)), (a3, .inl (gI X.1, 8, .inl r83.2.2.2.2.2.1)), (a4, .inl (gI X.1, 8, .inl r83.2.2.2.2.2.2)), (h3, .inr (3, [.int eA, .int eM, .int eR])), (h1, .inr (1, [.int hA, .int hF, .int hL, .int hS]))]) rfl rfl dX7_withWhatWouldBe_83 [0, 1, 2, 3, 4, 5, 6, 7, 8, 9] [10, 11] [2, 3, 4, 5, 6, 7, 8, 9, 10, 11, 0, 1] rfl rfl rfl rfl rfl rfl ?_
        refine j_i2l C dX7_withWhatWouldBe_86 ?_
        refine j_cS C (c_X7_mixed X.1 hl (f_X7_mixed (f_X7_mixed (f_X7_mixed x5_3 (Int32.toInt64 r37.1)) (Int32.toInt64 r53.1)) (Int32.toInt64 r68.1)) (Int32.toInt64 r83.1)) k_X7_mixed gX7_withWhatWouldBe_X7_mixed (As := [.long (f_X7_mixed (f_X7_mixed (f_X7_mixed x5_3 (Int32.toInt64 r37.1)) (Int32.toInt64 r53.1)) (Int32.toInt64 r68.1)), .long (Int32.toInt64 r83.1)]) (rest := []) (st' := [.long (f_X7_mixed (f_X7_mixed (f_X7_mixed (f_X7_mixed x5_3 (Int32.toInt64 r37.1)) (Int32.toInt64 r53.1)) (Int32.toInt64 r68.1)) (Int32.toInt64 r83.1))]) (ws' := [(h7, .inr (7, [.ref h5, .ref h2, .ref h6, .ref h4, .ref h0, .ref h3, .ref h1, .ref qb])), (qb, .inl (gI X.1, 512, .inl nB)), (h5, .inr (5, [.int vD, .int vA, .int vL, .ref qn, .ref qm])), (qn, .inl (gI X.1, 512, .inl r83.2.1)), (qm, .inl (gI X.1, 512, .inl vM)), (h4, .inr (4, [.int r83.2.2.1, .ref a1, .ref a2, .ref a3, .ref a4])), (a1, .inl (gI X.1, 8, .inl r83.2.2.2.1)), (a2, .inl (gI X.1, 8, .inl r83.2.2.2.2.1)), (a3, .inl (gI X.1, 8, .inl r83.2.2.2.2.2.1)), (a4, .inl (gI X.1, 8, .inl r83.2.2.2.2.2.2)), (h3, .inr (3, [.int eA, .int eM, .int eR])), (h1, .inr (1, [.int hA, .int hF, .int hL, .int hS]))]) rfl rfl dX7_withWhatWouldBe_87 [] [0, 1, 2, 3, 4, 5, 6, 7, 8, 9, 10, 11] [0, 1, 2, 3, 4, 5, 6, 7, 8, 9, 10, 11] rfl rfl rfl rfl rfl rfl ?_
        refine j_lstore_n (lv' := [(3, .long (f_X7_mixed (f_X7_mixed (f_X7_mixed (f_X7_mixed x5_3 (Int32.toInt64 r37.1)) (Int32.toInt64 r53.1)) (Int32.toInt64 r68.1)) (Int32.toInt64 r83.1))), (0, .ref h7), (1, .long p1), (5, .int x5_5)]) C dX7_withWhatWouldBe_90 rfl (by decide) rfl ?_
        refine j_aload_n C dX7_withWhatWouldBe_91 rfl 1 rfl ?_
        refine j_get7 C 0 rfl 5 (by decide) in_X7_withWhatWouldBe_7 lk_X7_withWhatWouldBe_47 rfl dX7_withWhatWouldBe_92 ?_
        refine j_aload_n C dX7_withWhatWouldBe_95 rfl 1 rfl ?_
        refine j_get7 C 0 rfl 0 (by decide) in_X7_withWhatWouldBe_7 lk_X7_withWhatWouldBe_10 rfl dX7_withWhatWouldBe_96 ?_
        refine j_aload_n C dX7_withWhatWouldBe_99 rfl 1 rfl ?_
        refine j_get7 C 0 rfl 3 (by decide) in_X7_withWhatWouldBe_7 lk_X7_withWhatWouldBe_33 rfl dX7_withWhatWouldBe_100 ?_
        obtain ⟨r103, hc103, hf⟩ := Option.bind_eq_some_iff.mp hf
        refine j_cV C (b_X3_look X.1 hl h3 h5 qn qm h4 a1 a2 a3 a4 vD vA vL r83.2.1 vM r83.2.2.1 r83.2.2.2.1 r83.2.2.2.2.1 r83.2.2.2.2.2.1 r83.2.2.2.2.2.2 eA eM eR r103 hc103) k_X3_look gX7_withWhatWouldBe_X3_look rfl (ci := 3) (q0 := 0) rfl rfl (As := [.ref h5, .ref h4]) (rest := []) (st' := []) (ws' := [(h7, .inr (7, [.ref h5, .ref h2, .ref h6, .ref h4, .ref h0, .ref h3, .ref h1, .ref qb])), (qb, .inl (gI X.1, 512, .inl nB)), (h5, .inr (5, [.int vD, .int vA, .int vL, .ref qn, .ref qm])), (qn, .inl (gI X.1, 512, .inl r83.2.1)), (qm, .inl (gI X.1, 512, .inl vM)), (h4, .inr (4, [.int r103.1, .ref a1, .ref a2, .ref a3, .ref a4])), (a1, .inl (gI X.1, 8, .inl r103.2.1)), (a2, .inl (gI X.1, 8, .inl r103.2.2.1)), (a3, .inl (gI X.1, 8, .inl r103.2.2.2.1)), (a4, .inl (gI X.1, 8, .inl r103.2.2.2.2.1)), (h3, .inr (3, [.int r103.2.2.2.2.2.1, .int r103.2.2.2.2.2.2.1, .int r103.2.2.2.2.2.2.2])), (h1, .inr (1, [.int hA, .int hF, .int hL, .int hS]))]) rfl rfl dX7_withWhatWouldBe_103 [10, 2, 3, 4, 5, 6, 7, 8, 9] [0, 1, 11] [0, 1, 4, 5, 6, 7, 8, 9, 10, 11, 3, 2] rfl rfl rfl rfl rfl rfl ?_
        refine j_iconst C (v := 0) dX7_withWhatWouldBe_106 (by decide) ?_
        refine j_istore (lv' := [(5, .int 0), (3, .long (f_X7_mixed (f_X7_mixed (f_X7_mixed (f_X7_mixed x5_3 (Int32.toInt64 r37.1)) (Int32.toInt64 r53.1)) (Int32.toInt64 r68.1)) (Int32.toInt64 r83.1))), (0, .ref h7), (1, .long p1)]) C dX7_withWhatWouldBe_107 (by decide) rfl ?_
        have kk109 : ∀ (n : Nat) (x109_3 : Int64) (x109_5 : Int32), dz_iter n (fun s : Int64 × Int32 => f_X7_withWhatWouldBe_L109 vD vA vL hA hF hL r103 r83 s.1 s.2) (x109_3, x109_5) = some y5 → Jt X [(h7, .inr (7, [.ref h5, .ref h2, .ref h6, .ref h4, .ref h0, .ref h3, .ref h1, .ref qb])), (qb, .inl (gI X.1, 512, .inl nB)), (h5, .inr (5, [.int vD, .int vA, .int vL, .ref qn, .ref qm])), (qn, .inl (gI X.1, 512, .inl r83.2.1)), (qm, .inl (gI X.1, 512, .inl vM)), (h4, .inr (4, [.int r103.1, .ref a1, .ref a2, .ref a3, .ref a4])), (a1, .inl (gI X.1, 8, .inl r103.2.1)), (a2, .inl (gI X.1, 8, .inl r103.2.2.1)), (a3, .inl (gI X.1, 8, .inl r103.2.2.2.1)), (a4, .inl (gI X.1, 8, .inl r103.2.2.2.2.1)), (h3, .inr (3, [.int r103.2.2.2.2.2.1, .int r103.2.2.2.2.2.2.1, .int r103.2.2.2.2.2.2.2])), (h1, .inr (1, [.int hA, .int hF, .int hL, .int hS]))] 0 0 109 [(0, .ref h7), (1, .long p1), (3, .long x109_3), (5, .int x109_5)] [] := by
          intro n
          induction n with
          | zero => intro x109_3 x109_5 hit; exact absurd hit (by simp [dz_iter])
          | succ n ih109 =>
            intro x109_3 x109_5 hit
            obtain ⟨y109, hf, hg109⟩ := dz_iter_succ hit
            replace hf : f_X7_withWhatWouldBe_L109 vD vA vL hA hF hL r103 r83 x109_3 x109_5 = some y109 := hf
            unfold f_X7_withWhatWouldBe_L109 at hf
            refine j_iload C dX7_withWhatWouldBe_109 3 rfl ?_
            refine j_iconst C (v := 2) dX7_withWhatWouldBe_111 (by decide) ?_
            refine j_icmp_gt C (tgt := 136) dX7_withWhatWouldBe_112 (by decide) (fun e112 => ?_) (fun e112 => ?_)
            · have hf := (if_pos e112).symm.trans hf
              refine j_aload_n C dX7_withWhatWouldBe_136 rfl 0 rfl ?_
              refine j_get7 C 0 rfl 6 (by decide) in_X7_withWhatWouldBe_7 lk_X7_withWhatWouldBe_54 rfl dX7_withWhatWouldBe_137 ?_
              refine j_aload_n C dX7_withWhatWouldBe_140 rfl 0 rfl ?_
              refine j_get7 C 0 rfl 0 (by decide) in_X7_withWhatWouldBe_7 lk_X7_withWhatWouldBe_10 rfl dX7_withWhatWouldBe_141 ?_
              obtain ⟨r144, hc144, hf⟩ := Option.bind_eq_some_iff.mp hf
              refine j_cV C (b_X1_look X.1 hl h1 h5 qn qm vD vA vL r83.2.1 vM hA hF hL hS r144 hc144) k_X1_look gX7_withWhatWouldBe_X1_look rfl (ci := 1) (q0 := 0) rfl rfl (As := [.ref h5]) (rest := []) (st' := []) (ws' := [(h7, .inr (7, [.ref h5, .ref h2, .ref h6, .ref h4, .ref h0, .ref h3, .ref h1, .ref qb])), (qb, .inl (gI X.1, 512, .inl nB)), (h5, .inr (5, [.int vD, .int vA, .int vL, .ref qn, .ref qm])), (qn, .inl (gI X.1, 512, .inl r83.2.1)), (qm, .inl (gI X.1, 512, .inl vM)), (h4, .inr (4, [.int r103.1, .ref a1, .ref a2, .ref a3, .ref a4])), (a1, .inl (gI X.1, 8, .inl r103.2.1)), (a2, .inl (gI X.1, 8, .inl r103.2.2.1)), (a3, .inl (gI X.1, 8, .inl r103.2.2.2.1)), (a4, .inl (gI X.1, 8, .inl r103.2.2.2.2.1)), (h3, .inr (3, [.int r103.2.2.2.2.2.1, .int r103.2.2.2.2.2.2.1, .int r103.2.2.2.2.2.2.2])), (h1, .inr (1, [.int r144.1, .int r144.2.1, .int r144.2.2.1, .int r144.2.2.2]))]) rfl rfl dX7_withWhatWouldBe_144 [11, 2, 3, 4] [0, 1, 5, 6, 7, 8, 9, 10] [0, 1, 9, 10, 11, 2, 3, 4, 5, 6, 7, 8] rfl rfl rfl rfl rfl rfl ?_
              refine j_iconst C (v := 0) dX7_withWhatWouldBe_147 (by decide) ?_
              refine j_istore (lv' := [(5, .int 0), (0, .ref h7), (1, .long p1), (3, .long x109_3)]) C dX7_withWhatWouldBe_148 (by decide) rfl ?_
              have kk150 : ∀ (n : Nat) (x150_3 : Int64) (x150_5 : Int32), dz_iter n (fun s : Int64 × Int32 => f_X7_withWhatWouldBe_L150 vD vA vL r103 r144 r83 s.1 s.2) (x150_3, x150_5) = some y109 → Jt X [(h7, .inr (7, [.ref h5, .ref h2, .ref h6, .ref h4, .ref h0, .ref h3, .ref h1, .ref qb])), (qb, .inl (gI X.1, 512, .inl nB)), (h5, .inr (5, [.int vD, .int vA, .int vL, .ref qn, .ref qm])), (qn, .inl (gI X.1, 512, .inl r83.2.1)), (qm, .inl (gI X.1, 512, .inl vM)), (h4, .inr (4, [.int r103.1, .ref a1, .ref a2, .ref a3, .ref a4])), (a1, .inl (gI X.1, 8, .inl r103.2.1)), (a2, .inl (gI X.1, 8, .inl r103.2.2.1)), (a3, .inl (gI X.1, 8, .inl r103.2.2.2.1)), (a4, .inl (gI X.1, 8, .inl r103.2.2.2.2.1)), (h3, .inr (3, [.int r103.2.2.2.2.2.1, .int r103.2.2.2.2.2.2.1, .int r103.2.2.2.2.2.2.2])), (h1, .inr (1, [.int r144.1, .int r144.2.1, .int r144.2.2.1, .int r144.2.2.2]))] 0 0 150 [(0, .ref h7), (1, .long p1), (3, .long x150_3), (5, .int x150_5)] [] := by
                intro n
                induction n with
                | zero => intro x150_3 x150_5 hit; exact absurd hit (by simp [dz_iter])
                | succ n ih150 =>
                  intro x150_3 x150_5 hit
                  obtain ⟨y150, hf, hg150⟩ := dz_iter_succ hit
                  replace hf : f_X7_withWhatWouldBe_L150 vD vA vL r103 r144 r83 x150_3 x150_5 = some y150 := hf
                  unfold f_X7_withWhatWouldBe_L150 at hf
                  refine j_iload C dX7_withWhatWouldBe_150 3 rfl ?_
                  refine j_iconst C (v := 3) dX7_withWhatWouldBe_152 (by decide) ?_
                  refine j_icmp_gt C (tgt := 177) dX7_withWhatWouldBe_153 (by decide) (fun e153 => ?_) (fun e153 => ?_)
                  · have hf := (if_pos e153).symm.trans hf
                    refine j_lload_n C dX7_withWhatWouldBe_177 rfl 2 rfl ?_
                    refine j_aload_n C dX7_withWhatWouldBe_178 rfl 0 rfl ?_
                    obtain ⟨r179, hc179, hf⟩ := Option.bind_eq_some_iff.mp hf
                    refine j_cV C (b_X7_roomShare X.1 hl h7 h5 h2 h6 h4 h0 h3 h1 qb qn qm a1 a2 a3 a4 vD vA vL r83.2.1 vM r103.1 r103.2.1 r103.2.2.1 r103.2.2.2.1 r103.2.2.2.2.1 nB r179 hc179) k_X7_roomShare gX7_withWhatWouldBe_X7_roomShare rfl (ci := 7) (q0 := 0) rfl rfl (As := []) (rest := [.long x150_3]) (st' := [.double r179.1, .long x150_3]) (ws' := [(h7, .inr (7, [.ref h5, .ref h2, .ref h6, .ref h4, .ref h0, .ref h3, .ref h1, .ref qb])), (qb, .inl (gI X.1, 512, .inl nB)), (h5, .inr (5, [.int vD, .int vA, .int vL, .ref qn, .ref qm])), (qn, .inl (gI X.1, 512, .inl r83.2.1)), (qm, .inl (gI X.1, 512, .inl vM)), (h4, .inr (4, [.int r179.2.1, .ref a1, .ref a2, .ref a3, .ref a4])), (a1, .inl (gI X.1, 8, .inl r179.2.2.1)), (a2, .inl (gI X.1, 8, .inl r179.2.2.2.1)), (a3, .inl (gI X.1, 8, .inl r179.2.2.2.2.1)), (a4, .inl (gI X.1, 8, .inl r179.2.2.2.2.2)), (h3, .inr (3, [.int r103.2.2.2.2.2.1, .int r103.2.2.2.2.2.2.1, .int r103.2.2.2.2.2.2.2])), (h1, .inr (1, [.int r144.1, .int r144.2.1, .int r144.2.2.1, .int r144.2.2.2]))]) rfl rfl dX7_withWhatWouldBe_179 [0, 1, 2, 3, 4, 5, 6, 7, 8, 9] [10, 11] [2, 3, 4, 5, 6, 7, 8, 9, 10, 11, 0, 1] rfl rfl rfl rfl rfl rfl ?_
                    obtain ⟨r182, hc182, hf⟩ := Option.bind_eq_some_iff.mp hf
                    refine j_cS C (b_X7_bitsOf X.1 hl r179.1 r182 hc182) k_X7_bitsOf gX7_withWhatWouldBe_X7_bitsOf (As := [.double r179.1]) (rest := [.long x150_3]) (st' := [.long r182, .long x150_3]) (ws' := [(h7, .inr (7, [.ref h5, .ref h2, .ref h6, .ref h4, .ref h0, .ref h3, .ref h1, .ref qb])), (qb, .inl (gI X.1, 512, .inl nB)), (h5, .inr (5, [.int vD, .int vA, .int vL, .ref qn, .ref qm])), (qn, .inl (gI X.1, 512, .inl r83.2.1)), (qm, .inl (gI X.1, 512, .inl vM)), (h4, .inr (4, [.int r179.2.1, .ref a1, .ref a2, .ref a3, .ref a4])), (a1, .inl (gI X.1, 8, .inl r179.2.2.1)), (a2, .inl (gI X.1, 8, .inl r179.2.2.2.1)), (a3, .inl (gI X.1, 8, .inl r179.2.2.2.2.1)), (a4, .inl (gI X.1, 8, .inl r179.2.2.2.2.2)), (h3, .inr (3, [.int r103.2.2.2.2.2.1, .int r103.2.2.2.2.2.2.1, .int r103.2.2.2.2.2.2.2])), (h1, .inr (1, [.int r144.1, .int r144.2.1, .int r144.2.2.1, .int r144.2.2.2]))]) rfl rfl dX7_withWhatWouldBe_182 [] [0, 1, 2, 3, 4, 5, 6, 7, 8, 9, 10, 11] [0, 1, 2, 3, 4, 5, 6, 7, 8, 9, 10, 11] rfl rfl rfl rfl rfl rfl ?_
                    refine j_cS C (c_X7_mixed X.1 hl x150_3 r182) k_X7_mixed gX7_withWhatWouldBe_X7_mixed (As := [.long x150_3, .long r182]) (rest := []) (st' := [.long (f_X7_mixed x150_3 r182)]) (ws' := [(h7, .inr (7, [.ref h5, .ref h2, .ref h6, .ref h4, .ref h0, .ref h3, .ref h1, .ref qb])), (qb, .inl (gI X.1, 512, .inl nB)), (h5, .inr (5, [.int vD, .int vA, .int vL, .ref qn, .ref qm])), (qn, .inl (gI X.1, 512, .inl r83.2.1)), (qm, .inl (gI X.1, 512, .inl vM)), (h4, .inr (4, [.int r179.2.1, .ref a1, .ref a2, .ref a3, .ref a4])), (a1, .inl (gI X.1, 8, .inl r179.2.2.1)), (a2, .inl (gI X.1, 8, .inl r179.2.2.2.1)), (a3, .inl (gI X.1, 8, .inl r179.2.2.2.2.1)), (a4, .inl (gI X.1, 8, .inl r179.2.2.2.2.2)), (h3, .inr (3, [.int r103.2.2.2.2.2.1, .int r103.2.2.2.2.2.2.1, .int r103.2.2.2.2.2.2.2])), (h1, .inr (1, [.int r144.1, .int r144.2.1, .int r144.2.2.1, .int r144.2.2.2]))]) rfl rfl dX7_withWhatWouldBe_185 [] [0, 1, 2, 3, 4, 5, 6, 7, 8, 9, 10, 11] [0, 1, 2, 3, 4, 5, 6, 7, 8, 9, 10, 11] rfl rfl rfl rfl rfl rfl ?_
                    obtain rfl := Option.some.inj hf
                    obtain rfl := dz_go_inr hg150
                    obtain rfl := dz_go_inr hg109
                    obtain rfl := dz_go_inr hg5
                    exact j_lret C hQ rfl dX7_withWhatWouldBe_188 (Nat.zero_le _) (Nat.zero_le _) ⟨rfl, rfl⟩
                  · have hf := (if_neg e153).symm.trans hf
                    refine j_lload_n C dX7_withWhatWouldBe_156 rfl 2 rfl ?_
                    refine j_aload_n C dX7_withWhatWouldBe_157 rfl 0 rfl ?_
                    refine j_get7 C 0 rfl 6 (by decide) in_X7_withWhatWouldBe_7 lk_X7_withWhatWouldBe_54 rfl dX7_withWhatWouldBe_158 ?_
                    refine j_iload C dX7_withWhatWouldBe_161 3 rfl ?_
                    refine j_cV C (c_X1_told X.1 hl h1 r144.1 r144.2.1 r144.2.2.1 r144.2.2.2 x150_5) k_X1_told gX7_withWhatWouldBe_X1_told rfl (ci := 1) (q0 := 0) rfl rfl (As := [.int x150_5]) (rest := [.long x150_3]) (st' := [.int (f_X1_told x150_5 r144.1 r144.2.1 r144.2.2.1 r144.2.2.2), .long x150_3]) (ws' := [(h7, .inr (7, [.ref h5, .ref h2, .ref h6, .ref h4, .ref h0, .ref h3, .ref h1, .ref qb])), (qb, .inl (gI X.1, 512, .inl nB)), (h5, .inr (5, [.int vD, .int vA, .int vL, .ref qn, .ref qm])), (qn, .inl (gI X.1, 512, .inl r83.2.1)), (qm, .inl (gI X.1, 512, .inl vM)), (h4, .inr (4, [.int r103.1, .ref a1, .ref a2, .ref a3, .ref a4])), (a1, .inl (gI X.1, 8, .inl r103.2.1)), (a2, .inl (gI X.1, 8, .inl r103.2.2.1)), (a3, .inl (gI X.1, 8, .inl r103.2.2.2.1)), (a4, .inl (gI X.1, 8, .inl r103.2.2.2.2.1)), (h3, .inr (3, [.int r103.2.2.2.2.2.1, .int r103.2.2.2.2.2.2.1, .int r103.2.2.2.2.2.2.2])), (h1, .inr (1, [.int r144.1, .int r144.2.1, .int r144.2.2.1, .int r144.2.2.2]))]) rfl rfl dX7_withWhatWouldBe_163 [11] [0, 1, 2, 3, 4, 5, 6, 7, 8, 9, 10] [0, 1, 2, 3, 4, 5, 6, 7, 8, 9, 10, 11] rfl rfl rfl rfl rfl rfl ?_
                    refine j_i2l C dX7_withWhatWouldBe_166 ?_
                    refine j_cS C (c_X7_mixed X.1 hl x150_3 (Int32.toInt64 (f_X1_told x150_5 r144.1 r144.2.1 r144.2.2.1 r144.2.2.2))) k_X7_mixed gX7_withWhatWouldBe_X7_mixed (As := [.long x150_3, .long (Int32.toInt64 (f_X1_told x150_5 r144.1 r144.2.1 r144.2.2.1 r144.2.2.2))]) (rest := []) (st' := [.long (f_X7_mixed x150_3 (Int32.toInt64 (f_X1_told x150_5 r144.1 r144.2.1 r144.2.2.1 r144.2.2.2)))]) (ws' := [(h7, .inr (7, [.ref h5, .ref h2, .ref h6, .ref h4, .ref h0, .ref h3, .ref h1, .ref qb])), (qb, .inl (gI X.1, 512, .inl nB)), (h5, .inr (5, [.int vD, .int vA, .int vL, .ref qn, .ref qm])), (qn, .inl (gI X.1, 512, .inl r83.2.1)), (qm, .inl (gI X.1, 512, .inl vM)), (h4, .inr (4, [.int r103.1, .ref a1, .ref a2, .ref a3, .ref a4])), (a1, .inl (gI X.1, 8, .inl r103.2.1)), (a2, .inl (gI X.1, 8, .inl r103.2.2.1)), (a3, .inl (gI X.1, 8, .inl r103.2.2.2.1)), (a4, .inl (gI X.1, 8, .inl r103.2.2.2.2.1)), (h3, .inr (3, [.int r103.2.2.2.2.2.1, .int r103.2.2.2.2.2.2.1, .int r103.2.2.2.2.2.2.2])), (h1, .inr (1, [.int r144.1, .int r144.2.1, .int r144.2.2.1, .int r144.2.2.2]))]) rfl rfl dX7_withWhatWouldBe_167 [] [0, 1, 2, 3, 4, 5, 6, 7, 8, 9, 10, 11] [0, 1, 2, 3, 4, 5, 6, 7, 8, 9, 10, 11] rfl rfl rfl rfl rfl rfl ?_
                    refine j_lstore_n (lv' := [(3, .long (f_X7_mixed x150_3 (Int32.toInt64 (f_X1_told x150_5 r144.1 r144.2.1 r144.2.2.1 r144.2.2.2)))), (0, .ref h7), (1, .long p1), (5, .int x150_5)]) C dX7_withWhatWouldBe_170 rfl (by decide) rfl ?_
                    refine j_iinc (v := (x150_5 + 1)) (lv' := [(5, .int (x150_5 + 1)), (3, .long (f_X7_mixed x150_3 (Int32.toInt64 (f_X1_told x150_5 r144.1 r144.2.1 r144.2.2.1 r144.2.2.2)))), (0, .ref h7), (1, .long p1)]) C dX7_withWhatWouldBe_171 3 rfl (by first | rfl | decide) (by decide) rfl ?_
                    refine j_goto C (tgt := 150) dX7_withWhatWouldBe_174 (by decide) ?_
                    obtain rfl := Option.some.inj hf
                    have hf := dz_go_inl hg150
                    refine j_loc [2, 3, 1, 0] rfl ?_
                    exact ih150 (f_X7_mixed x150_3 (Int32.toInt64 (f_X1_told x150_5 r144.1 r144.2.1 r144.2.2.1 r144.2.2.2))) (x150_5 + 1) hf
              refine j_loc [1, 2, 3, 0] rfl ?_
              exact kk150 _ x109_3 0 hf
            · have hf := (if_neg e112).symm.trans hf
              refine j_lload_n C dX7_withWhatWouldBe_115 rfl 2 rfl ?_
              refine j_aload_n C dX7_withWhatWouldBe_116 rfl 0 rfl ?_
              refine j_get7 C 0 rfl 5 (by decide) in_X7_withWhatWouldBe_7 lk_X7_withWhatWouldBe_47 rfl dX7_withWhatWouldBe_117 ?_
              refine j_iload C dX7_withWhatWouldBe_120 3 rfl ?_
              refine j_cV C (c_X3_told X.1 hl h3 r103.2.2.2.2.2.1 r103.2.2.2.2.2.2.1 r103.2.2.2.2.2.2.2 x109_5) k_X3_told gX7_withWhatWouldBe_X3_told rfl (ci := 3) (q0 := 0) rfl rfl (As := [.int x109_5]) (rest := [.long x109_3]) (st' := [.int (f_X3_told x109_5 r103.2.2.2.2.2.1 r103.2.2.2.2.2.2.1 r103.2.2.2.2.2.2.2), .long x109_3]) (ws' := [(h7, .inr (7, [.ref h5, .ref h2, .ref h6, .ref h4, .ref h0, .ref h3, .ref h1, .ref qb])), (qb, .inl (gI X.1, 512, .inl nB)), (h5, .inr (5, [.int vD, .int vA, .int vL, .ref qn, .ref qm])), (qn, .inl (gI X.1, 512, .inl r83.2.1)), (qm, .inl (gI X.1, 512, .inl vM)), (h4, .inr (4, [.int r103.1, .ref a1, .ref a2, .ref a3, .ref a4])), (a1, .inl (gI X.1, 8, .inl r103.2.1)), (a2, .inl (gI X.1, 8, .inl r103.2.2.1)), (a3, .inl (gI X.1, 8, .inl r103.2.2.2.1)), (a4, .inl (gI X.1, 8, .inl r103.2.2.2.2.1)), (h3, .inr (3, [.int r103.2.2.2.2.2.1, .int r103.2.2.2.2.2.2.1, .int r103.2.2.2.2.2.2.2])), (h1, .inr (1, [.int hA, .int hF, .int hL, .int hS]))]) rfl rfl dX7_withWhatWouldBe_122 [10] [0, 1, 2, 3, 4, 5, 6, 7, 8, 9, 11] [0, 1, 2, 3, 4, 5, 6, 7, 8, 9, 11, 10] rfl rfl rfl rfl rfl rfl ?_
              refine j_i2l C dX7_withWhatWouldBe_125 ?_
              refine j_cS C (c_X7_mixed X.1 hl x109_3 (Int32.toInt64 (f_X3_told x109_5 r103.2.2.2.2.2.1 r103.2.2.2.2.2.2.1 r103.2.2.2.2.2.2.2))) k_X7_mixed gX7_withWhatWouldBe_X7_mixed (As := [.long x109_3, .long (Int32.toInt64 (f_X3_told x109_5 r103.2.2.2.2.2.1 r103.2.2.2.2.2.2.1 r103.2.2.2.2.2.2.2))]) (rest := []) (st' := [.long (f_X7_mixed x109_3 (Int32.toInt64 (f_X3_told x109_5 r103.2.2.2.2.2.1 r103.2.2.2.2.2.2.1 r103.2.2.2.2.2.2.2)))]) (ws' := [(h7, .inr (7, [.ref h5, .ref h2, .ref h6, .ref h4, .ref h0, .ref h3, .ref h1, .ref qb])), (qb, .inl (gI X.1, 512, .inl nB)), (h5, .inr (5, [.int vD, .int vA, .int vL, .ref qn, .ref qm])), (qn, .inl (gI X.1, 512, .inl r83.2.1)), (qm, .inl (gI X.1, 512, .inl vM)), (h4, .inr (4, [.int r103.1, .ref a1, .ref a2, .ref a3, .ref a4])), (a1, .inl (gI X.1, 8, .inl r103.2.1)), (a2, .inl (gI X.1, 8, .inl r103.2.2.1)), (a3, .inl (gI X.1, 8, .inl r103.2.2.2.1)), (a4, .inl (gI X.1, 8, .inl r103.2.2.2.2.1)), (h3, .inr (3, [.int r103.2.2.2.2.2.1, .int r103.2.2.2.2.2.2.1, .int r103.2.2.2.2.2.2.2])), (h1, .inr (1, [.int hA, .int hF, .int hL, .int hS]))]) rfl rfl dX7_withWhatWouldBe_126 [] [0, 1, 2, 3, 4, 5, 6, 7, 8, 9, 10, 11] [0, 1, 2, 3, 4, 5, 6, 7, 8, 9, 10, 11] rfl rfl rfl rfl rfl rfl ?_
              refine j_lstore_n (lv' := [(3, .long (f_X7_mixed x109_3 (Int32.toInt64 (f_X3_told x109_5 r103.2.2.2.2.2.1 r103.2.2.2.2.2.2.1 r103.2.2.2.2.2.2.2)))), (0, .ref h7), (1, .long p1), (5, .int x109_5)]) C dX7_withWhatWouldBe_129 rfl (by decide) rfl ?_
              refine j_iinc (v := (x109_5 + 1)) (lv' := [(5, .int (x109_5 + 1)), (3, .long (f_X7_mixed x109_3 (Int32.toInt64 (f_X3_told x109_5 r103.2.2.2.2.2.1 r103.2.2.2.2.2.2.1 r103.2.2.2.2.2.2.2)))), (0, .ref h7), (1, .long p1)]) C dX7_withWhatWouldBe_130 3 rfl (by first | rfl | decide) (by decide) rfl ?_
              refine j_goto C (tgt := 109) dX7_withWhatWouldBe_133 (by decide) ?_
              obtain rfl := Option.some.inj hf
              have hf := dz_go_inl hg109
              refine j_loc [2, 3, 1, 0] rfl ?_
              exact ih109 (f_X7_mixed x109_3 (Int32.toInt64 (f_X3_told x109_5 r103.2.2.2.2.2.1 r103.2.2.2.2.2.2.1 r103.2.2.2.2.2.2.2))) (x109_5 + 1) hf
        refine j_loc [2, 3, 1, 0] rfl ?_
        exact kk109 _ (f_X7_mixed (f_X7_mixed (f_X7_mixed (f_X7_mixed x5_3 (Int32.toInt64 r37.1)) (Int32.toInt64 r53.1)) (Int32.toInt64 r68.1)) (Int32.toInt64 r83.1)) 0 hf
      · have hf := (if_neg e8).symm.trans hf
        refine j_lload_n C dX7_withWhatWouldBe_11 rfl 2 rfl ?_
        refine j_aload_n C dX7_withWhatWouldBe_12 rfl 0 rfl ?_
        refine j_iload C dX7_withWhatWouldBe_13 3 rfl ?_
        obtain ⟨o15, hc15, hf⟩ := Option.bind_eq_some_iff.mp hf
        obtain ⟨r15, hr15, hf⟩ := dz_ok_some hf
        refine j_cV C (n_X7_ifKept X.1 hl h7 h5 h2 h6 h4 h0 h3 h1 qb qn qm a1 a2 a3 a4 vD vA vL vN vM lD_5 lS_5 lF_5 lG_5 lR_5 nB x5_5 r15 o15 hr15 hc15) kn_X7_ifKept gX7_withWhatWouldBe_X7_ifKept rfl (ci := 7) (q0 := 0) rfl rfl (As := [.int x5_5]) (rest := [.long x5_3]) (st' := [.int r15.1, .long x5_3]) (ws' := [(h7, .inr (7, [.ref h5, .ref h2, .ref h6, .ref h4, .ref h0, .ref h3, .ref h1, .ref qb])), (qb, .inl (gI X.1, 512, .inl nB)), (h5, .inr (5, [.int vD, .int vA, .int vL, .ref qn, .ref qm])), (qn, .inl (gI X.1, 512, .inl vN)), (qm, .inl (gI X.1, 512, .inl vM)), (h4, .inr (4, [.int r15.2.1, .ref a1, .ref a2, .ref a3, .ref a4])), (a1, .inl (gI X.1, 8, .inl r15.2.2.1)), (a2, .inl (gI X.1, 8, .inl r15.2.2.2.1)), (a3, .inl (gI X.1, 8, .inl r15.2.2.2.2.1)), (a4, .inl (gI X.1, 8, .inl r15.2.2.2.2.2)), (h3, .inr (3, [.int eA, .int eM, .int eR])), (h1, .inr (1, [.int hA, .int hF, .int hL, .int hS]))]) rfl rfl dX7_withWhatWouldBe_15 [0, 1, 2, 3, 4, 5, 6, 7, 8, 9] [10, 11] [2, 3, 4, 5, 6, 7, 8, 9, 10, 11, 0, 1] rfl rfl rfl rfl rfl rfl ?_
        refine j_i2l C dX7_withWhatWouldBe_18 ?_
        refine j_cS C (c_X7_mixed X.1 hl x5_3 (Int32.toInt64 r15.1)) k_X7_mixed gX7_withWhatWouldBe_X7_mixed (As := [.long x5_3, .long (Int32.toInt64 r15.1)]) (rest := []) (st' := [.long (f_X7_mixed x5_3 (Int32.toInt64 r15.1))]) (ws' := [(h7, .inr (7, [.ref h5, .ref h2, .ref h6, .ref h4, .ref h0, .ref h3, .ref h1, .ref qb])), (qb, .inl (gI X.1, 512, .inl nB)), (h5, .inr (5, [.int vD, .int vA, .int vL, .ref qn, .ref qm])), (qn, .inl (gI X.1, 512, .inl vN)), (qm, .inl (gI X.1, 512, .inl vM)), (h4, .inr (4, [.int r15.2.1, .ref a1, .ref a2, .ref a3, .ref a4])), (a1, .inl (gI X.1, 8, .inl r15.2.2.1)), (a2, .inl (gI X.1, 8, .inl r15.2.2.2.1)), (a3, .inl (gI X.1, 8, .inl r15.2.2.2.2.1)), (a4, .inl (gI X.1, 8, .inl r15.2.2.2.2.2)), (h3, .inr (3, [.int eA, .int eM, .int eR])), (h1, .inr (1, [.int hA, .int hF, .int hL, .int hS]))]) rfl rfl dX7_withWhatWouldBe_19 [] [0, 1, 2, 3, 4, 5, 6, 7, 8, 9, 10, 11] [0, 1, 2, 3, 4, 5, 6, 7, 8, 9, 10, 11] rfl rfl rfl rfl rfl rfl ?_
        refine j_lstore_n (lv' := [(3, .long (f_X7_mixed x5_3 (Int32.toInt64 r15.1))), (0, .ref h7), (1, .long p1), (5, .int x5_5)]) C dX7_withWhatWouldBe_22 rfl (by decide) rfl ?_
        refine j_iinc (v := (x5_5 + 1)) (lv' := [(5, .int (x5_5 + 1)), (3, .long (f_X7_mixed x5_3 (Int32.toInt64 r15.1))), (0, .ref h7), (1, .long p1)]) C dX7_withWhatWouldBe_23 3 rfl (by first | rfl | decide) (by decide) rfl ?_
        refine j_goto C (tgt := 5) dX7_withWhatWouldBe_26 (by decide) ?_
        obtain rfl := Option.some.inj hf
        have hf := dz_go_inl hg5
        refine j_loc [2, 3, 1, 0] rfl ?_
        exact ih5 (f_X7_mixed x5_3 (Int32.toInt64 r15.1)) (x5_5 + 1) r15.2.1 r15.2.2.1 r15.2.2.2.1 r15.2.2.2.2.1 r15.2.2.2.2.2 hf
  refine j_loc [2, 3, 1, 0] rfl ?_
  exact kk5 _ p1 0 lD lS lF lG lR hf

theorem lk_X7_withText_26 : Cond.fieldLink RX7 26 (TX7 2).1 (TX7 2).2.1 (TX7 2).2.2.1 ∈ wsX7_withText := by decide +kernel
theorem in_X7_withText_7 : ∀ w ∈ wsX70, w ∈ wsX7_withText := by decide +kernel
theorem in_X7_withText_6 : ∀ w ∈ wsX60, w ∈ wsX7_withText := by decide +kernel
def f_X7_withText_L16 (tL : Int32) (tS : (Nat → Int32)) (x16_3 : Int64) (x16_5 : Int32) : Option ((Int64 × Int32) ⊕ (Int64)) :=
  if tL ≤ x16_5 then some (.inr (x16_3)) else some (.inl ((f_X7_mixed x16_3 (Int32.toInt64 (f_X6_sign x16_5 tL tS))), (x16_5 + 1)))
def f_X7_withText (p1 : Int64) (tL : Int32) (tS : (Nat → Int32)) : Option (Int64) :=
  dz_it (fun s : Int64 × Int32 => f_X7_withText_L16 tL tS s.1 s.2) ((f_X7_mixed p1 (Int32.toInt64 tL)), 0)
abbrev rm_X7_withText : Room := { frames := 3, cells := 0, slots := 0, locals := 58 }
theorem k_X7_withText : Cf yX7_withText wsX7_withText rm_X7_withText cX7_withText 6 (some .long) 1 := ⟨⟨_, rfl⟩, by decide +kernel, by decide +kernel, by decide +kernel⟩
set_option maxRecDepth 100000 in
set_option maxHeartbeats 4000000 in
theorem b_X7_withText (G : CG) (hl : (gL G).stackTraces = false) (h7 : Nat) (h5 : Nat) (h2 : Nat) (h6 : Nat) (h4 : Nat) (h0 : Nat) (h3 : Nat) (h1 : Nat) (qb : Nat) (qs : Nat) (tL : Int32) (tS : (Nat → Int32)) (nB : (Nat → Int32)) (p1 : Int64) (y : Int64) (hf : f_X7_withText p1 tL tS = some y) : Ct G yX7_withText wsX7_withText rm_X7_withText [.ref h7, .long p1] [(h7, .inr (7, [.ref h5, .ref h2, .ref h6, .ref h4, .ref h0, .ref h3, .ref h1, .ref qb])), (qb, .inl (gI G, 512, .inl nB)), (h6, .inr (6, [.ref qs, .int tL])), (qs, .inl (gI G, 60, .inl tS))] (fin1 (some (.long y)) [(h7, .inr (7, [.ref h5, .ref h2, .ref h6, .ref h4, .ref h0, .ref h3, .ref h1, .ref qb])), (qb, .inl (gI G, 512, .inl nB)), (h6, .inr (6, [.ref qs, .int tL])), (qs, .inl (gI G, 60, .inl tS))]) 0 0 := by
  refine Ct.of (cc := cX7_withText) (N := 6) (ret := (some .long)) RX7 (by decide) rfl rfl hl (Nat.le_of_ble_eq_true rfl) (lv := [(0, .ref h7), (1, .long p1)]) rfl (fun X hXG C hex hnm hQ => ?_)
  subst hXG
  unfold f_X7_withText at hf
  refine j_lload_n C dX7_withText_0 rfl 1 rfl ?_
  refine j_aload_n C dX7_withText_1 rfl 0 rfl ?_
  refine j_get7 C 0 rfl 2 (by decide) in_X7_withText_7 lk_X7_withText_26 rfl dX7_withText_2 ?_
  refine j_getN6 C 2 rfl 1 (by decide) in_X7_withText_6 nw_X7_176 rfl dX7_withText_5 ?_
  refine j_i2l C dX7_withText_8 ?_
  refine j_cS C (c_X7_mixed X.1 hl p1 (Int32.toInt64 tL)) k_X7_mixed gX7_withText_X7_mixed (As := [.long p1, .long (Int32.toInt64 tL)]) (rest := []) (st' := [.long (f_X7_mixed p1 (Int32.toInt64 tL))]) (ws' := [(h7, .inr (7, [.ref h5, .ref h2, .ref h6, .ref h4, .ref h0, .ref h3, .ref h1, .ref qb])), (qb, .inl (gI X.1, 512, .inl nB)), (h6, .inr (6, [.ref qs, .int tL])), (qs, .inl (gI X.1, 60, .inl tS))]) rfl rfl dX7_withText_9 [] [0, 1, 2, 3] [0, 1, 2, 3] rfl rfl rfl rfl rfl rfl ?_
  refine j_lstore_n (lv' := [(3, .long (f_X7_mixed p1 (Int32.toInt64 tL))), (0, .ref h7), (1, .long p1)]) C dX7_withText_12 rfl (by decide) rfl ?_
  refine j_iconst C (v := 0) dX7_withText_13 (by decide) ?_
  refine j_istore (lv' := [(5, .int 0), (3, .long (f_X7_mixed p1 (Int32.toInt64 tL))), (0, .ref h7), (1, .long p1)]) C dX7_withText_14 (by decide) rfl ?_
  have kk16 : ∀ (n : Nat) (x16_3 : Int64) (x16_5 : Int32), dz_iter n (fun s : Int64 × Int32 => f_X7_withText_L16 tL tS s.1 s.2) (x16_3, x16_5) = some y → Jt X [(h7, .inr (7, [.ref h5, .ref h2, .ref h6, .ref h4, .ref h0, .ref h3, .ref h1, .ref qb])), (qb, .inl (gI X.1, 512, .inl nB)), (h6, .inr (6, [.ref qs, .int tL])), (qs, .inl (gI X.1, 60, .inl tS))] 0 0 16 [(0, .ref h7), (1, .long p1), (3, .long x16_3), (5, .int x16_5)] [] := by
    intro n
    induction n with
    | zero => intro x16_3 x16_5 hit; exact absurd hit (by simp [dz_iter])
    | succ n ih16 =>
      intro x16_3 x16_5 hit
      obtain ⟨y16, hf, hg16⟩ := dz_iter_succ hit
      replace hf : f_X7_withText_L16 tL tS x16_3 x16_5 = some y16 := hf
      unfold f_X7_withText_L16 at hf
      refine j_iload C dX7_withText_16 3 rfl ?_
      refine j_aload_n C dX7_withText_18 rfl 0 rfl ?_
      refine j_get7 C 0 rfl 2 (by decide) in_X7_withText_7 lk_X7_withText_26 rfl dX7_withText_19 ?_
      refine j_getN6 C 2 rfl 1 (by decide) in_X7_withText_6 nw_X7_176 rfl dX7_withText_22 ?_
      refine j_icmp_ge C (tgt := 49) dX7_withText_25 (by decide) (fun e25 => ?_) (fun e25 => ?_)
      · have hf := (if_pos e25).symm.trans hf
        refine j_lload_n C dX7_withText_49 rfl 2 rfl ?_
        obtain rfl := Option.some.inj hf
        obtain rfl := dz_go_inr hg16
        exact j_lret C hQ rfl dX7_withText_50 (Nat.zero_le _) (Nat.zero_le _) ⟨rfl, rfl⟩
      · have hf := (if_neg e25).symm.trans hf
        refine j_lload_n C dX7_withText_28 rfl 2 rfl ?_
        refine j_aload_n C dX7_withText_29 rfl 0 rfl ?_
        refine j_get7 C 0 rfl 2 (by decide) in_X7_withText_7 lk_X7_withText_26 rfl dX7_withText_30 ?_
        refine j_iload C dX7_withText_33 3 rfl ?_
        refine j_cV C (c_X6_sign X.1 hl h6 qs tL tS x16_5) k_X6_sign gX7_withText_X6_sign rfl (ci := 6) (q0 := 0) rfl rfl (As := [.int x16_5]) (rest := [.long x16_3]) (st' := [.int (f_X6_sign x16_5 tL tS), .long x16_3]) (ws' := [(h7, .inr (7, [.ref h5, .ref h2, .ref h6, .ref h4, .ref h0, .ref h3, .ref h1, .ref qb])), (qb, .inl (gI X.1, 512, .inl nB)), (h6, .inr (6, [.ref qs, .int tL])), (qs, .inl (gI X.1, 60, .inl tS))]) rfl rfl dX7_withText_35 [2, 3] [0, 1] [0, 1, 2, 3] rfl rfl rfl rfl rfl rfl ?_
        refine j_i2l C dX7_withText_38 ?_
        refine j_cS C (c_X7_mixed X.1 hl x16_3 (Int32.toInt64 (f_X6_sign x16_5 tL tS))) k_X7_mixed gX7_withText_X7_mixed (As := [.long x16_3, .long (Int32.toInt64 (f_X6_sign x16_5 tL tS))]) (rest := []) (st' := [.long (f_X7_mixed x16_3 (Int32.toInt64 (f_X6_sign x16_5 tL tS)))]) (ws' := [(h7, .inr (7, [.ref h5, .ref h2, .ref h6, .ref h4, .ref h0, .ref h3, .ref h1, .ref qb])), (qb, .inl (gI X.1, 512, .inl nB)), (h6, .inr (6, [.ref qs, .int tL])), (qs, .inl (gI X.1, 60, .inl tS))]) rfl rfl dX7_withText_39 [] [0, 1, 2, 3] [0, 1, 2, 3] rfl rfl rfl rfl rfl rfl ?_
        refine j_lstore_n (lv' := [(3, .long (f_X7_mixed x16_3 (Int32.toInt64 (f_X6_sign x16_5 tL tS)))), (0, .ref h7), (1, .long p1), (5, .int x16_5)]) C dX7_withText_42 rfl (by decide) rfl ?_
        refine j_iinc (v := (x16_5 + 1)) (lv' := [(5, .int (x16_5 + 1)), (3, .long (f_X7_mixed x16_3 (Int32.toInt64 (f_X6_sign x16_5 tL tS)))), (0, .ref h7), (1, .long p1)]) C dX7_withText_43 3 rfl (by first | rfl | decide) (by decide) rfl ?_
        refine j_goto C (tgt := 16) dX7_withText_46 (by decide) ?_
        obtain rfl := Option.some.inj hf
        have hf := dz_go_inl hg16
        refine j_loc [2, 3, 1, 0] rfl ?_
        exact ih16 (f_X7_mixed x16_3 (Int32.toInt64 (f_X6_sign x16_5 tL tS))) (x16_5 + 1) hf
  refine j_loc [2, 3, 1, 0] rfl ?_
  exact kk16 _ (f_X7_mixed p1 (Int32.toInt64 tL)) 0 hf

end
