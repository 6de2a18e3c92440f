noncomputable section
theorem lk_X7_goBack_40 : Cond.fieldLink RX7 40 (TX7 4).1 (TX7 4).2.1 (TX7 4).2.2.1 ∈ wsX7_goBack := by decide +kernel
theorem in_X7_goBack_7 : ∀ w ∈ wsX70, w ∈ wsX7_goBack := by decide +kernel
theorem lk_X7_goBack_10 : Cond.fieldLink RX7 10 (TX7 0).1 (TX7 0).2.1 (TX7 0).2.2.1 ∈ wsX7_goBack := by decide +kernel
theorem lk_X7_goBack_19 : Cond.fieldLink RX7 19 (TX7 1).1 (TX7 1).2.1 (TX7 1).2.2.1 ∈ wsX7_goBack := by decide +kernel
theorem in_X7_goBack_5 : ∀ w ∈ wsX50, w ∈ wsX7_goBack := by decide +kernel
theorem in_X7_goBack_0 : ∀ w ∈ wsX00, w ∈ wsX7_goBack := by decide +kernel
def f_X7_goBack (vD : Int32) (vA : Int32) (vL : Int32) (vN : (Nat → Int32)) (vM : (Nat → Int32)) (oO : Int32) (oS : Int32) (hv : (Nat → SV)) : Option (Int32 × (Nat → Int32) × Int32 × Int32 × (Nat → SV) × Int32 × Int32 × Int32 × Int32) :=
  Option.bind (f_X0_look vD vN vM) (fun r8 => Option.bind (f_X2_save vD vA vL vN vM oO oS hv) (fun r19 => some ((r8.1, (f_X7_copyRow 512 vM 512 vN), r19.1, r19.2.1, r19.2.2, r8.1, r8.2.1, r8.2.2.1, r8.2.2.2))))
abbrev rm_X7_goBack : Room := { frames := 5, cells := 0, slots := 0, locals := 112 }
theorem k_X7_goBack : Cf yX7_goBack wsX7_goBack rm_X7_goBack cX7_goBack 1 (some .int) 0 := ⟨⟨_, rfl⟩, by decide +kernel, by decide +kernel, by decide +kernel⟩
set_option maxRecDepth 100000 in
set_option maxHeartbeats 4000000 in
theorem b_X7_goBack (G : CG) (hl : (gL G).stackTraces = false) (h7 : Nat) (h5 : Nat) (h2 : Nat) (h6 : Nat) (h4 : Nat) (h0 : Nat) (h3 : Nat) (h1 : Nat) (qb : Nat) (qn : Nat) (qm : Nat) (qh : Nat) (sa : Nat → Nat) (sn : Nat → Nat) (sm : Nat → Nat) (vD : Int32) (vA : Int32) (vL : Int32) (vN : (Nat → Int32)) (vM : (Nat → Int32)) (oO : Int32) (oS : Int32) (hv : (Nat → SV)) (dP : Int32) (dS : Int32) (dG : Int32) (dF : Int32) (nB : (Nat → Int32)) (y : Int32 × (Nat → Int32) × Int32 × Int32 × (Nat → SV) × Int32 × Int32 × Int32 × Int32) (hf : f_X7_goBack vD vA vL vN vM oO oS hv = some y) : Ct G yX7_goBack wsX7_goBack rm_X7_goBack [.ref h7] [(h7, .inr (7, [.ref h5, .ref h2, .ref h6, .ref h4, .ref h0, .ref h3, .ref h1, .ref qb])), (qb, .inl (gI G, 512, .inl nB)), (h5, .inr (5, [.int vD, .int vA, .int vL, .ref qn, .ref qm])), (qn, .inl (gI G, 512, .inl vN)), (qm, .inl (gI G, 512, .inl vM)), (h2, .inr (2, [.ref qh, .int oO, .int oS])), (qh, .inl (gO G, 6, .inr (.inr (.inr (.inr (fun k => some (sa k))))))), (sa 0, .inr (5, [.int (hv 0).1, .int (hv 0).2.1, .int (hv 0).2.2.1, .ref (sn 0), .ref (sm 0)])), (sn 0, .inl (gI G, 512, .inl (hv 0).2.2.2.1)), (sm 0, .inl (gI G, 512, .inl (hv 0).2.2.2.2)), (sa 1, .inr (5, [.int (hv 1).1, .int (hv 1).2.1, .int (hv 1).2.2.1, .ref (sn 1), .ref (sm 1)])), (sn 1, .inl (gI G, 512, .inl (hv 1).2.2.2.1)), (sm 1, .inl (gI G, 512, .inl (hv 1).2.2.2.2)), (sa 2, .inr (5, [.int (hv 2).1, .int (hv 2).2.1, .int (hv 2).2.2.1, .ref (sn 2), .ref (sm 2)])), (sn 2, .inl (gI G, 512, .inl (hv 2).2.2.2.1)), (sm 2, .inl (gI G, 512, .inl (hv 2).2.2.2.2)), (sa 3, .inr (5, [.int (hv 3).1, .int (hv 3).2.1, .int (hv 3).2.2.1, .ref (sn 3), .ref (sm 3)])), (sn 3, .inl (gI G, 512, .inl (hv 3).2.2.2.1)), (sm 3, .inl (gI G, 512, .inl (hv 3).2.2.2.2)), (sa 4, .inr (5, [.int (hv 4).1, .int (hv 4).2.1, .int (hv 4).2.2.1, .ref (sn 4), .ref (sm 4)])), (sn 4, .inl (gI G, 512, .inl (hv 4).2.2.2.1)), (sm 4, .inl (gI G, 512, .inl (hv 4).2.2.2.2)), (sa 5, .inr (5, [.int (hv 5).1, .int (hv 5).2.1, .int (hv 5).2.2.1, .ref (sn 5), .ref (sm 5)])), (sn 5, .inl (gI G, 512, .inl (hv 5).2.2.2.1)), (sm 5, .inl (gI G, 512, .inl (hv 5).2.2.2.2)), (h0, .inr (0, [.int dP, .int dS, .int dG, .int dF]))] (fin1 (some (.int y.1)) [(h7, .inr (7, [.ref h5, .ref h2, .ref h6, .ref h4, .ref h0, .ref h3, .ref h1, .ref qb])), (qb, .inl (gI G, 512, .inl nB)), (h5, .inr (5, [.int vD, .int vA, .int vL, .ref qn, .ref qm])), (qn, .inl (gI G, 512, .inl y.2.1)), (qm, .inl (gI G, 512, .inl vM)), (h2, .inr (2, [.ref qh, .int y.2.2.1, .int y.2.2.2.1])), (qh, .inl (gO G, 6, .inr (.inr (.inr (.inr (fun k => some (sa k))))))), (sa 0, .inr (5, [.int (y.2.2.2.2.1 0).1, .int (y.2.2.2.2.1 0).2.1, .int (y.2.2.2.2.1 0).2.2.1, .ref (sn 0), .ref (sm 0)])), (sn 0, .inl (gI G, 512, .inl (y.2.2.2.2.1 0).2.2.2.1)), (sm 0, .inl (gI G, 512, .inl (y.2.2.2.2.1 0).2.2.2.2)), (sa 1, .inr (5, [.int (y.2.2.2.2.1 1).1, .int (y.2.2.2.2.1 1).2.1, .int (y.2.2.2.2.1 1).2.2.1, .ref (sn 1), .ref (sm 1)])), (sn 1, .inl (gI G, 512, .inl (y.2.2.2.2.1 1).2.2.2.1)), (sm 1, .inl (gI G, 512, .inl (y.2.2.2.2.1 1).2.2.2.2)), (sa 2, .inr (5, [.int (y.2.2.2.2.1 2).1, .int (y.2.2.2.2.1 2).2.1, .int (y.2.2.2.2.1 2).2.2.1, .ref (sn 2), .ref (sm 2)])), (sn 2, .inl (gI G, 512, .inl (y.2.2.2.2.1 2).2.2.2.1)), (sm 2, .inl (gI G, 512, .inl (y.2.2.2.2.1 2).2.2.2.2)), (sa 3, .inr (5, [.int (y.2.2.2.2.1 3).1, .int (y.2.2.2.2.1 3).2.1, .int (y.2.2.2.2.1 3).2.2.1, .ref (sn 3), .ref (sm 3)])), (sn 3, .inl (gI G, 512, .inl (y.2.2.2.2.1 3).2.2.2.1)), (sm 3, .inl (gI G, 512, .inl (y.2.2.2.2.1 3).2.2.2.2)), (sa 4, .inr (5, [.int (y.2.2.2.2.1 4).1, .int (y.2.2.2.2.1 4).2.1, .int (y.2.2.2.2.1 4).2.2.1, .ref (sn 4), .ref (sm 4)])), (sn 4, .inl (gI G, 512, .inl (y.2.2.2.2.1 4).2.2.2.1)), (sm 4, .inl (gI G, 512, .inl (y.2.2.2.2.1 4).2.2.2.2)), (sa 5, .inr (5, [.int (y.2.2.2.2.1 5).1, .int (y.2.2.2.2.1 5).2.1, .int (y.2.2.2.2.1 5).2.2.1, .ref (sn 5), .ref (sm 5)])), (sn 5, .inl (gI G, 512, .inl (y.2.2.2.2.1 5).2.2.2.1)), (sm 5, .inl (gI G, 512, .inl (y.2.2.2.2.1 5).2.2.2.2)), (h0, .inr (0, [.int y.2.2.2.2.2.1, .int y.2.2.2.2.2.2.1, .int y.2.2.2.2.2.2.2.1, .int y.2.2.2.2.2.2.2.2]))]) 0 0 := by
  refine Ct.of (cc := cX7_goBack) (N := 1) (ret := (some .int)) RX7 (by decide) rfl rfl hl (Nat.le_of_ble_eq_true rfl) (lv := [(0, .ref h7)]) rfl (fun X hXG C hex hnm hQ => ?_)
  subst hXG
  unfold f_X7_goBack at hf
  refine j_aload_n C dX7_goBack_0 rfl 0 rfl ?_
  refine j_get7 C 0 rfl 4 (by decide) in_X7_goBack_7 lk_X7_goBack_40 rfl dX7_goBack_1 ?_
  refine j_aload_n C dX7_goBack_4 rfl 0 rfl ?_
  refine j_get7 C 0 rfl 0 (by decide) in_X7_goBack_7 lk_X7_goBack_10 rfl dX7_goBack_5 ?_
  obtain ⟨r8, hc8, hf⟩ := Option.bind_eq_some_iff.mp hf
  refine j_cV C (b_X0_look X.1 hl h0 h5 qn qm vD vA vL vN vM dP dS dG dF r8 hc8) k_X0_look gX7_goBack_X0_look rfl (ci := 0) (q0 := 0) rfl rfl (As := [.ref h5]) (rest := []) (st' := []) (ws' := [(h7, .inr (7, [.ref h5, .ref h2, .ref h6, .ref h4, .ref h0, .ref h3, .ref h1, .ref qb])), (qb, .inl (gI X.1, 512, .inl nB)), (h5, .inr (5, [.int vD, .int vA, .int vL, .ref qn, .ref qm])), (qn, .inl (gI X.1, 512, .inl vN)), (qm, .inl (gI X.1, 512, .inl vM)), (h2, .inr (2, [.ref qh, .int oO, .int oS])), (qh, .inl (gO X.1, 6, .inr (.inr (.inr (.inr (fun k => some (sa k))))))), (sa 0, .inr (5, [.int (hv 0).1, .int (hv 0).2.1, .int (hv 0).2.2.1, .ref (sn 0), .ref (sm 0)])), (sn 0, .inl (gI X.1, 512, .inl (hv 0).2.2.2.1)), (sm 0, .inl (gI X.1, 512, .inl (hv 0).2.2.2.2)), (sa 1, .inr (5, [.int (hv 1).1, .int (hv 1).2.1, .int (hv 1).2.2.1, .ref (sn 1), .ref (sm 1)])), (sn 1, .inl (gI X.1, 512, .inl (hv 1).2.2.2.1)), (sm 1, .inl (gI X.1, 512, .inl (hv 1).2.2.2.2)), (sa 2, .inr (5, [.int (hv 2).1, .int (hv 2).2.1, .int (hv 2).2.2.1, .ref (sn 2), .ref (sm 2)])), (sn 2, .inl (gI X.1, 512, .inl (hv 2).2.2.2.1)), (sm 2, .inl (gI X.1, 512, .inl (hv 2).2.2.2.2)), (sa 3, .inr (5, [.int (hv 3).1, .int (hv 3).2.1, .int (hv 3).2.2.1, .ref (sn 3), .ref (sm 3)])), (sn 3, .inl (gI X.1, 512, .inl (hv 3).2.2.2.1)), (sm 3, .inl (gI X.1, 512, .inl (hv 3).2.2.2.2)), (sa 4, .inr (5, [.int (hv 4).1, .int (hv 4).2.1, .int (hv 4).2.2.1, .ref (sn 4), .ref (sm 4)])), (sn 4, .inl (gI X.1, 512, .inl (hv 4).2.2.2.1)), (sm 4, .inl (gI X.1, 512, .inl (hv 4).2.2.2.2)), (sa 5, .inr (5, [.int (hv 5).1, .int (hv 5).2.1, .int (hv 5).2.2.1, .ref (sn 5), .ref (sm 5)])), (sn 5, .inl (gI X.1, 512, .inl (hv 5).2.2.2.1)), (sm 5, .inl (gI X.1, 512, .inl (hv 5).2.2.2.2)), (h0, .inr (0, [.int r8.1, .int r8.2.1, .int r8.2.2.1, .int r8.2.2.2]))]) rfl rfl dX7_goBack_8 [25, 2, 3, 4] [0, 1, 5, 6, 7, 8, 9, 10, 11, 12, 13, 14, 15, 16, 17, 18, 19, 20, 21, 22, 23, 24] [0, 1, 23, 24, 25, 2, 3, 4, 5, 6, 7, 8, 9, 10, 11, 12, 13, 14, 15, 16, 17, 18, 19, 20, 21, 22] rfl rfl rfl rfl rfl rfl ?_
  refine j_aload_n C dX7_goBack_11 rfl 0 rfl ?_
  refine j_get7 C 0 rfl 1 (by decide) in_X7_goBack_7 lk_X7_goBack_19 rfl dX7_goBack_12 ?_
  refine j_aload_n C dX7_goBack_15 rfl 0 rfl ?_
  refine j_get7 C 0 rfl 0 (by decide) in_X7_goBack_7 lk_X7_goBack_10 rfl dX7_goBack_16 ?_
  obtain ⟨r19, hc19, hf⟩ := Option.bind_eq_some_iff.mp hf
  refine j_cV C (b_X2_save X.1 hl h2 qh sa sn sm h5 qn qm vD vA vL vN vM oO oS hv r19 hc19) k_X2_save gX7_goBack_X2_save rfl (ci := 2) (q0 := 0) rfl rfl (As := [.ref h5]) (rest := []) (st' := []) (ws' := [(h7, .inr (7, [.ref h5, .ref h2, .ref h6, .ref h4, .ref h0, .ref h3, .ref h1, .ref qb])), (qb, .inl (gI X.1, 512, .inl nB)), (h5, .inr (5, [.int vD, .int vA, .int vL, .ref qn, .ref qm])), (qn, .inl (gI X.1, 512, .inl vN)), (qm, .inl (gI X.1, 512, .inl vM)), (h2, .inr (2, [.ref qh, .int r19.1, .int r19.2.1])), (qh, .inl (gO X.1, 6, .inr (.inr (.inr (.inr (fun k => some (sa k))))))), (sa 0, .inr (5, [.int (r19.2.2 0).1, .int (r19.2.2 0).2.1, .int (r19.2.2 0).2.2.1, .ref (sn 0), .ref (sm 0)])), (sn 0, .inl (gI X.1, 512, .inl (r19.2.2 0).2.2.2.1)), (sm 0, .inl (gI X.1, 512, .inl (r19.2.2 0).2.2.2.2)), (sa 1, .inr (5, [.int (r19.2.2 1).1, .int (r19.2.2 1).2.1, .int (r19.2.2 1).2.2.1, .ref (sn 1), .ref (sm 1)])), (sn 1, .inl (gI X.1, 512, .inl (r19.2.2 1).2.2.2.1)), (sm 1, .inl (gI X.1, 512, .inl (r19.2.2 1).2.2.2.2)), (sa 2, .inr (5, [.int (r19.2.2 2).1, .int (r19.2.2 2).2.1, .int (r19.2.2 2).2.2.1, .ref (sn 2), .ref (sm 2)])), (sn 2, .inl (gI X.1, 512, .inl (r19.2.2 2).2.2.2.1)), (sm 2, .inl (gI X.1, 512, .inl (r19.2.2 2).2.2.2.2)), (sa 3, .inr (5, [.int (r19.2.2 3).1, .int (r19.2.2 3).2.1, .int (r19.2.2 3).2.2.1, .ref (sn 3), .ref (sm 3)])), (sn 3, .inl (gI X.1, 512, .inl (r19.2.2 3).2.2.2.1)), (sm 3, .inl (gI X.1, 512, .inl (r19.2.2 3).2.2.2.2)), (sa 4, .inr (5, [.int (r19.2.2 4).1, .int (r19.2.2 4).2.1, .int (r19.2.2 4).2.2.1, .ref (sn 4), .ref (sm 4)])), (sn 4, .inl (gI X.1, 512, .inl (r19.2.2 4).2.2.2.1)), (sm 4, .inl (gI X.1, 512, .inl (r19.2.2 4).2.2.2.2)), (sa 5, .inr (5, [.int (r19.2.2 5).1, .int (r19.2.2 5).2.1, .int (r19.2.2 5).2.2.1, .ref (sn 5), .ref (sm 5)])), (sn 5, .inl (gI X.1, 512, .inl (r19.2.2 5).2.2.2.1)), (sm 5, .inl (gI X.1, 512, .inl (r19.2.2 5).2.2.2.2)), (h0, .inr (0, [.int r8.1, .int r8.2.1, .int r8.2.2.1, .int r8.2.2.2]))]) rfl rfl dX7_goBack_19 [5, 6, 7, 8, 9, 10, 11, 12, 13, 14, 15, 16, 17, 18, 19, 20, 21, 22, 23, 24, 2, 3, 4] [0, 1, 25] [0, 1, 23, 24, 25, 3, 4, 5, 6, 7, 8, 9, 10, 11, 12, 13, 14, 15, 16, 17, 18, 19, 20, 21, 22, 2] rfl rfl rfl rfl rfl rfl ?_
  refine j_aload_n C dX7_goBack_22 rfl 0 rfl ?_
  refine j_get7 C 0 rfl 0 (by decide) in_X7_goBack_7 lk_X7_goBack_10 rfl dX7_goBack_23 ?_
  refine j_getN5 C 2 rfl 4 (by decide) in_X7_goBack_5 nw_X7_164 rfl dX7_goBack_26 ?_
  refine j_aload_n C dX7_goBack_29 rfl 0 rfl ?_
  refine j_get7 C 0 rfl 0 (by decide) in_X7_goBack_7 lk_X7_goBack_10 rfl dX7_goBack_30 ?_
  refine j_getN5 C 2 rfl 3 (by decide) in_X7_goBack_5 nw_X7_144 rfl dX7_goBack_33 ?_
  refine j_cS C (c_X7_copyRow X.1 hl qm qn 512 512 vM vN (by decide) (by decide)) k_X7_copyRow gX7_goBack_X7_copyRow (As := [.ref qm, .ref qn]) (rest := []) (st' := []) (ws' := [(h7, .inr (7, [.ref h5, .ref h2, .ref h6, .ref h4, .ref h0, .ref h3, .ref h1, .ref qb])), (qb, .inl (gI X.1, 512, .inl nB)), (h5, .inr (5, [.int vD, .int vA, .int vL, .ref qn, .ref qm])), (qn, .inl (gI X.1, 512, .inl (f_X7_copyRow 512 vM 512 vN))), (qm, .inl (gI X.1, 512, .inl vM)), (h2, .inr (2, [.ref qh, .int r19.1, .int r19.2.1])), (qh, .inl (gO X.1, 6, .inr (.inr (.inr (.inr (fun k => some (sa k))))))), (sa 0, .inr (5, [.int (r19.2.2 0).1, .int (r19.2.2 0).2.1, .int (r19.2.2 0).2.2.1, .ref (sn 0), .ref (sm 0)])), (sn 0, .inl (gI X.1, 512, .inl (r19.2.2 0).2.2.2.1)), (sm 0, .inl (gI X.1, 512, .inl (r19.2.2 0).2.2.2.2)), (sa 1, .inr (5, [.int (r19.2.2 1).1, .int (r19.2.2 1).2.1, .int (r19.2.2 1).2.2.1, .ref (sn 1), .ref (sm 1)])), (sn 1, .inl (gI X.1, 512, .inl (r19.2.2 1).2.2.2.1)), (sm 1, .inl (gI X.1, 512, .inl (r19.2.2 1).2.2.2.2)), (sa 2, .inr (5, [.int (r19.2.2 2).1, .int (r19.2.2 2).2.1, .int (r19.2.2 2).2.2.1, .ref (sn 2), .ref (sm 2)])), (sn 2, .inl (gI X.1, 512, .inl (r19.2.2 2).2.2.2.1)), (sm 2, .inl (gI X.1, 512, .inl (r19.2.2 2).2.2.2.2)), (sa 3, .inr (5, [.int (r19.2.2 3).1, .int (r19.2.2 3).2.1, .int (r19.2.2 3).2.2.1, .ref (sn 3), .ref (sm 3)])), (sn 3, .inl (gI X.1, 512, .inl (r19.2.2 3).2.2.2.1)), (sm 3, .inl (gI X.1, 512, .inl (r19.2.2 3).2.2.2.2)), (sa 4, .inr (5, [.int (r19.2.2 4).1, .int (r19.2.2 4).2.1, .int (r19.2.2 4).2.2.1, .ref (sn 4), .ref (sm 4)])), (sn 4, .inl (gI X.1, 512, .inl (r19.2.2 4).2.2.2.1)), (sm 4, .inl (gI X.1, 512, .inl (r19.2.2 4).2.2.2.2)), (sa 5, .inr (5, [.int (r19.2.2 5).1, .int (r19.2.2 5).2.1, .int (r19.2.2 5).2.2.1, .ref (sn 5), .ref (sm 5)])), (sn 5, .inl (gI X.1, 512, .inl (r19.2.2 5).2.2.2.1)), (sm 5, .inl (gI X.1, 512, .inl (r19.2.2 5).2.2.2.2)), (h0, .inr (0, [.int r8.1, .int r8.2.1, .int r8.2.2.1, .int r8.2.2.2]))]) rfl rfl dX7_goBack_36 [4, 3] [0, 1, 2, 5, 6, 7, 8, 9, 10, 11, 12, 13, 14, 15, 16, 17, 18, 19, 20, 21, 22, 23, 24, 25] [0, 1, 2, 25, 24, 3, 4, 5, 6, 7, 8, 9, 10, 11, 12, 13, 14, 15, 16, 17, 18, 19, 20, 21, 22, 23] rfl rfl rfl rfl rfl rfl ?_
  refine j_aload_n C dX7_goBack_39 rfl 0 rfl ?_
  refine j_get7 C 0 rfl 4 (by decide) in_X7_goBack_7 lk_X7_goBack_40 rfl dX7_goBack_40 ?_
  refine j_getN0 C 25 rfl 0 (by decide) in_X7_goBack_0 nw_X7_167 rfl dX7_goBack_43 ?_
  obtain rfl := Option.some.inj hf
  exact j_iret C hQ rfl dX7_goBack_46 (Nat.zero_le _) (Nat.zero_le _) ⟨rfl, rfl⟩

theorem lk_X7_set_19 : Cond.fieldLink RX7 19 (TX7 1).1 (TX7 1).2.1 (TX7 1).2.2.1 ∈ wsX7_set := by decide +kernel
theorem in_X7_set_7 : ∀ w ∈ wsX70, w ∈ wsX7_set := by decide +kernel
theorem lk_X7_set_10 : Cond.fieldLink RX7 10 (TX7 0).1 (TX7 0).2.1 (TX7 0).2.2.1 ∈ wsX7_set := by decide +kernel
theorem in_X7_set_5 : ∀ w ∈ wsX50, w ∈ wsX7_set := by decide +kernel
theorem tg_X7_set_2 : ∀ w ∈ (vx_atS RX7 66 "java/lang/IllegalArgumentException" ["java/lang/RuntimeException", "java/lang/Exception"]).filter goodWord, w ∈ wsX7_set := by decide +kernel
theorem wd_X7_set_x2 : Cond.classLink RX7 62 "java/lang/IllegalArgumentException" ∈ wsX7_set := by decide +kernel
theorem wd_X7_set_y2 : Cond.initialized "java/lang/IllegalArgumentException" ∈ wsX7_set := by decide +kernel
def f_X7_set (p1 : Int32) (vD : Int32) (vA : Int32) (vL : Int32) (vN : (Nat → Int32)) (vM : (Nat → Int32)) (oO : Int32) (oS : Int32) (hv : (Nat → SV)) : Option (Nat ⊕ (Int32 × Int32 × Int32 × Int32 × (Nat → SV))) :=
  if p1 < 1 then some (.inl 2) else if p1 ≤ 64 then Option.bind (f_X2_save vD vA vL vN vM oO oS hv) (fun r29 => some (.inr (vL, p1, r29.1, r29.2.1, r29.2.2))) else some (.inl 2)
abbrev rm_X7_set : Room := { frames := 6, cells := 1, slots := 6, locals := 112 }
theorem k_X7_set : Cf yX7_set wsX7_set rm_X7_set cX7_set 3 (some .int) 1 := ⟨⟨_, rfl⟩, by decide +kernel, by decide +kernel, by decide +kernel⟩
set_option maxRecDepth 100000 in
set_option maxHeartbeats 4000000 in
theorem b_X7_set (G : CG) (hl : (gL G).stackTraces = false) (h7 : Nat) (h5 : Nat) (h2 : Nat) (h6 : Nat) (h4 : Nat) (h0 : Nat) (h3 : Nat) (h1 : Nat) (qb : Nat) (qn : Nat) (qm : Nat) (qh : Nat) (sa : Nat → Nat) (sn : Nat → Nat) (sm : Nat → Nat) (vD : Int32) (vA : Int32) (vL : Int32) (vN : (Nat → Int32)) (vM : (Nat → Int32)) (oO : Int32) (oS : Int32) (hv : (Nat → SV)) (nB : (Nat → Int32)) (p1 : Int32) (y : Nat ⊕ (Int32 × Int32 × Int32 × Int32 × (Nat → SV))) (hf : f_X7_set p1 vD vA vL vN vM oO oS hv = some y) : Ct G yX7_set wsX7_set rm_X7_set [.ref h7, .int p1] [(h7, .inr (7, [.ref h5, .ref h2, .ref h6, .ref h4, .ref h0, .ref h3, .ref h1, .ref qb])), (qb, .inl (gI G, 512, .inl nB)), (h5, .inr (5, [.int vD, .int vA, .int vL, .ref qn, .ref qm])), (qn, .inl (gI G, 512, .inl vN)), (qm, .inl (gI G, 512, .inl vM)), (h2, .inr (2, [.ref qh, .int oO, .int oS])), (qh, .inl (gO G, 6, .inr (.inr (.inr (.inr (fun k => some (sa k))))))), (sa 0, .inr (5, [.int (hv 0).1, .int (hv 0).2.1, .int (hv 0).2.2.1, .ref (sn 0), .ref (sm 0)])), (sn 0, .inl (gI G, 512, .inl (hv 0).2.2.2.1)), (sm 0, .inl (gI G, 512, .inl (hv 0).2.2.2.2)), (sa 1, .inr (5, [.int (hv 1).1, .int (hv 1).2.1, .int (hv 1).2.2.1, .ref (sn 1), .ref (sm 1)])), (sn 1, .inl (gI G, 512, .inl (hv 1).2.2.2.1)), (sm 1, .inl (gI G, 512, .inl (hv 1).2.2.2.2)), (sa 2, .inr (5, [.int (hv 2).1, .int (hv 2).2.1, .int (hv 2).2.2.1, .ref (sn 2), .ref (sm 2)])), (sn 2, .inl (gI G, 512, .inl (hv 2).2.2.2.1)), (sm 2, .inl (gI G, 512, .inl (hv 2).2.2.2.2)), (sa 3, .inr (5, [.int (hv 3).1, .int (hv 3).2.1, .int (hv 3).2.2.1, .ref (sn 3), .ref (sm 3)])), (sn 3, .inl (gI G, 512, .inl (hv 3).2.2.2.1)), (sm 3, .inl (gI G, 512, .inl (hv 3).2.2.2.2)), (sa 4, .inr (5, [.int (hv 4).1, .int (hv 4).2.1, .int (hv 4).2.2.1, .ref (sn 4), .ref (sm 4)])), (sn 4, .inl (gI G, 512, .inl (hv 4).2.2.2.1)), (sm 4, .inl (gI G, 512, .inl (hv 4).2.2.2.2)), (sa 5, .inr (5, [.int (hv 5).1, .int (hv 5).2.1, .int (hv 5).2.2.1, .ref (sn 5), .ref (sm 5)])), (sn 5, .inl (gI G, 512, .inl (hv 5).2.2.2.1)), (sm 5, .inl (gI G, 512, .inl (hv 5).2.2.2.2))] (finX y (fun u => (some (.int u.1))) [(h7, .inr (7, [.ref h5, .ref h2, .ref h6, .ref h4, .ref h0, .ref h3, .ref h1, .ref qb])), (qb, .inl (gI G, 512, .inl nB)), (h5, .inr (5, [.int vD, .int vA, .int vL, .ref qn, .ref qm])), (qn, .inl (gI G, 512, .inl vN)), (qm, .inl (gI G, 512, .inl vM)), (h2, .inr (2, [.ref qh, .int oO, .int oS])), (qh, .inl (gO G, 6, .inr (.inr (.inr (.inr (fun k => some (sa k))))))), (sa 0, .inr (5, [.int (hv 0).1, .int (hv 0).2.1, .int (hv 0).2.2.1, .ref (sn 0), .ref (sm 0)])), (sn 0, .inl (gI G, 512, .inl (hv 0).2.2.2.1)), (sm 0, .inl (gI G, 512, .inl (hv 0).2.2.2.2)), (sa 1, .inr (5, [.int (hv 1).1, .int (hv 1).2.1, .int (hv 1).2.2.1, .ref (sn 1), .ref (sm 1)])), (sn 1, .inl (gI G, 512, .inl (hv 1).2.2.2.1)), (sm 1, .inl (gI G, 512, .inl (hv 1).2.2.2.2)), (sa 2, .inr (5, [.int (hv 2).1, .int (hv 2).2.1, .int (hv 2).2.2.1, .ref (sn 2), .ref (sm 2)])), (sn 2, .inl (gI G, 512, .inl (hv 2).2.2.2.1)), (sm 2, .inl (gI G, 512, .inl (hv 2).2.2.2.2)), (sa 3, .inr (5, [.int (hv 3).1, .int (hv 3).2.1, .int (hv 3).2.2.1, .ref (sn 3), .ref (sm 3)])), (sn 3, .inl (gI G, 512, .inl (hv 3).2.2.2.1)), (sm 3, .inl (gI G, 512, .inl (hv 3).2.2.2.2)), (sa 4, .inr (5, [.int (hv 4).1, .int (hv 4).2.1, .int (hv 4).2.2.1, .ref (sn 4), .ref (sm 4)])), (sn 4, .inl (gI G, 512, .inl (hv 4).2.2.2.1)), (sm 4, .inl (gI G, 512, .inl (hv 4).2.2.2.2)), (sa 5, .inr (5, [.int (hv 5).1, .int (hv 5).2.1, .int (hv 5).2.2.1, .ref (sn 5), .ref (sm 5)])), (sn 5, .inl (gI G, 512, .inl (hv 5).2.2.2.1)), (sm 5, .inl (gI G, 512, .inl (hv 5).2.2.2.2))] (fun u => [(h7, .inr (7, [.ref h5, .ref h2, .ref h6, .ref h4, .ref h0, .ref h3, .ref h1, .ref qb])), (qb, .inl (gI G, 512, .inl nB)), (h5, .inr (5, [.int vD, .int vA, .int u.2.1, .ref qn, .ref qm])), (qn, .inl (gI G, 512, .inl vN)), (qm, .inl (gI G, 512, .inl vM)), (h2, .inr (2, [.ref qh, .int u.2.2.1, .int u.2.2.2.1])), (qh, .inl (gO G, 6, .inr (.inr (.inr (.inr (fun k => some (sa k))))))), (sa 0, .inr (5, [.int (u.2.2.2.2 0).1, .int (u.2.2.2.2 0).2.1, .int (u.2.2.2.2 0).2.2.1, .ref (sn 0), .ref (sm 0)])), (sn 0, .inl (gI G, 512, .inl (u.2.2.2.2 0).2.2.2.1)), (sm 0, .inl (gI G, 512, .inl (u.2.2.2.2 0).2.2.2.2)), (sa 1, .inr (5, [.int (u.2.2.2.2 1).1, .int (u.2.2.2.2 1).2.1, .int (u.2.2.2.2 1).2.2.1, .ref (sn 1), .ref (sm 1)])), (sn 1, .inl (gI G, 512, .inl (u.2.2.2.2 1).2.2.2.1)), (sm 1, .inl (gI G, 512, .inl (u.2.2.2.2 1).2.2.2.2)), (sa 2, .inr (5, [.int (u.2.2.2.2 2).1, .int (u.2.2.2.2 2).2.1, .int (u.2.2.2.2 2).2.2.1, .ref (sn 2), .ref (sm 2)])), (sn 2, .inl (gI G, 512, .inl (u.2.2.2.2 2).2.2.2.1)), (sm 2, .inl (gI G, 512, .inl (u.2.2.2.2 2).2.2.2.2)), (sa 3, .inr (5, [.int (u.2.2.2.2 3).1, .int (u.2.2.2.2 3).2.1, .int (u.2.2.2.2 3).2.2.1, .ref (sn 3), .ref (sm 3)])), (sn 3, .inl (gI G, 512, .inl (u.2.2.2.2 3).2.2.2.1)), (sm 3, .inl (gI G, 512, .inl (u.2.2.2.2 3).2.2.2.2)), (sa 4, .inr (5, [.int (u.2.2.2.2 4).1, .int (u.2.2.2.2 4).2.1, .int (u.2.2.2.2 4).2.2.1, .ref (sn 4), .ref (sm 4)])), (sn 4, .inl (gI G, 512, .inl (u.2.2.2.2 4).2.2.2.1)), (sm 4, .inl (gI G, 512, .inl (u.2.2.2.2 4).2.2.2.2)), (sa 5, .inr (5, [.int (u.2.2.2.2 5).1, .int (u.2.2.2.2 5).2.1, .int (u.2.2.2.2 5).2.2.1, .ref (sn 5), .ref (sm 5)])), (sn 5, .inl (gI G, 512, .inl (u.2.2.2.2 5).2.2.2.1)), (sm 5, .inl (gI G, 512, .inl (u.2.2.2.2 5).2.2.2.2))])) 1 6 := by
  refine Ct.of (cc := cX7_set) (N := 3) (ret := (some .int)) RX7 (by decide) rfl rfl hl (Nat.le_of_ble_eq_true rfl) (lv := [(0, .ref h7), (1, .int p1)]) rfl (fun X hXG C hex hnm hQ => ?_)
  subst hXG
  unfold f_X7_set at hf
  refine j_iload_n C dX7_set_0 rfl 1 rfl ?_
  refine j_iconst C (v := 1) dX7_set_1 (by decide) ?_
  refine j_icmp_lt C (tgt := 11) dX7_set_2 (by decide) (fun e2 => ?_) (fun e2 => ?_)
  · have hf := (if_pos e2).symm.trans hf
    obtain rfl := Option.some.inj hf
    exact j_throw2 C hQ hex (is := 169) (text := "the setting is out of range") (by decide +kernel) tg_X7_set_2 wd_X7_set_x2 wd_X7_set_y2 dX7_set_11 dX7_set_14 dX7_set_15 dX7_set_17 dX7_set_20 rfl ⟨rfl, rfl⟩
  · have hf := (if_neg e2).symm.trans hf
    refine j_iload_n C dX7_set_5 rfl 1 rfl ?_
    refine j_bipush C (v := 64) dX7_set_6 (by decide) ?_
    refine j_icmp_le C (tgt := 21) dX7_set_8 (by decide) (fun e8 => ?_) (fun e8 => ?_)
    · have hf := (if_pos e8).symm.trans hf
      refine j_aload_n C dX7_set_21 rfl 0 rfl ?_
      refine j_get7 C 0 rfl 1 (by decide) in_X7_set_7 lk_X7_set_19 rfl dX7_set_22 ?_
      refine j_aload_n C dX7_set_25 rfl 0 rfl ?_
      refine j_get7 C 0 rfl 0 (by decide) in_X7_set_7 lk_X7_set_10 rfl dX7_set_26 ?_
      obtain ⟨r29, hc29, hf⟩ := Option.bind_eq_some_iff.mp hf
      refine j_cV C (b_X2_save X.1 hl h2 qh sa sn sm h5 qn qm vD vA vL vN vM oO oS hv r29 hc29) k_X2_save gX7_set_X2_save rfl (ci := 2) (q0 := 0) rfl rfl (As := [.ref h5]) (rest := []) (st' := []) (ws' := [(h7, .inr (7, [.ref h5, .ref h2, .ref h6, .ref h4, .ref h0, .ref h3, .ref h1, .ref qb])), (qb, .inl (gI X.1, 512, .inl nB)), (h5, .inr (5, [.int vD, .int vA, .int vL, .ref qn, .ref qm])), (qn, .inl (gI X.1, 512, .inl vN)), (qm, .inl (gI X.1, 512, .inl vM)), (h2, .inr (2, [.ref qh, .int r29.1, .int r29.2.1])), (qh, .inl (gO X.1, 6, .inr (.inr (.inr (.inr (fun k => some (sa k))))))), (sa 0, .inr (5, [.int (r29.2.2 0).1, .int (r29.2.2 0).2.1, .int (r29.2.2 0).2.2.1, .ref (sn 0), .ref (sm 0)])), (sn 0, .inl (gI X.1, 512, .inl (r29.2.2 0).2.2.2.1)), (sm 0, .inl (gI X.1, 512, .inl (r29.2.2 0).2.2.2.2)), (sa 1, .inr (5, [.int (r29.2.2 1).1, .int (r29.2.2 1).2.1, .int (r29.2.2 1).2.2.1, .ref (sn 1), .ref (sm 1)])), (sn 1, .inl (gI X.1, 512, .inl (r29.2.2 1).2.2.2.1)), (sm 1, .inl (gI X.1, 512, .inl (r29.2.2 1).2.2.2.2)), (sa 2, .inr (5, [.int (r29.2.2 2).1, .int (r29.2.2 2).2.1, .int (r29.2.2 2).2.2.1, .ref (sn 2), .ref (sm 2)])), (sn 2, .inl (gI X.1, 512, .inl (r29.2.2 2).2.2.2.1)), (sm 2, .inl (gI X.1, 512, .inl (r29.2.2 2).2.2.2.2)), (sa 3, .inr (5, [.int (r29.2.2 3).1, .int (r29.2.2 3).2.1, .int (r29.2.2 3).2.2.1, .ref (sn 3), .ref (sm 3)])), (sn 3, .inl (gI X.1, 512, .inl (r29.2.2 3).2.2.2.1)), (sm 3, .inl (gI X.1, 512, .inl (r29.2.2 3).2.2.2.2)), (sa 4, .inr (5, [.int (r29.2.2 4).1, .int (r29.2.2 4).2.1, .int (r29.2.2 4).2.2.1, .ref (sn 4), .ref (sm 4)])), (sn 4, .inl (gI X.1, 512, .inl (r29.2.2 4).2.2.2.1)), (sm 4, .inl (gI X.1, 512, .inl (r29.2.2 4).2.2.2.2)), (sa 5, .inr (5, [.int (r29.2.2 5).1, .int (r29.2.2 5).2.1, .int (r29.2.2 5).2.2.1, .ref (sn 5), .ref (sm 5)])), (sn 5, .inl (gI X.1, 512, .inl (r29.2.2 5).2.2.2.1)), (sm 5, .inl (gI X.1, 512, .inl (r29.2.2 5).2.2.2.2))]) rfl rfl dX7_set_29 [5, 6, 7, 8, 9, 10, 11, 12, 13, 14, 15, 16, 17, 18, 19, 20, 21, 22, 23, 24, 2, 3, 4] [0, 1] [0, 1, 22, 23, 24, 2, 3, 4, 5, 6, 7, 8, 9, 10, 11, 12, 13, 14, 15, 16, 17, 18, 19, 20, 21] rfl rfl rfl rfl rfl rfl ?_
      refine j_aload_n C dX7_set_32 rfl 0 rfl ?_
      refine j_get7 C 0 rfl 0 (by decide) in_X7_set_7 lk_X7_set_10 rfl dX7_set_33 ?_
      refine j_getN5 C 2 rfl 2 (by decide) in_X7_set_5 nw_X7_171 rfl dX7_set_36 ?_
      refine j_istore_n (lv' := [(2, .int vL), (0, .ref h7), (1, .int p1)]) C dX7_set_39 rfl (by decide) rfl ?_
      refine j_aload_n C dX7_set_40 rfl 1 rfl ?_
      refine j_get7 C 0 rfl 0 (by decide) in_X7_set_7 lk_X7_set_10 rfl dX7_set_41 ?_
      refine j_iload_n C dX7_set_44 rfl 2 rfl ?_
      refine j_putN5 (ty := .int) (ws' := [(h7, .inr (7, [.ref h5, .ref h2, .ref h6, .ref h4, .ref h0, .ref h3, .ref h1, .ref qb])), (qb, .inl (gI X.1, 512, .inl nB)), (h5, .inr (5, [.int vD, .int vA, .int p1, .ref qn, .ref qm])), (qn, .inl (gI X.1, 512, .inl vN)), (qm, .inl (gI X.1, 512, .inl vM)), (h2, .inr (2, [.ref qh, .int r29.1, .int r29.2.1])), (qh, .inl (gO X.1, 6, .inr (.inr (.inr (.inr (fun k => some (sa k))))))), (sa 0, .inr (5, [.int (r29.2.2 0).1, .int (r29.2.2 0).2.1, .int (r29.2.2 0).2.2.1, .ref (sn 0), .ref (sm 0)])), (sn 0, .inl (gI X.1, 512, .inl (r29.2.2 0).2.2.2.1)), (sm 0, .inl (gI X.1, 512, .inl (r29.2.2 0).2.2.2.2)), (sa 1, .inr (5, [.int (r29.2.2 1).1, .int (r29.2.2 1).2.1, .int (r29.2.2 1).2.2.1, .ref (sn 1), .ref (sm 1)])), (sn 1, .inl (gI X.1, 512, .inl (r29.2.2 1).2.2.2.1)), (sm 1, .inl (gI X.1, 512, .inl (r29.2.2 1).2.2.2.2)), (sa 2, .inr (5, [.int (r29.2.2 2).1, .int (r29.2.2 2).2.1, .int (r29.2.2 2).2.2.1, .ref (sn 2), .ref (sm 2)])), (sn 2, .inl (gI X.1, 512, .inl (r29.2.2 2).2.2.2.1)), (sm 2, .inl (gI X.1, 512, .inl (r29.2.2 2).2.2.2.2)), (sa 3, .inr (5, [.int (r29.2.2 3).1, .int (r29.2.2 3).2.1, .int (r29.2.2 3).2.2.1, .ref (sn 3), .ref (sm 3)])), (sn 3, .inl (gI X.1, 512, .inl (r29.2.2 3).2.2.2.1)), (sm 3, .inl (gI X.1, 512, .inl (r29.2.2 3).2.2.2.2)), (sa 4, .inr (5, [.int (r29.2.2 4).1, .int (r29.2.2 4).2.1, .int (r29.2.2 4).2.2.1, .ref (sn 4), .ref (sm 4)])), (sn 4, .inl (gI X.1, 512, .inl (r29.2.2 4).2.2.2.1)), (sm 4, .inl (gI X.1, 512, .inl (r29.2.2 4).2.2.2.2)), (sa 5, .inr (5, [.int (r29.2.2 5).1, .int (r29.2.2 5).2.1, .int (r29.2.2 5).2.2.1, .ref (sn 5), .ref (sm 5)])), (sn 5, .inl (gI X.1, 512, .inl (r29.2.2 5).2.2.2.1)), (sm 5, .inl (gI X.1, 512, .inl (r29.2.2 5).2.2.2.2))]) C 2 rfl 2 (by decide) in_X7_set_5 nw_X7_171 rfl (by decide +kernel) rfl rfl (Nat.le_of_ble_eq_true rfl) rfl dX7_set_45 ?_
      refine j_iload_n C dX7_set_48 rfl 0 rfl ?_
      obtain rfl := Option.some.inj hf
      exact j_iret C hQ rfl dX7_set_49 (Nat.zero_le _) (Nat.zero_le _) ⟨rfl, rfl⟩
    · have hf := (if_neg e8).symm.trans hf
      obtain rfl := Option.some.inj hf
      exact j_throw2 C hQ hex (is := 169) (text := "the setting is out of range") (by decide +kernel) tg_X7_set_2 wd_X7_set_x2 wd_X7_set_y2 dX7_set_11 dX7_set_14 dX7_set_15 dX7_set_17 dX7_set_20 rfl ⟨rfl, rfl⟩

theorem lk_X7_append_26 : Cond.fieldLink RX7 26 (TX7 2).1 (TX7 2).2.1 (TX7 2).2.2.1 ∈ wsX7_append := by decide +kernel
theorem in_X7_append_7 : ∀ w ∈ wsX70, w ∈ wsX7_append := by decide +kernel
theorem in_X7_append_6 : ∀ w ∈ wsX60, w ∈ wsX7_append := by decide +kernel
theorem tg_X7_append_2 : ∀ w ∈ (vx_atS RX7 66 "java/lang/IllegalArgumentException" ["java/lang/RuntimeException", "java/lang/Exception"]).filter goodWord, w ∈ wsX7_append := by decide +kernel
theorem wd_X7_append_x2 : Cond.classLink RX7 62 "java/lang/IllegalArgumentException" ∈ wsX7_append := by decide +kernel
theorem wd_X7_append_y2 : Cond.initialized "java/lang/IllegalArgumentException" ∈ wsX7_append := by decide +kernel
theorem tg_X7_append_3 : ∀ w ∈ (vx_atS RX7 119 "java/lang/IllegalStateException" ["java/lang/RuntimeException", "java/lang/Exception"]).filter goodWord, w ∈ wsX7_append := by decide +kernel
theorem wd_X7_append_x3 : Cond.classLink RX7 115 "java/lang/IllegalStateException" ∈ wsX7_append := by decide +kernel
theorem wd_X7_append_y3 : Cond.initialized "java/lang/IllegalStateException" ∈ wsX7_append := by decide +kernel
def f_X7_append (p1 : Int32) (tL : Int32) (tS : (Nat → Int32)) : Nat ⊕ (Int32 × Int32 × (Nat → Int32)) :=
  if p1 < 33 then .inl 2 else if p1 ≤ 126 then if tL < 60 then .inr ((f_X6_attach p1 tL tS).1, (f_X6_attach p1 tL tS).1, (f_X6_attach p1 tL tS).2) else .inl 3 else .inl 2
abbrev rm_X7_append : Room := { frames := 6, cells := 1, slots := 6, locals := 90 }
theorem k_X7_append : Cf yX7_append wsX7_append rm_X7_append cX7_append 2 (some .int) 1 := ⟨⟨_, rfl⟩, by decide +kernel, by decide +kernel, by decide +kernel⟩
set_option maxRecDepth 100000 in
set_option maxHeartbeats 4000000 in
theorem b_X7_append (G : CG) (hl : (gL G).stackTraces = false) (h7 : Nat) (h5 : Nat) (h2 : Nat) (h6 : Nat) (h4 : Nat) (h0 : Nat) (h3 : Nat) (h1 : Nat) (qb : Nat) (qs : Nat) (tL : Int32) (tS : (Nat → Int32)) (nB : (Nat → Int32)) (p1 : Int32) (y : Nat ⊕ (Int32 × Int32 × (Nat → Int32))) (hf : f_X7_append p1 tL tS = y) : Ct G yX7_append wsX7_append rm_X7_append [.ref h7, .int p1] [(h7, .inr (7, [.ref h5, .ref h2, .ref h6, .ref h4, .ref h0, .ref h3, .ref h1, .ref qb])), (qb, .inl (gI G, 512, .inl nB)), (h6, .inr (6, [.ref qs, .int tL])), (qs, .inl (gI G, 60, .inl tS))] (finX y (fun u => (some (.int u.1))) [(h7, .inr (7, [.ref h5, .ref h2, .ref h6, .ref h4, .ref h0, .ref h3, .ref h1, .ref qb])), (qb, .inl (gI G, 512, .inl nB)), (h6, .inr (6, [.ref qs, .int tL])), (qs, .inl (gI G, 60, .inl tS))] (fun u => [(h7, .inr (7, [.ref h5, .ref h2, .ref h6, .ref h4, .ref h0, .ref h3, .ref h1, .ref qb])), (qb, .inl (gI G, 512, .inl nB)), (h6, .inr (6, [.ref qs, .int u.2.1])), (qs, .inl (gI G, 60, .inl u.2.2))])) 1 6 := by
  refine Ct.of (cc := cX7_append) (N := 2) (ret := (some .int)) RX7 (by decide) rfl rfl hl (Nat.le_of_ble_eq_true rfl) (lv := [(0, .ref h7), (1, .int p1)]) rfl (fun X hXG C hex hnm hQ => ?_)
  subst hXG
  unfold f_X7_append at hf
  refine j_iload_n C dX7_append_0 rfl 1 rfl ?_
  refine j_bipush C (v := 33) dX7_append_1 (by decide) ?_
  refine j_icmp_lt C (tgt := 12) dX7_append_3 (by decide) (fun e3 => ?_) (fun e3 => ?_)
  · have hf := (if_pos e3).symm.trans hf
    subst hf
    exact j_throw2 C hQ hex (is := 174) (text := "the code is not 33 to 126") (by decide +kernel) tg_X7_append_2 wd_X7_append_x2 wd_X7_append_y2 dX7_append_12 dX7_append_15 dX7_append_16 dX7_append_18 dX7_append_21 rfl ⟨rfl, rfl⟩
  · have hf := (if_neg e3).symm.trans hf
    refine j_iload_n C dX7_append_6 rfl 1 rfl ?_
    refine j_bipush C (v := 126) dX7_append_7 (by decide) ?_
    refine j_icmp_le C (tgt := 22) dX7_append_9 (by decide) (fun e9 => ?_) (fun e9 => ?_)
    · have hf := (if_pos e9).symm.trans hf
      refine j_aload_n C dX7_append_22 rfl 0 rfl ?_
      refine j_get7 C 0 rfl 2 (by decide) in_X7_append_7 lk_X7_append_26 rfl dX7_append_23 ?_
      refine j_getN6 C 2 rfl 1 (by decide) in_X7_append_6 nw_X7_176 rfl dX7_append_26 ?_
      refine j_bipush C (v := 60) dX7_append_29 (by decide) ?_
      refine j_icmp_lt C (tgt := 44) dX7_append_31 (by decide) (fun e31 => ?_) (fun e31 => ?_)
      · have hf := (if_pos e31).symm.trans hf
        refine j_aload_n C dX7_append_44 rfl 0 rfl ?_
        refine j_get7 C 0 rfl 2 (by decide) in_X7_append_7 lk_X7_append_26 rfl dX7_append_45 ?_
        refine j_iload_n C dX7_append_48 rfl 1 rfl ?_
        refine j_cV C (c_X6_attach X.1 hl h6 qs tL tS p1) k_X6_attach gX7_append_X6_attach rfl (ci := 6) (q0 := 0) rfl rfl (As := [.int p1]) (rest := []) (st' := []) (ws' := [(h7, .inr (7, [.ref h5, .ref h2, .ref h6, .ref h4, .ref h0, .ref h3, .ref h1, .ref qb])), (qb, .inl (gI X.1, 512, .inl nB)), (h6, .inr (6, [.ref qs, .int (f_X6_attach p1 tL tS).1])), (qs, .inl (gI X.1, 60, .inl (f_X6_attach p1 tL tS).2))]) rfl rfl dX7_append_49 [2, 3] [0, 1] [0, 1, 2, 3] rfl rfl rfl rfl rfl rfl ?_
        refine j_aload_n C dX7_append_52 rfl 0 rfl ?_
        refine j_get7 C 0 rfl 2 (by decide) in_X7_append_7 lk_X7_append_26 rfl dX7_append_53 ?_
        refine j_getN6 C 2 rfl 1 (by decide) in_X7_append_6 nw_X7_176 rfl dX7_append_56 ?_
        subst hf
        exact j_iret C hQ rfl dX7_append_59 (Nat.zero_le _) (Nat.zero_le _) ⟨rfl, rfl⟩
      · have hf := (if_neg e31).symm.trans hf
        subst hf
        exact j_throw3 C hQ hex (is := 179) (text := "the buffer is full") (by decide +kernel) tg_X7_append_3 wd_X7_append_x3 wd_X7_append_y3 dX7_append_34 dX7_append_37 dX7_append_38 dX7_append_40 dX7_append_43 rfl ⟨rfl, rfl⟩
    · have hf := (if_neg e9).symm.trans hf
      subst hf
      exact j_throw2 C hQ hex (is := 174) (text := "the code is not 33 to 126") (by decide +kernel) tg_X7_append_2 wd_X7_append_x2 wd_X7_append_y2 dX7_append_12 dX7_append_15 dX7_append_16 dX7_append_18 dX7_append_21 rfl ⟨rfl, rfl⟩

theorem lk_X7_clearBuffer_26 : Cond.fieldLink RX7 26 (TX7 2).1 (TX7 2).2.1 (TX7 2).2.2.1 ∈ wsX7_clearBuffer := by decide +kernel
theorem in_X7_clearBuffer_7 : ∀ w ∈ wsX70, w ∈ wsX7_clearBuffer := by decide +kernel
theorem in_X7_clearBuffer_6 : ∀ w ∈ wsX60, w ∈ wsX7_clearBuffer := by decide +kernel
def f_X7_clearBuffer (tL : Int32) : Int32 × Int32 :=
  (tL, 0)
abbrev rm_X7_clearBuffer : Room := { frames := 1, cells := 0, slots := 0, locals := 16 }
theorem k_X7_clearBuffer : Cf yX7_clearBuffer wsX7_clearBuffer rm_X7_clearBuffer cX7_clearBuffer 2 (some .int) 0 := ⟨⟨_, rfl⟩, by decide +kernel, by decide +kernel, by decide +kernel⟩
set_option maxRecDepth 100000 in
set_option maxHeartbeats 4000000 in
theorem b_X7_clearBuffer (G : CG) (hl : (gL G).stackTraces = false) (h7 : Nat) (h5 : Nat) (h2 : Nat) (h6 : Nat) (h4 : Nat) (h0 : Nat) (h3 : Nat) (h1 : Nat) (qb : Nat) (qs : Nat) (tL : Int32) (tS : (Nat → Int32)) (nB : (Nat → Int32)) (y : Int32 × Int32) (hf : f_X7_clearBuffer tL = y) : Ct G yX7_clearBuffer wsX7_clearBuffer rm_X7_clearBuffer [.ref h7] [(h7, .inr (7, [.ref h5, .ref h2, .ref h6, .ref h4, .ref h0, .ref h3, .ref h1, .ref qb])), (qb, .inl (gI G, 512, .inl nB)), (h6, .inr (6, [.ref qs, .int tL])), (qs, .inl (gI G, 60, .inl tS))] (fin1 (some (.int y.1)) [(h7, .inr (7, [.ref h5, .ref h2, .ref h6, .ref h4, .ref h0, .ref h3, .ref h1, .ref qb])), (qb, .inl (gI G, 512, .inl nB)), (h6, .inr (6, [.ref qs, .int y.2])), (qs, .inl (gI G, 60, .inl tS))]) 0 0 := by
  refine Ct.of (cc := cX7_clearBuffer) (N := 2) (ret := (some .int)) RX7 (by decide) rfl rfl hl (Nat.le_of_ble_eq_true rfl) (lv := [(0, .ref h7)]) rfl (fun X hXG C hex hnm hQ => ?_)
  subst hXG
  unfold f_X7_clearBuffer at hf
  refine j_aload_n C dX7_clearBuffer_0 rfl 0 rfl ?_
  refine j_get7 C 0 rfl 2 (by decide) in_X7_clearBuffer_7 lk_X7_clearBuffer_26 rfl dX7_clearBuffer_1 ?_
  refine j_getN6 C 2 rfl 1 (by decide) in_X7_clearBuffer_6 nw_X7_176 rfl dX7_clearBuffer_4 ?_
  refine j_istore_n (lv' := [(1, .int tL), (0, .ref h7)]) C dX7_clearBuffer_7 rfl (by decide) rfl ?_
  refine j_aload_n C dX7_clearBuffer_8 rfl 1 rfl ?_
  refine j_get7 C 0 rfl 2 (by decide) in_X7_clearBuffer_7 lk_X7_clearBuffer_26 rfl dX7_clearBuffer_9 ?_
  refine j_iconst C (v := 0) dX7_clearBuffer_12 (by decide) ?_
  refine j_putN6 (ty := .int) (ws' := [(h7, .inr (7, [.ref h5, .ref h2, .ref h6, .ref h4, .ref h0, .ref h3, .ref h1, .ref qb])), (qb, .inl (gI X.1, 512, .inl nB)), (h6, .inr (6, [.ref qs, .int 0])), (qs, .inl (gI X.1, 60, .inl tS))]) C 2 rfl 1 (by decide) in_X7_clearBuffer_6 nw_X7_176 rfl (by decide +kernel) rfl rfl (Nat.le_of_ble_eq_true rfl) rfl dX7_clearBuffer_13 ?_
  refine j_iload_n C dX7_clearBuffer_16 rfl 0 rfl ?_
  subst hf
  exact j_iret C hQ rfl dX7_clearBuffer_17 (Nat.zero_le _) (Nat.zero_le _) ⟨rfl, rfl⟩
theorem c_X7_clearBuffer (G : CG) (hl : (gL G).stackTraces = false) (h7 : Nat) (h5 : Nat) (h2 : Nat) (h6 : Nat) (h4 : Nat) (h0 : Nat) (h3 : Nat) (h1 : Nat) (qb : Nat) (qs : Nat) (tL : Int32) (tS : (Nat → Int32)) (nB : (Nat → Int32)) : Ct G yX7_clearBuffer wsX7_clearBuffer rm_X7_clearBuffer [.ref h7] [(h7, .inr (7, [.ref h5, .ref h2, .ref h6, .ref h4, .ref h0, .ref h3, .ref h1, .ref qb])), (qb, .inl (gI G, 512, .inl nB)), (h6, .inr (6, [.ref qs, .int tL])), (qs, .inl (gI G, 60, .inl tS))] (fin1 (some (.int (f_X7_clearBuffer tL).1)) [(h7, .inr (7, [.ref h5, .ref h2, .ref h6, .ref h4, .ref h0, .ref h3, .ref h1, .ref qb])), (qb, .inl (gI G, 512, .inl nB)), (h6, .inr (6, [.ref qs, .int (f_X7_clearBuffer tL).2])), (qs, .inl (gI G, 60, .inl tS))]) 0 0 := b_X7_clearBuffer G hl h7 h5 h2 h6 h4 h0 h3 h1 qb qs tL tS nB _ rfl

theorem lk_X7_firstError_26 : Cond.fieldLink RX7 26 (TX7 2).1 (TX7 2).2.1 (TX7 2).2.2.1 ∈ wsX7_firstError := by decide +kernel
theorem in_X7_firstError_7 : ∀ w ∈ wsX70, w ∈ wsX7_firstError := by decide +kernel
def f_X7_firstError (tL : Int32) (tS : (Nat → Int32)) : Option (Int32) :=
  Option.bind (f_X6_findError tL tS) (fun r4 => some (r4))
abbrev rm_X7_firstError : Room := { frames := 4, cells := 0, slots := 0, locals := 80 }
theorem k_X7_firstError : Cf yX7_firstError wsX7_firstError rm_X7_firstError cX7_firstError 1 (some .int) 0 := ⟨⟨_, rfl⟩, by decide +kernel, by decide +kernel, by decide +kernel⟩
set_option maxRecDepth 100000 in
set_option maxHeartbeats 4000000 in
theorem b_X7_firstError (G : CG) (hl : (gL G).stackTraces = false) (h7 : Nat) (h5 : Nat) (h2 : Nat) (h6 : Nat) (h4 : Nat) (h0 : Nat) (h3 : Nat) (h1 : Nat) (qb : Nat) (qs : Nat) (tL : Int32) (tS : (Nat → Int32)) (nB : (Nat → Int32)) (y : Int32) (hf : f_X7_firstError tL tS = some y) : Ct G yX7_firstError wsX7_firstError rm_X7_firstError [.ref h7] [(h7, .inr (7, [.ref h5, .ref h2, .ref h6, .ref h4, .ref h0, .ref h3, .ref h1, .ref qb])), (qb, .inl (gI G, 512, .inl nB)), (h6, .inr (6, [.ref qs, .int tL])), (qs, .inl (gI G, 60, .inl tS))] (fin1 (some (.int y)) [(h7, .inr (7, [.ref h5, .ref h2, .ref h6, .ref h4, .ref h0, .ref h3, .ref h1, .ref qb])), (qb, .inl (gI G, 512, .inl nB)), (h6, .inr (6, [.ref qs, .int tL])), (qs, .inl (gI G, 60, .inl tS))]) 0 0 := by
  refine Ct.of (cc := cX7_firstError) (N := 1) (ret := (some .int)) RX7 (by decide) rfl rfl hl (Nat.le_of_ble_eq_true rfl) (lv := [(0, .ref h7)]) rfl (fun X hXG C hex hnm hQ => ?_)
  subst hXG
  unfold f_X7_firstError at hf
  refine j_aload_n C dX7_firstError_0 rfl 0 rfl ?_
  refine j_get7 C 0 rfl 2 (by decide) in_X7_firstError_7 lk_X7_firstError_26 rfl dX7_firstError_1 ?_
  obtain ⟨r4, hc4, hf⟩ := Option.bind_eq_some_iff.mp hf
  refine j_cV C (b_X6_findError X.1 hl h6 qs tL tS r4 hc4) k_X6_findError gX7_firstError_X6_findError rfl (ci := 6) (q0 := 0) rfl rfl (As := []) (rest := []) (st' := [.int r4]) (ws' := [(h7, .inr (7, [.ref h5, .ref h2, .ref h6, .ref h4, .ref h0, .ref h3, .ref h1, .ref qb])), (qb, .inl (gI X.1, 512, .inl nB)), (h6, .inr (6, [.ref qs, .int tL])), (qs, .inl (gI X.1, 60, .inl tS))]) rfl rfl dX7_firstError_4 [2, 3] [0, 1] [0, 1, 2, 3] rfl rfl rfl rfl rfl rfl ?_
  obtain rfl := Option.some.inj hf
  exact j_iret C hQ rfl dX7_firstError_7 (Nat.zero_le _) (Nat.zero_le _) ⟨rfl, rfl⟩

theorem lk_X7_doPoint_26 : Cond.fieldLink RX7 26 (TX7 2).1 (TX7 2).2.1 (TX7 2).2.2.1 ∈ wsX7_doPoint := by decide +kernel
theorem in_X7_doPoint_7 : ∀ w ∈ wsX70, w ∈ wsX7_doPoint := by decide +kernel
theorem lk_X7_doPoint_10 : Cond.fieldLink RX7 10 (TX7 0).1 (TX7 0).2.1 (TX7 0).2.2.1 ∈ wsX7_doPoint := by decide +kernel
def f_X7_doPoint_J115 (p1 : Int32) (vD : Int32) (vN : (Nat → Int32)) (tL : Int32) (tS : (Nat → Int32)) (x115_7 : Int32) : Option (Int32 × (Nat → Int32)) :=
  if (f_X7_isNumber x115_7) = 0 then some ((0, vN)) else some ((1, (f_X5_write (f_X5_place ((f_X6_sign p1 tL tS) - 48) ((f_X6_sign (p1 + 1) tL tS) - 48) ((f_X6_sign (p1 + 2) tL tS) - 48) vD) x115_7 vN)))
def f_X7_doPoint (p1 : Int32) (p2 : Int32) (vD : Int32) (vN : (Nat → Int32)) (tL : Int32) (tS : (Nat → Int32)) : Option (Int32 × (Nat → Int32)) :=
  if (f_X5_hasPoint ((f_X6_sign p1 tL tS) - 48) ((f_X6_sign (p1 + 1) tL tS) - 48) ((f_X6_sign (p1 + 2) tL tS) - 48) vD) = 0 then some ((0, vN)) else Option.bind (f_X6_numberIn (p1 + 4) p2 tL tS) (fun r81 => if (f_X6_sign (p1 + 3) tL tS) = 43 then (f_X7_doPoint_J115 p1 vD vN tL tS (r81 + (f_X5_number (f_X5_place ((f_X6_sign p1 tL tS) - 48) ((f_X6_sign (p1 + 1) tL tS) - 48) ((f_X6_sign (p1 + 2) tL tS) - 48) vD) vN))) else (f_X7_doPoint_J115 p1 vD vN tL tS r81))
abbrev rm_X7_doPoint : Room := { frames := 4, cells := 0, slots := 0, locals := 83 }
theorem k_X7_doPoint : Cf yX7_doPoint wsX7_doPoint rm_X7_doPoint cX7_doPoint 8 (some .boolean) 2 := ⟨⟨_, rfl⟩, by decide +kernel, by decide +kernel, by decide +kernel⟩
set_option maxRecDepth 100000 in
set_option maxHeartbeats 4000000 in
theorem b_X7_doPoint (G : CG) (hl : (gL G).stackTraces = false) (h7 : Nat) (h5 : Nat) (h2 : Nat) (h6 : Nat) (h4 : Nat) (h0 : Nat) (h3 : Nat) (h1 : Nat) (qb : Nat) (qn : Nat) (qm : Nat) (qs : Nat) (vD : Int32) (vA : Int32) (vL : Int32) (vN : (Nat → Int32)) (vM : (Nat → Int32)) (tL : Int32) (tS : (Nat → Int32)) (nB : (Nat → Int32)) (p1 : Int32) (p2 : Int32) (y : Int32 × (Nat → Int32)) (hf : f_X7_doPoint p1 p2 vD vN tL tS = some y) : Ct G yX7_doPoint wsX7_doPoint rm_X7_doPoint [.ref h7, .int p1, .int p2] [(h7, .inr (7, [.ref h5, .ref h2, .ref h6, .ref h4, .ref h0, .ref h3, .ref h1, .ref qb])), (qb, .inl (gI G, 512, .inl nB)), (h5, .inr (5, [.int vD, .int vA, .int vL, .ref qn, .ref qm])), (qn, .inl (gI G, 512, .inl vN)), (qm, .inl (gI G, 512, .inl vM)), (h6, .inr (6, [.ref qs, .int tL])), (qs, .inl (gI G, 60, .inl tS))] (fin1 (some (.int y.1)) [(h7, .inr (7, [.ref h5, .ref h2, .ref h6, .ref h4, .ref h0, .ref h3, .ref h1, .ref qb])), (qb, .inl (gI G, 512, .inl nB)), (h5, .inr (5, [.int vD, .int vA, .int vL, .ref qn, .ref qm])), (qn, .inl (gI G, 512, .inl y.2)), (qm, .inl (gI G, 512, .inl vM)), (h6, .inr (6, [.ref qs, .int tL])), (qs, .inl (gI G, 60, .inl tS))]) 0 0 := by
  refine Ct.of (cc := cX7_doPoint) (N := 8) (ret := (some .boolean)) RX7 (by decide) rfl rfl hl (Nat.le_of_ble_eq_true rfl) (lv := [(0, .ref h7), (1, .int p1), (2, .int p2)]) rfl (fun X hXG C hex hnm hQ => ?_)
  subst hXG
  unfold f_X7_doPoint at hf
  refine j_aload_n C dX7_doPoint_0 rfl 0 rfl ?_
  refine j_get7 C 0 rfl 2 (by decide) in_X7_doPoint_7 lk_X7_doPoint_26 rfl dX7_doPoint_1 ?_
  refine j_iload_n C dX7_doPoint_4 rfl 1 rfl ?_
  refine j_cV C (c_X6_sign X.1 hl h6 qs tL tS p1) k_X6_sign gX7_doPoint_X6_sign rfl (ci := 6) (q0 := 0) rfl rfl (As := [.int p1]) (rest := []) (st' := [.int (f_X6_sign p1 tL tS)]) (ws' := [(h7, .inr (7, [.ref h5, .ref h2, .ref h6, .ref h4, .ref h0, .ref h3, .ref h1, .ref qb])), (qb, .inl (gI X.1, 512, .inl nB)), (h5, .inr (5, [.int vD, .int vA, .int vL, .ref qn, .ref qm])), (qn, .inl (gI X.1, 512, .inl vN)), (qm, .inl (gI X.1, 512, .inl vM)), (h6, .inr (6, [.ref qs, .int tL])), (qs, .inl (gI X.1, 60, .inl tS))]) rfl rfl dX7_doPoint_5 [5, 6] [0, 1, 2, 3, 4] [0, 1, 2, 3, 4, 5, 6] rfl rfl rfl rfl rfl rfl ?_
  refine j_bipush C (v := 48) dX7_doPoint_8 (by decide) ?_
  refine j_isub C dX7_doPoint_10 ?_
  refine j_istore_n (lv' := [(3, .int ((f_X6_sign p1 tL tS) - 48)), (0, .ref h7), (1, .int p1), (2, .int p2)]) C dX7_doPoint_11 rfl (by decide) rfl ?_
  refine j_aload_n C dX7_doPoint_12 rfl 1 rfl ?_
  refine j_get7 C 0 rfl 2 (by decide) in_X7_doPoint_7 lk_X7_doPoint_26 rfl dX7_doPoint_13 ?_
  refine j_iload_n C dX7_doPoint_16 rfl 2 rfl ?_
  refine j_iconst C (v := 1) dX7_doPoint_17 (by decide) ?_
  refine j_iadd C dX7_doPoint_18 ?_
  refine j_cV C (c_X6_sign X.1 hl h6 qs tL tS (p1 + 1)) k_X6_sign gX7_doPoint_X6_sign rfl (ci := 6) (q0 := 0) rfl rfl (As := [.int (p1 + 1)]) (rest := []) (st' := [.int (f_X6_sign (p1 + 1) tL tS)]) (ws' := [(h7, .inr (7, [.ref h5, .ref h2, .ref h6, .ref h4, .ref h0, .ref h3, .ref h1, .ref qb])), (qb, .inl (gI X.1, 512, .inl nB)), (h5, .inr (5, [.int vD, .int vA, .int vL, .ref qn, .ref qm])), (qn, .inl (gI X.1, 512, .inl vN)), (qm, .inl (gI X.1, 512, .inl vM)), (h6, .inr (6, [.ref qs, .int tL])), (qs, .inl (gI X.1, 60, .inl tS))]) rfl rfl dX7_doPoint_19 [5, 6] [0, 1, 2, 3, 4] [0, 1, 2, 3, 4, 5, 6] rfl rfl rfl rfl rfl rfl ?_
  refine j_bipush C (v := 48) dX7_doPoint_22 (by decide) ?_
  refine j_isub C dX7_doPoint_24 ?_
  refine j_istore (lv' := [(4, .int ((f_X6_sign (p1 + 1) tL tS) - 48)), (3, .int ((f_X6_sign p1 tL tS) - 48)), (0, .ref h7), (1, .int p1), (2, .int p2)]) C dX7_doPoint_25 (by decide) rfl ?_
  refine j_aload_n C dX7_doPoint_27 rfl 2 rfl ?_
  refine j_get7 C 0 rfl 2 (by decide) in_X7_doPoint_7 lk_X7_doPoint_26 rfl dX7_doPoint_28 ?_
  refine j_iload_n C dX7_doPoint_31 rfl 3 rfl ?_
  refine j_iconst C (v := 2) dX7_doPoint_32 (by decide) ?_
  refine j_iadd C dX7_doPoint_33 ?_
  refine j_cV C (c_X6_sign X.1 hl h6 qs tL tS (p1 + 2)) k_X6_sign gX7_doPoint_X6_sign rfl (ci := 6) (q0 := 0) rfl rfl (As := [.int (p1 + 2)]) (rest := []) (st' := [.int (f_X6_sign (p1 + 2) tL tS)]) (ws' := [(h7, .inr (7, [.ref h5, .ref h2, .ref h6, .ref h4, .ref h0, .ref h3, .ref h1, .ref qb])), (qb, .inl (gI X.1, 512, .inl nB)), (h5, .inr (5, [.int vD, .int vA, .int vL, .ref qn, .ref qm])), (qn, .inl (gI X.1, 512, .inl vN)), (qm, .inl (gI X.1, 512, .inl vM)), (h6, .inr (6, [.ref qs, .int tL])), (qs, .inl (gI X.1, 60, .inl tS))]) rfl rfl dX7_doPoint_34 [5, 6] [0, 1, 2, 3, 4] [0, 1, 2, 3, 4, 5, 6] rfl rfl rfl rfl rfl rfl ?_
  refine j_bipush C (v := 48) dX7_doPoint_37 (by decide) ?_
  refine j_isub C dX7_doPoint_39 ?_
  refine j_istore (lv' := [(5, .int ((f_X6_sign (p1 + 2) tL tS) - 48)), (4, .int ((f_X6_sign (p1 + 1) tL tS) - 48)), (3, .int ((f_X6_sign p1 tL tS) - 48)), (0, .ref h7), (1, .int p1), (2, .int p2)]) C dX7_doPoint_40 (by decide) rfl ?_
  refine j_aload_n C dX7_doPoint_42 rfl 3 rfl ?_
  refine j_get7 C 0 rfl 0 (by decide) in_X7_doPoint_7 lk_X7_doPoint_10 rfl dX7_doPoint_43 ?_
  refine j_iload_n C dX7_doPoint_46 rfl 2 rfl ?_
  refine j_iload C dX7_doPoint_47 1 rfl ?_
  refine j_iload C dX7_doPoint_49 0 rfl ?_
  refine j_cV C (c_X5_hasPoint X.1 hl h5 qn qm vD vA vL vN vM ((f_X6_sign p1 tL tS) - 48) ((f_X6_sign (p1 + 1) tL tS) - 48) ((f_X6_sign (p1 + 2) tL tS) - 48)) k_X5_hasPoint gX7_doPoint_X5_hasPoint rfl (ci := 5) (q0 := 0) rfl rfl (As := [.int ((f_X6_sign p1 tL tS) - 48), .int ((f_X6_sign (p1 + 1) tL tS) - 48), .int ((f_X6_sign (p1 + 2) tL tS) - 48)]) (rest := []) (st' := [.int (f_X5_hasPoint ((f_X6_sign p1 tL tS) - 48) ((f_X6_sign (p1 + 1) tL tS) - 48) ((f_X6_sign (p1 + 2) tL tS) - 48) vD)]) (ws' := [(h7, .inr (7, [.ref h5, .ref h2, .ref h6, .ref h4, .ref h0, .ref h3, .ref h1, .ref qb])), (qb, .inl (gI X.1, 512, .inl nB)), (h5, .inr (5, [.int vD, .int vA, .int vL, .ref qn, .ref qm])), (qn, .inl (gI X.1, 512, .inl vN)), (qm, .inl (gI X.1, 512, .inl vM)), (h6, .inr (6, [.ref qs, .int tL])), (qs, .inl (gI X.1, 60, .inl tS))]) rfl rfl dX7_doPoint_51 [2, 3, 4] [0, 1, 5, 6] [0, 1, 4, 5, 6, 2, 3] rfl rfl rfl rfl rfl rfl ?_
  refine j_if_ne C (tgt := 59) dX7_doPoint_54 (by decide) (fun e54 => ?_) (fun e54 => ?_)
  · have hf := (if_neg e54).symm.trans hf
    refine j_aload_n C dX7_doPoint_59 rfl 3 rfl ?_
    refine j_get7 C 0 rfl 0 (by decide) in_X7_doPoint_7 lk_X7_doPoint_10 rfl dX7_doPoint_60 ?_
    refine j_iload_n C dX7_doPoint_63 rfl 2 rfl ?_
    refine j_iload C dX7_doPoint_64 1 rfl ?_
    refine j_iload C dX7_doPoint_66 0 rfl ?_
    refine j_cV C (c_X5_place X.1 hl h5 qn qm vD vA vL vN vM ((f_X6_sign p1 tL tS) - 48) ((f_X6_sign (p1 + 1) tL tS) - 48) ((f_X6_sign (p1 + 2) tL tS) - 48)) k_X5_place gX7_doPoint_X5_place rfl (ci := 5) (q0 := 0) rfl rfl (As := [.int ((f_X6_sign p1 tL tS) - 48), .int ((f_X6_sign (p1 + 1) tL tS) - 48), .int ((f_X6_sign (p1 + 2) tL tS) - 48)]) (rest := []) (st' := [.int (f_X5_place ((f_X6_sign p1 tL tS) - 48) ((f_X6_sign (p1 + 1) tL tS) - 48) ((f_X6_sign (p1 + 2) tL tS) - 48) vD)]) (ws' := [(h7, .inr (7, [.ref h5, .ref h2, .ref h6, .ref h4, .ref h0, .ref h3, .ref h1, .ref qb])), (qb, .inl (gI X.1, 512, .inl nB)), (h5, .inr (5, [.int vD, .int vA, .int vL, .ref qn, .ref qm])), (qn, .inl (gI X.1, 512, .inl vN)), (qm, .inl (gI X.1, 512, .inl vM)), (h6, .inr (6, [.ref qs, .int tL])), (qs, .inl (gI X.1, 60, .inl tS))]) rfl rfl dX7_doPoint_68 [2, 3, 4] [0, 1, 5, 6] [0, 1, 4, 5, 6, 2, 3] rfl rfl rfl rfl rfl rfl ?_
    refine j_istore (lv' := [(6, .int (f_X5_place ((f_X6_sign p1 tL tS) - 48) ((f_X6_sign (p1 + 1) tL tS) - 48) ((f_X6_sign (p1 + 2) tL tS) - 48) vD)), (5, .int ((f_X6_sign (p1 + 2) tL tS) - 48)), (4, .int ((f_X6_sign (p1 + 1) tL tS) - 48)), (3, .int ((f_X6_sign p1 tL tS) - 48)), (0, .ref h7), (1, .int p1), (2, .int p2)]) C dX7_doPoint_71 (by decide) rfl ?_
    refine j_aload_n C dX7_doPoint_73 rfl 4 rfl ?_
    refine j_get7 C 0 rfl 2 (by decide) in_X7_doPoint_7 lk_X7_doPoint_26 rfl dX7_doPoint_74 ?_
    refine j_iload_n C dX7_doPoint_77 rfl 5 rfl ?_
    refine j_iconst C (v := 4) dX7_doPoint_78 (by decide) ?_
    refine j_iadd C dX7_doPoint_79 ?_
    refine j_iload_n C dX7_doPoint_80 rfl 6 rfl ?_
    obtain ⟨r81, hc81, hf⟩ := Option.bind_eq_some_iff.mp hf
    refine j_cV C (b_X6_numberIn X.1 hl h6 qs tL tS (p1 + 4) p2 r81 hc81) k_X6_numberIn gX7_doPoint_X6_numberIn rfl (ci := 6) (q0 := 0) rfl rfl (As := [.int (p1 + 4), .int p2]) (rest := []) (st' := [.int r81]) (ws' := [(h7, .inr (7, [.ref h5, .ref h2, .ref h6, .ref h4, .ref h0, .ref h3, .ref h1, .ref qb])), (qb, .inl (gI X.1, 512, .inl nB)), (h5, .inr (5, [.int vD, .int vA, .int vL, .ref qn, .ref qm])), (qn, .inl (gI X.1, 512, .inl vN)), (qm, .inl (gI X.1, 512, .inl vM)), (h6, .inr (6, [.ref qs, .int tL])), (qs, .inl (gI X.1, 60, .inl tS))]) rfl rfl dX7_doPoint_81 [5, 6] [0, 1, 2, 3, 4] [0, 1, 2, 3, 4, 5, 6] rfl rfl rfl rfl rfl rfl ?_
    refine j_istore (lv' := [(7, .int r81), (6, .int (f_X5_place ((f_X6_sign p1 tL tS) - 48) ((f_X6_sign (p1 + 1) tL tS) - 48) ((f_X6_sign (p1 + 2) tL tS) - 48) vD)), (5, .int ((f_X6_sign (p1 + 2) tL tS) - 48)), (4, .int ((f_X6_sign (p1 + 1) tL tS) - 48)), (3, .int ((f_X6_sign p1 tL tS) - 48)), (0, .ref h7), (1, .int p1), (2, .int p2)]) C dX7_doPoint_84 (by decide) rfl ?_
    refine j_aload_n C dX7_doPoint_86 rfl 5 rfl ?_
    refine j_get7 C 0 rfl 2 (by decide) in_X7_doPoint_7 lk_X7_doPoint_26 rfl dX7_doPoint_87 ?_
    refine j_iload_n C dX7_doPoint_90 rfl 6 rfl ?_
    refine j_iconst C (v := 3) dX7_doPoint_91 (by decide) ?_
    refine j_iadd C dX7_doPoint_92 ?_
    refine j_cV C (c_X6_sign X.1 hl h6 qs tL tS (p1 + 3)) k_X6_sign gX7_doPoint_X6_sign rfl (ci := 6) (q0 := 0) rfl rfl (As := [.int (p1 + 3)]) (rest := []) (st' := [.int (f_X6_sign (p1 + 3) tL tS)]) (ws' := [(h7, .inr (7, [.ref h5, .ref h2, .ref h6, .ref h4, .ref h0, .ref h3, .ref h1, .ref qb])), (qb, .inl (gI X.1, 512, .inl nB)), (h5, .inr (5, [.int vD, .int vA, .int vL, .ref qn, .ref qm])), (qn, .inl (gI X.1, 512, .inl vN)), (qm, .inl (gI X.1, 512, .inl vM)), (h6, .inr (6, [.ref qs, .int tL])), (qs, .inl (gI X.1, 60, .inl tS))]) rfl rfl dX7_doPoint_93 [5, 6] [0, 1, 2, 3, 4] [0, 1, 2, 3, 4, 5, 6] rfl rfl rfl rfl rfl rfl ?_
    refine j_bipush C (v := 43) dX7_doPoint_96 (by decide) ?_
    have k115 : ∀ (x115_7 : Int32), f_X7_doPoint_J115 p1 vD vN tL tS x115_7 = some y → Jt X [(h7, .inr (7, [.ref h5, .ref h2, .ref h6, .ref h4, .ref h0, .ref h3, .ref h1, .ref qb])), (qb, .inl (gI X.1, 512, .inl nB)), (h5, .inr (5, [.int vD, .int vA, .int vL, .ref qn, .ref qm])), (qn, .inl (gI X.1, 512, .inl vN)), (qm, .inl (gI X.1, 512, .inl vM)), (h6, .inr (6, [.ref qs, .int tL])), (qs, .inl (gI X.1, 60, .inl tS))] 0 0 115 [(0, .ref h7), (1, .int p1), (2, .int p2), (3, .int ((f_X6_sign p1 tL tS) - 48)), (4, .int ((f_X6_sign (p1 + 1) tL tS) - 48)), (5, .int ((f_X6_sign (p1 + 2) tL tS) - 48)), (6, .int (f_X5_place ((f_X6_sign p1 tL tS) - 48) ((f_X6_sign (p1 + 1) tL tS) - 48) ((f_X6_sign (p1 + 2) tL tS) - 48) vD)), (7, .int x115_7)] [] := by
      intro x115_7 hf
      unfold f_X7_doPoint_J115 at hf
      refine j_iload C dX7_doPoint_115 7 rfl ?_
      refine j_cS C (c_X7_isNumber X.1 hl x115_7) k_X7_isNumber gX7_doPoint_X7_isNumber (As := [.int x115_7]) (rest := []) (st' := [.int (f_X7_isNumber x115_7)]) (ws' := [(h7, .inr (7, [.ref h5, .ref h2, .ref h6, .ref h4, .ref h0, .ref h3, .ref h1, .ref qb])), (qb, .inl (gI X.1, 512, .inl nB)), (h5, .inr (5, [.int vD, .int vA, .int vL, .ref qn, .ref qm])), (qn, .inl (gI X.1, 512, .inl vN)), (qm, .inl (gI X.1, 512, .inl vM)), (h6, .inr (6, [.ref qs, .int tL])), (qs, .inl (gI X.1, 60, .inl tS))]) rfl rfl dX7_doPoint_117 [] [0, 1, 2, 3, 4, 5, 6] [0, 1, 2, 3, 4, 5, 6] rfl rfl rfl rfl rfl rfl ?_
      refine j_if_ne C (tgt := 125) dX7_doPoint_120 (by decide) (fun e120 => ?_) (fun e120 => ?_)
      · have hf := (if_neg e120).symm.trans hf
        refine j_aload_n C dX7_doPoint_125 rfl 0 rfl ?_
        refine j_get7 C 0 rfl 0 (by decide) in_X7_doPoint_7 lk_X7_doPoint_10 rfl dX7_doPoint_126 ?_
        refine j_iload C dX7_doPoint_129 6 rfl ?_
        refine j_iload C dX7_doPoint_131 7 rfl ?_
        refine j_cV C (c_X5_write X.1 hl h5 qn qm vD vA vL vN vM (f_X5_place ((f_X6_sign p1 tL tS) - 48) ((f_X6_sign (p1 + 1) tL tS) - 48) ((f_X6_sign (p1 + 2) tL tS) - 48) vD) x115_7) k_X5_write gX7_doPoint_X5_write rfl (ci := 5) (q0 := 0) rfl rfl (As := [.int (f_X5_place ((f_X6_sign p1 tL tS) - 48) ((f_X6_sign (p1 + 1) tL tS) - 48) ((f_X6_sign (p1 + 2) tL tS) - 48) vD), .int x115_7]) (rest := []) (st' := []) (ws' := [(h7, .inr (7, [.ref h5, .ref h2, .ref h6, .ref h4, .ref h0, .ref h3, .ref h1, .ref qb])), (qb, .inl (gI X.1, 512, .inl nB)), (h5, .inr (5, [.int vD, .int vA, .int vL, .ref qn, .ref qm])), (qn, .inl (gI X.1, 512, .inl (f_X5_write (f_X5_place ((f_X6_sign p1 tL tS) - 48) ((f_X6_sign (p1 + 1) tL tS) - 48) ((f_X6_sign (p1 + 2) tL tS) - 48) vD) x115_7 vN))), (qm, .inl (gI X.1, 512, .inl vM)), (h6, .inr (6, [.ref qs, .int tL])), (qs, .inl (gI X.1, 60, .inl tS))]) rfl rfl dX7_doPoint_133 [2, 3, 4] [0, 1, 5, 6] [0, 1, 4, 5, 6, 2, 3] rfl rfl rfl rfl rfl rfl ?_
        refine j_iconst C (v := 1) dX7_doPoint_136 (by decide) ?_
        obtain rfl := Option.some.inj hf
        exact j_zret C hQ rfl rfl dX7_doPoint_137 (Nat.zero_le _) (Nat.zero_le _) ⟨rfl, rfl⟩
      · have hf := (if_pos e120).symm.trans hf
        refine j_iconst C (v := 0) dX7_doPoint_123 (by decide) ?_
        obtain rfl := Option.some.inj hf
        exact j_zret C hQ rfl rfl dX7_doPoint_124 (Nat.zero_le _) (Nat.zero_le _) ⟨rfl, rfl⟩
    refine j_icmp_ne C (tgt := 115) dX7_doPoint_98 (by decide) (fun e98 => ?_) (fun e98 => ?_)
    · have hf := (if_neg e98).symm.trans hf
      refine j_loc [5, 6, 7, 4, 3, 2, 1, 0] rfl ?_
      exact k115 r81 hf
    · have hf := (if_pos e98).symm.trans hf
      refine j_iload C dX7_doPoint_101 0 rfl ?_
      refine j_aload_n C dX7_doPoint_103 rfl 5 rfl ?_
      refine j_get7 C 0 rfl 0 (by decide) in_X7_doPoint_7 lk_X7_doPoint_10 rfl dX7_doPoint_104 ?_
      refine j_iload C dX7_doPoint_107 1 rfl ?_
      refine j_cV C (c_X5_number X.1 hl h5 qn qm vD vA vL vN vM (f_X5_place ((f_X6_sign p1 tL tS) - 48) ((f_X6_sign (p1 + 1) tL tS) - 48) ((f_X6_sign (p1 + 2) tL tS) - 48) vD)) k_X5_number gX7_doPoint_X5_number rfl (ci := 5) (q0 := 0) rfl rfl (As := [.int (f_X5_place ((f_X6_sign p1 tL tS) - 48) ((f_X6_sign (p1 + 1) tL tS) - 48) ((f_X6_sign (p1 + 2) tL tS) - 48) vD)]) (rest := [.int r81]) (st' := [.int (f_X5_number (f_X5_place ((f_X6_sign p1 tL tS) - 48) ((f_X6_sign (p1 + 1) tL tS) - 48) ((f_X6_sign (p1 + 2) tL tS) - 48) vD) vN), .int r81]) (ws' := [(h7, .inr (7, [.ref h5, .ref h2, .ref h6, .ref h4, .ref h0, .ref h3, .ref h1, .ref qb])), (qb, .inl (gI X.1, 512, .inl nB)), (h5, .inr (5, [.int vD, .int vA, .int vL, .ref qn, .ref qm])), (qn, .inl (gI X.1, 512, .inl vN)), (qm, .inl (gI X.1, 512, .inl vM)), (h6, .inr (6, [.ref qs, .int tL])), (qs, .inl (gI X.1, 60, .inl tS))]) rfl rfl dX7_doPoint_109 [2, 3, 4] [0, 1, 5, 6] [0, 1, 4, 5, 6, 2, 3] rfl rfl rfl rfl rfl rfl ?_
      refine j_iadd C dX7_doPoint_112 ?_
      refine j_istore (lv' := [(7, .int (r81 + (f_X5_number (f_X5_place ((f_X6_sign p1 tL tS) - 48) ((f_X6_sign (p1 + 1) tL tS) - 48) ((f_X6_sign (p1 + 2) tL tS) - 48) vD) vN))), (6, .int (f_X5_place ((f_X6_sign p1 tL tS) - 48) ((f_X6_sign (p1 + 1) tL tS) - 48) ((f_X6_sign (p1 + 2) tL tS) - 48) vD)), (5, .int ((f_X6_sign (p1 + 2) tL tS) - 48)), (4, .int ((f_X6_sign (p1 + 1) tL tS) - 48)), (3, .int ((f_X6_sign p1 tL tS) - 48)), (0, .ref h7), (1, .int p1), (2, .int p2)]) C dX7_doPoint_113 (by decide) rfl ?_
      refine j_loc [5, 6, 7, 4, 3, 2, 1, 0] rfl ?_
      exact k115 (r81 + (f_X5_number (f_X5_place ((f_X6_sign p1 tL tS) - 48) ((f_X6_sign (p1 + 1) tL tS) - 48) ((f_X6_sign (p1 + 2) tL tS) - 48) vD) vN)) hf
  · have hf := (if_pos e54).symm.trans hf
    refine j_iconst C (v := 0) dX7_doPoint_57 (by decide) ?_
    obtain rfl := Option.some.inj hf
    exact j_zret C hQ rfl rfl dX7_doPoint_58 (Nat.zero_le _) (Nat.zero_le _) ⟨rfl, rfl⟩

theorem lk_X7_read_26 : Cond.fieldLink RX7 26 (TX7 2).1 (TX7 2).2.1 (TX7 2).2.2.1 ∈ wsX7_read := by decide +kernel
theorem in_X7_read_7 : ∀ w ∈ wsX70, w ∈ wsX7_read := by decide +kernel
theorem lk_X7_read_19 : Cond.fieldLink RX7 19 (TX7 1).1 (TX7 1).2.1 (TX7 1).2.2.1 ∈ wsX7_read := by decide +kernel
theorem lk_X7_read_10 : Cond.fieldLink RX7 10 (TX7 0).1 (TX7 0).2.1 (TX7 0).2.2.1 ∈ wsX7_read := by decide +kernel
theorem in_X7_read_6 : ∀ w ∈ wsX60, w ∈ wsX7_read := by decide +kernel
theorem tg_X7_read_2 : ∀ w ∈ (vx_atS RX7 66 "java/lang/IllegalArgumentException" ["java/lang/RuntimeException", "java/lang/Exception"]).filter goodWord, w ∈ wsX7_read := by decide +kernel
theorem wd_X7_read_x2 : Cond.classLink RX7 62 "java/lang/IllegalArgumentException" ∈ wsX7_read := by decide +kernel
theorem wd_X7_read_y2 : Cond.initialized "java/lang/IllegalArgumentException" ∈ wsX7_read := by decide +kernel
def f_X7_read_J97 (r28 : Int32 × Int32 × (Nat → SV)) (vN_97 : (Nat → Int32)) (x37_1 : Int32) : Option ((Int32 × Int32 × Int32 × (Nat → Int32)) ⊕ (Nat ⊕ (Int32 × (Nat → Int32) × Int32 × Int32 × (Nat → SV) × Int32))) :=
  some (.inr (.inr (x37_1, vN_97, r28.1, r28.2.1, r28.2.2, 0)))
def f_X7_read_J91 (vN_91 : (Nat → Int32)) (x37_3 : Int32) (x91_1 : Int32) (x91_2 : Int32) : Option ((Int32 × Int32 × Int32 × (Nat → Int32)) ⊕ (Nat ⊕ (Int32 × (Nat → Int32) × Int32 × Int32 × (Nat → SV) × Int32))) :=
  some (.inl (x91_1, x91_2, (x37_3 + 1), vN_91))
def f_X7_read_J72 (vD : Int32) (tL : Int32) (tS : (Nat → Int32)) (r28 : Int32 × Int32 × (Nat → SV)) (vN_37 : (Nat → Int32)) (x37_1 : Int32) (x37_2 : Int32) (x37_3 : Int32) : Option ((Int32 × Int32 × Int32 × (Nat → Int32)) ⊕ (Nat ⊕ (Int32 × (Nat → Int32) × Int32 × Int32 × (Nat → SV) × Int32))) :=
  Option.bind (f_X7_doPoint x37_2 x37_3 vD vN_37 tL tS) (fun r75 => if r75.1 = 0 then (f_X7_read_J97 r28 r75.2 x37_1) else (f_X7_read_J91 r75.2 x37_3 (x37_1 + 1) (x37_3 + 1)))
def f_X7_read_L37 (vD : Int32) (tL : Int32) (tS : (Nat → Int32)) (r28 : Int32 × Int32 × (Nat → SV)) (x37_1 : Int32) (x37_2 : Int32) (x37_3 : Int32) (vN_37 : (Nat → Int32)) : Option ((Int32 × Int32 × Int32 × (Nat → Int32)) ⊕ (Nat ⊕ (Int32 × (Nat → Int32) × Int32 × Int32 × (Nat → SV) × Int32))) :=
  if tL < x37_3 then (f_X7_read_J97 r28 vN_37 x37_1) else if x37_3 = tL then (f_X7_read_J72 vD tL tS r28 vN_37 x37_1 x37_2 x37_3) else if (f_X6_sign x37_3 tL tS) = 59 then (f_X7_read_J72 vD tL tS r28 vN_37 x37_1 x37_2 x37_3) else (f_X7_read_J91 vN_37 x37_3 x37_1 x37_2)
def f_X7_read (vD : Int32) (vA : Int32) (vL : Int32) (vN : (Nat → Int32)) (vM : (Nat → Int32)) (oO : Int32) (oS : Int32) (hv : (Nat → SV)) (tL : Int32) (tS : (Nat → Int32)) : Option (Nat ⊕ (Int32 × (Nat → Int32) × Int32 × Int32 × (Nat → SV) × Int32)) :=
  Option.bind (f_X6_tellsPoints tL tS) (fun r4 => if r4 = 0 then some (.inl 2) else Option.bind (f_X2_save vD vA vL vN vM oO oS hv) (fun r28 => dz_it (fun s : Int32 × Int32 × Int32 × (Nat → Int32) => f_X7_read_L37 vD tL tS r28 s.1 s.2.1 s.2.2.1 s.2.2.2) (0, 0, 0, vN)))
abbrev rm_X7_read : Room := { frames := 6, cells := 1, slots := 6, locals := 112 }
theorem k_X7_read : Cf yX7_read wsX7_read rm_X7_read cX7_read 4 (some .int) 0 := ⟨⟨_, rfl⟩, by decide +kernel, by decide +kernel, by decide +kernel⟩
set_option maxRecDepth 100000 in
set_option maxHeartbeats 4000000 in
theorem b_X7_read (G : CG) (hl : (gL G).stackTraces = false) (h7 : Nat) (h5 : Nat) (h2 : Nat) (h6 : Nat) (h4 : Nat) (h0 : Nat) (h3 : Nat) (h1 : Nat) (qb : Nat) (qn : Nat) (qm : Nat) (qh : Nat) (sa : Nat → Nat) (sn : Nat → Nat) (sm : Nat → Nat) (qs : Nat) (vD : Int32) (vA : Int32) (vL : Int32) (vN : (Nat → Int32)) (vM : (Nat → Int32)) (oO : Int32) (oS : Int32) (hv : (Nat → SV)) (tL : Int32) (tS : (Nat → Int32)) (nB : (Nat → Int32)) (y : Nat ⊕ (Int32 × (Nat → Int32) × Int32 × Int32 × (Nat → SV) × Int32)) (hf : f_X7_read vD vA vL vN vM oO oS hv tL tS = some y) : Ct G yX7_read wsX7_read rm_X7_read [.ref h7] [(h7, .inr (7, [.ref h5, .ref h2, .ref h6, .ref h4, .ref h0, .ref h3, .ref h1, .ref qb])), (qb, .inl (gI G, 512, .inl nB)), (h5, .inr (5, [.int vD, .int vA, .int vL, .ref qn, .ref qm])), (qn, .inl (gI G, 512, .inl vN)), (qm, .inl (gI G, 512, .inl vM)), (h2, .inr (2, [.ref qh, .int oO, .int oS])), (qh, .inl (gO G, 6, .inr (.inr (.inr (.inr (fun k => some (sa k))))))), (sa 0, .inr (5, [.int (hv 0).1, .int (hv 0).2.1, .int (hv 0).2.2.1, .ref (sn 0), .ref (sm 0)])), (sn 0, .inl (gI G, 512, .inl (hv 0).2.2.2.1)), (sm 0, .inl (gI G, 512, .inl (hv 0).2.2.2.2)), (sa 1, .inr (5, [.int (hv 1).1, .int (hv 1).2.1, .int (hv 1).2.2.1, .ref (sn 1), .ref (sm 1)])), (sn 1, .inl (gI G, 512, .inl (hv 1).2.2.2.1)), (sm 1, .inl (gI G, 512, .inl (hv 1).2.2.2.2)), (sa 2, .inr (5, [.int (hv 2).1, .int (hv 2).2.1, .int (hv 2).2.2.1, .ref (sn 2), .ref (sm 2)])), (sn 2, .inl (gI G, 512, .inl (hv 2).2.2.2.1)), (sm 2, .inl (gI G, 512, .inl (hv 2).2.2.2.2)), (sa 3, .inr (5, [.int (hv 3).1, .int (hv 3).2.1, .int (hv 3).2.2.1, .ref (sn 3), .ref (sm 3)])), (sn 3, .inl (gI G, 512, .inl (hv 3).2.2.2.1)), (sm 3, .inl (gI G, 512, .inl (hv 3).2.2.2.2)), (sa 4, .inr (5, [.int (hv 4).1, .int (hv 4).2.1, .int (hv 4).2.2.1, .ref (sn 4), .ref (sm 4)])), (sn 4, .inl (gI G, 512, .inl (hv 4).2.2.2.1)), (sm 4, .inl (gI G, 512, .inl (hv 4).2.2.2.2)), (sa 5, .inr (5, [.int (hv 5).1, .int (hv 5).2.1, .int (hv 5).2.2.1, .ref (sn 5), .ref (sm 5)])), (sn 5, .inl (gI G, 512, .inl (hv 5).2.2.2.1)), (sm 5, .inl (gI G, 512, .inl (hv 5).2.2.2.2)), (h6, .inr (6, [.ref qs, .int tL])), (qs, .inl (gI G, 60, .inl tS))] (finX y (fun u => (some (.int u.1))) [(h7, .inr (7, [.ref h5, .ref h2, .ref h6, .ref h4, .ref h0, .ref h3, .ref h1, .ref qb])), (qb, .inl (gI G, 512, .inl nB)), (h5, .inr (5, [.int vD, .int vA, .int vL, .ref qn, .ref qm])), (qn, .inl (gI G, 512, .inl vN)), (qm, .inl (gI G, 512, .inl vM)), (h2, .inr (2, [.ref qh, .int oO, .int oS])), (qh, .inl (gO G, 6, .inr (.inr (.inr (.inr (fun k => some (sa k))))))), (sa 0, .inr (5, [.int (hv 0).1, .int (hv 0).2.1, .int (hv 0).2.2.1, .ref (sn 0), .ref (sm 0)])), (sn 0, .inl (gI G, 512, .inl (hv 0).2.2.2.1)), (sm 0, .inl (gI G, 512, .inl (hv 0).2.2.2.2)), (sa 1, .inr (5, [.int (hv 1).1, .int (hv 1).2.1, .int (hv 1).2.2.1, .ref (sn 1), .ref (sm 1)])), (sn 1, .inl (gI G, 512, .inl (hv 1).2.2.2.1)), (sm 1, .inl (gI G, 512, .inl (hv 1).2.2.2.2)), (sa 2, .inr (5, [.int (hv 2).1, .int (hv 2).2.1, .int (hv 2).2.2.1, .ref (sn 2), .ref (sm 2)])), (sn 2, .inl (gI G, 512, .inl (hv 2).2.2.2.1)), (sm 2, .inl (gI G, 512, .inl (hv 2).2.2.2.2)), (sa 3, .inr (5, [.int (hv 3).1, .int (hv 3).2.1, .int (hv 3).2.2.1, .ref (sn 3), .ref (sm 3)])), (sn 3, .inl (gI G, 512, .inl (hv 3).2.2.2.1)), (sm 3, .inl (gI G, 512, .inl (hv 3).2.2.2.2)), (sa 4, .inr (5, [.int (hv 4).1, .int (hv 4).2.1, .int (hv 4).2.2.1, .ref (sn 4), .ref (sm 4)])), (sn 4, .inl (gI G, 512, .inl (hv 4).2.2.2.1)), (sm 4, .inl (gI G, 512, .inl (hv 4).2.2.2.2)), (sa 5, .inr (5, [.int (hv 5).1, .int (hv 5).2.1, .int (hv 5).2.2.1, .ref (sn 5), .ref (sm 5)])), (sn 5, .inl (gI G, 512, .inl (hv 5).2.2.2.1)), (sm 5, .inl (gI G, 512, .inl (hv 5).2.2.2.2)), (h6, .inr (6, [.ref qs, .int tL])), (qs, .inl (gI G, 60, .inl tS))] (fun u => [(h7, .inr (7, [.ref h5, .ref h2, .ref h6, .ref h4, .ref h0, .ref h3, .ref h1, .ref qb])), (qb, .inl (gI G, 512, .inl nB)), (h5, .inr (5, [.int vD, .int vA, .int vL, .ref qn, .ref qm])), (qn, .inl (gI G, 512, .inl u.2.1)), (qm, .inl (gI G, 512, .inl vM)), (h2, .inr (2, [.ref qh, .int u.2.2.1, .int u.2.2.2.1])), (qh, .inl (gO G, 6, .inr (.inr (.inr (.inr (fun k => some (sa k))))))), (sa 0, .inr (5, [.int (u.2.2.2.2.1 0).1, .int (u.2.2.2.2.1 0).2.1, .int (u.2.2.2.2.1 0).2.2.1, .ref (sn 0), .ref (sm 0)])), (sn 0, .inl (gI G, 512, .inl (u.2.2.2.2.1 0).2.2.2.1)), (sm 0, .inl (gI G, 512, .inl (u.2.2.2.2.1 0).2.2.2.2)), (sa 1, .inr (5, [.int (u.2.2.2.2.1 1).1, .int (u.2.2.2.2.1 1).2.1, .int (u.2.2.2.2.1 1).2.2.1, .ref (sn 1), .ref (sm 1)])), (sn 1, .inl (gI G, 512, .inl (u.2.2.2.2.1 1).2.2.2.1)), (sm 1, .inl (gI G, 512, .inl (u.2.2.2.2.1 1).2.2.2.2)), (sa 2, .inr (5, [.int (u.2.2.2.2.1 2).1, .int (u.2.2.2.2.1 2).2.1, .int (u.2.2.2.2.1 2).2.2.1, .ref (sn 2), .ref (sm 2)])), (sn 2, .inl (gI G, 512, .inl (u.2.2.2.2.1 2).2.2.2.1)), (sm 2, .inl (gI G, 512, .inl (u.2.2.2.2.1 2).2.2.2.2)), (sa 3, .inr (5, [.int (u.2.2.2.2.1 3).1, .int (u.2.2.2.2.1 3).2.1, .int (u.2.2.2.2.1 3).2.2.1, .ref (sn 3), .ref (sm 3)])), (sn 3, .inl (gI G, 512, .inl (u.2.2.2.2.1 3).2.2.2.1)), (sm 3, .inl (gI G, 512, .inl (u.2.2.2.2.1 3).2.2.2.2)), (sa 4, .inr (5, [.int (u.2.2.2.2.1 4).1, .int (u.2.2.2.2.1 4).2.1, .int (u.2.2.2.2.1 4).2.2.1, .ref (sn 4), .ref (sm 4)])), (sn 4, .inl (gI G, 512, .inl (u.2.2.2.2.1 4).2.2.2.1)), (sm 4, .inl (gI G, 512, .inl (u.2.2.2.2.1 4).2.2.2.2)), (sa 5, .inr (5, [.int (u.2.2.2.2.1 5).1, .int (u.2.2.2.2.1 5).2.1, .int (u.2.2.2.2.1 5).2.2.1, .ref (sn 5), .ref (sm 5)])), (sn 5, .inl (gI G, 512, .inl (u.2.2.2.2.1 5).2.2.2.1)), (sm 5, .inl (gI G, 512, .inl (u.2.2.2.2.1 5).2.2.2.2)), (h6, .inr (6, [.ref qs, .int u.2.2.2.2.2])), (qs, .inl (gI G, 60, .inl tS))])) 1 6 := by
  refine Ct.of (cc := cX7_read) (N := 4) (ret := (some .int)) RX7 (by decide) rfl rfl hl (Nat.le_of_ble_eq_true rfl) (lv := [(0, .ref h7)]) rfl (fun X hXG C hex hnm hQ => ?_)
  subst hXG
  unfold f_X7_read at hf
  refine j_aload_n C dX7_read_0 rfl 0 rfl ?_
  refine j_get7 C 0 rfl 2 (by decide) in_X7_read_7 lk_X7_read_26 rfl dX7_read_1 ?_
  obtain ⟨r4, hc4, hf⟩ := Option.bind_eq_some_iff.mp hf
  refine j_cV C (b_X6_tellsPoints X.1 hl h6 qs tL tS r4 hc4) k_X6_tellsPoints gX7_read_X6_tellsPoints rfl (ci := 6) (q0 := 0) rfl rfl (As := []) (rest := []) (st' := [.int r4]) (ws' := [(h7, .inr (7, [.ref h5, .ref h2, .ref h6, .ref h4, .ref h0, .ref h3, .ref h1, .ref qb])), (qb, .inl (gI X.1, 512, .inl nB)), (h5, .inr (5, [.int vD, .int vA, .int vL, .ref qn, .ref qm])), (qn, .inl (gI X.1, 512, .inl vN)), (qm, .inl (gI X.1, 512, .inl vM)), (h2, .inr (2, [.ref qh, .int oO, .int oS])), (qh, .inl (gO X.1, 6, .inr (.inr (.inr (.inr (fun k => some (sa k))))))), (sa 0, .inr (5, [.int (hv 0).1, .int (hv 0).2.1, .int (hv 0).2.2.1, .ref (sn 0), .ref (sm 0)])), (sn 0, .inl (gI X.1, 512, .inl (hv 0).2.2.2.1)), (sm 0, .inl (gI X.1, 512, .inl (hv 0).2.2.2.2)), (sa 1, .inr (5, [.int (hv 1).1, .int (hv 1).2.1, .int (hv 1).2.2.1, .ref (sn 1), .ref (sm 1)])), (sn 1, .inl (gI X.1, 512, .inl (hv 1).2.2.2.1)), (sm 1, .inl (gI X.1, 512, .inl (hv 1).2.2.2.2)), (sa 2, .inr (5, [.int (hv 2).1, .int (hv 2).2.1, .int (hv 2).2.2.1, .ref (sn 2), .ref (sm 2)])), (sn 2, .inl (gI X.1, 512, .inl (hv 2).2.2.2.1)), (sm 2, .inl (gI X.1, 512, .inl (hv 2).2.2.2.2)), (sa 3, .inr (5, [.int (hv 3).1, .int (hv 3).2.1, .int (hv 3).2.2.1, .ref (sn 3), .ref (sm 3)])), (sn 3, .inl (gI X.1, 512, .inl (hv 3).2.2.2.1)), (sm 3, .inl (gI X.1, 512, .inl (hv 3).2.2.2.2)), (sa 4, .inr (5, [.int (hv 4).1, .int (hv 4).2.1, .int (hv 4).2.2.1, .ref (sn 4), .ref (sm 4)])), (sn 4, .inl (gI X.1, 512, .inl (hv 4).2.2.2.1)), (sm 4, .inl (gI X.1, 512, .inl (hv 4).2.2.2.2)), (sa 5, .inr (5, [.int (hv 5).1, .int (hv 5).2.1, .int (hv 5).2.2.1, .ref (sn 5), .ref (sm 5)])), (sn 5, .inl (gI X.1, 512, .inl (hv 5).2.2.2.1)), (sm 5, .inl (gI X.1, 512, .inl (hv 5).2.2.2.2)), (h6, .inr (6, [.ref qs, .int tL])), (qs, .inl (gI X.1, 60, .inl tS))]) rfl rfl dX7_read_4 [25, 26] [0, 1, 2, 3, 4, 5, 6, 7, 8, 9, 10, 11, 12, 13, 14, 15, 16, 17, 18, 19, 20, 21, 22, 23, 24] [0, 1, 2, 3, 4, 5, 6, 7, 8, 9, 10, 11, 12, 13, 14, 15, 16, 17, 18, 19, 20, 21, 22, 23, 24, 25, 26] rfl rfl rfl rfl rfl rfl ?_
  refine j_if_ne C (tgt := 20) dX7_read_7 (by decide) (fun e7 => ?_) (fun e7 => ?_)
  · have hf := (if_neg e7).symm.trans hf
    refine j_aload_n C dX7_read_20 rfl 0 rfl ?_
    refine j_get7 C 0 rfl 1 (by decide) in_X7_read_7 lk_X7_read_19 rfl dX7_read_21 ?_
    refine j_aload_n C dX7_read_24 rfl 0 rfl ?_
    refine j_get7 C 0 rfl 0 (by decide) in_X7_read_7 lk_X7_read_10 rfl dX7_read_25 ?_
    obtain ⟨r28, hc28, hf⟩ := Option.bind_eq_some_iff.mp hf
    refine j_cV C (b_X2_save X.1 hl h2 qh sa sn sm h5 qn qm vD vA vL vN vM oO oS hv r28 hc28) k_X2_save gX7_read_X2_save rfl (ci := 2) (q0 := 0) rfl rfl (As := [.ref h5]) (rest := []) (st' := []) (ws' := [(h7, .inr (7, [.ref h5, .ref h2, .ref h6, .ref h4, .ref h0, .ref h3, .ref h1, .ref qb])), (qb, .inl (gI X.1, 512, .inl nB)), (h5, .inr (5, [.int vD, .int vA, .int vL, .ref qn, .ref qm])), (qn, .inl (gI X.1, 512, .inl vN)), (qm, .inl (gI X.1, 512, .inl vM)), (h2, .inr (2, [.ref qh, .int r28.1, .int r28.2.1])), (qh, .inl (gO X.1, 6, .inr (.inr (.inr (.inr (fun k => some (sa k))))))), (sa 0, .inr (5, [.int (r28.2.2 0).1, .int (r28.2.2 0).2.1, .int (r28.2.2 0).2.2.1, .ref (sn 0), .ref (sm 0)])), (sn 0, .inl (gI X.1, 512, .inl (r28.2.2 0).2.2.2.1)), (sm 0, .inl (gI X.1, 512, .inl (r28.2.2 0).2.2.2.2)), (sa 1, .inr (5, [.int (r28.2.2 1).1, .int (r28.2.2 1).2.1, .int (r28.2.2 1).2.2.1, .ref (sn 1), .ref (sm 1)])), (sn 1, .inl (gI X.1, 512, .inl (r28.2.2 1).2.2.2.1)), (sm 1, .inl (gI X.1, 512, .inl (r28.2.2 1).2.2.2.2)), (sa 2, .inr (5, [.int (r28.2.2 2).1, .int (r28.2.2 2).2.1, .int (r28.2.2 2).2.2.1, .ref (sn 2), .ref (sm 2)])), (sn 2, .inl (gI X.1, 512, .inl (r28.2.2 2).2.2.2.1)), (sm 2, .inl (gI X.1, 512, .inl (r28.2.2 2).2.2.2.2)), (sa 3, .inr (5, [.int (r28.2.2 3).1, .int (r28.2.2 3).2.1, .int (r28.2.2 3).2.2.1, .ref (sn 3), .ref (sm 3)])), (sn 3, .inl (gI X.1, 512, .inl (r28.2.2 3).2.2.2.1)), (sm 3, .inl (gI X.1, 512, .inl (r28.2.2 3).2.2.2.2)), (sa 4, .inr (5, [.int (r28.2.2 4).1, .int (r28.2.2 4).2.1, .int (r28.2.2 4).2.2.1, .ref (sn 4), .ref (sm 4)])), (sn 4, .inl (gI X.1, 512, .inl (r28.2.2 4).2.2.2.1)), (sm 4, .inl (gI X.1, 512, .inl (r28.2.2 4).2.2.2.2)), (sa 5, .inr (5, [.int (r28.2.2 5).1, .int (r28.2.2 5).2.1, .int (r28.2.2 5).2.2.1, .ref (sn 5), .ref (sm 5)])), (sn 5, .inl (gI X.1, 512, .inl (r28.2.2 5).2.2.2.1)), (sm 5, .inl (gI X.1, 512, .inl (r28.2.2 5).2.2.2.2)), (h6, .inr (6, [.ref qs, .int tL])), (qs, .inl (gI X.1, 60, .inl tS))]) rfl rfl dX7_read_28 [5, 6, 7, 8, 9, 10, 11, 12, 13, 14, 15, 16, 17, 18, 19, 20, 21, 22, 23, 24, 2, 3, 4] [0, 1, 25, 26] [0, 1, 24, 25, 26, 4, 5, 6, 7, 8, 9, 10, 11, 12, 13, 14, 15, 16, 17, 18, 19, 20, 21, 22, 23, 2, 3] rfl rfl rfl rfl rfl rfl ?_
    refine j_iconst C (v := 0) dX7_read_31 (by decide) ?_
    refine j_istore_n (lv' := [(1, .int 0), (0, .ref h7)]) C dX7_read_32 rfl (by decide) rfl ?_
    refine j_iconst C (v := 0) dX7_read_33 (by decide) ?_
    refine j_istore_n (lv' := [(2, .int 0), (1, .int 0), (0, .ref h7)]) C dX7_read_34 rfl (by decide) rfl ?_
    refine j_iconst C (v := 0) dX7_read_35 (by decide) ?_
    refine j_istore_n (lv' := [(3, .int 0), (2, .int 0), (1, .int 0), (0, .ref h7)]) C dX7_read_36 rfl (by decide) rfl ?_
    have kk37 : ∀ (n : Nat) (x37_1 : Int32) (x37_2 : Int32) (x37_3 : Int32) (vN_37 : (Nat → Int32)), dz_iter n (fun s : Int32 × Int32 × Int32 × (Nat → Int32) => f_X7_read_L37 vD tL tS r28 s.1 s.2.1 s.2.2.1 s.2.2.2) (x37_1, x37_2, x37_3, vN_37) = some y → Jt X [(h7, .inr (7, [.ref h5, .ref h2, .ref h6, .ref h4, .ref h0, .ref h3, .ref h1, .ref qb])), (qb, .inl (gI X.1, 512, .inl nB)), (h5, .inr (5, [.int vD, .int vA, .int vL, .ref qn, .ref qm])), (qn, .inl (gI X.1, 512, .inl vN_37)), (qm, .inl (gI X.1, 512, .inl vM)), (h2, .inr (2, [.ref qh, .int r28.1, .int r28.2.1])), (qh, .inl (gO X.1, 6, .inr (.inr (.inr (.inr (fun k => some (sa k))))))), (sa 0, .inr (5, [.int (r28.2.2 0).1, .int (r28.2.2 0).2.1, .int (r28.2.2 0).2.2.1, .ref (sn 0), .ref (sm 0)])), (sn 0, .inl (gI X.1, 512, .inl (r28.2.2 0).2.2.2.1)), (sm 0, .inl (gI X.1, 512, .inl (r28.2.2 0).2.2.2.2)), (sa 1, .inr (5, [.int (r28.2.2 1).1, .int (r28.2.2 1).2.1, .int (r28.2.2 1).2.2.1, .ref (sn 1), .ref (sm 1)])), (sn 1, .inl (gI X.1, 512, .inl (r28.2.2 1).2.2.2.1)), (sm 1, .inl (gI X.1, 512, .inl (r28.2.2 1).2.2.2.2)), (sa 2, .inr (5, [.int (r28.2.2 2).1, .int (r28.2.2 2).2.1, .int (r28.2.2 2).2.2.1, .ref (sn 2), .ref (sm 2)])), (sn 2, .inl (gI X.1, 512, .inl (r28.2.2 2).2.2.2.1)), (sm 2, .inl (gI X.1, 512, .inl (r28.2.2 2).2.2.2.2)), (sa 3, .inr (5, [.int (r28.2.2 3).1, .int (r28.2.2 3).2.1, .int (r28.2.2 3).2.2.1, .ref (sn 3), .ref (sm 3)])), (sn 3, .inl (gI X.1, 512, .inl (r28.2.2 3).2.2.2.1)), (sm 3, .inl (gI X.1, 512, .inl (r28.2.2 3).2.2.2.2)), (sa 4, .inr (5, [.int (r28.2.2 4).1, .int (r28.2.2 4).2.1, .int (r28.2.2 4).2.2.1, .ref (sn 4), .ref (sm 4)])), (sn 4, .inl (gI X.1, 512, .inl (r28.2.2 4).2.2.2.1)), (sm 4, .inl (gI X.1, 512, .inl (r28.2.2 4).2.2.2.2)), (sa 5, .inr (5, [.int (r28.2.2 5).1, .int (r28.2.2 5).2.1, .int (r28.2.2 5).2.2.1, .ref (sn 5), .ref (sm 5)])), (sn 5, .inl (gI X.1, 512, .inl (r28.2.2 5).2.2.2.1)), (sm 5, .inl (gI X.1, 512, .inl (r28.2.2 5).2.2.2.2)), (h6, .inr (6, [.ref qs, .int tL])), (qs, .inl (gI X.1, 60, .inl tS))] 0 0 37 [(0, .ref h7), (1, .int x37_1), (2, .int x37_2), (3, .int x37_3)] [] := by
      intro n
      induction n with
      | zero => intro x37_1 x37_2 x37_3 vN_37 hit; exact absurd hit (by simp [dz_iter])
      | succ n ih37 =>
        intro x37_1 x37_2 x37_3 vN_37 hit
        obtain ⟨y37, hf, hg37⟩ := dz_iter_succ hit
        replace hf : f_X7_read_L37 vD tL tS r28 x37_1 x37_2 x37_3 vN_37 = some y37 := hf
        unfold f_X7_read_L37 at hf
        refine j_iload_n C dX7_read_37 rfl 3 rfl ?_
        refine j_aload_n C dX7_read_38 rfl 0 rfl ?_
        refine j_get7 C 0 rfl 2 (by decide) in_X7_read_7 lk_X7_read_26 rfl dX7_read_39 ?_
        refine j_getN6 C 25 rfl 1 (by decide) in_X7_read_6 nw_X7_176 rfl dX7_read_42 ?_
        have k97 : ∀ (vN_97 : (Nat → Int32)), f_X7_read_J97 r28 vN_97 x37_1 = some y37 → Jt X [(h7, .inr (7, [.ref h5, .ref h2, .ref h6, .ref h4, .ref h0, .ref h3, .ref h1, .ref qb])), (qb, .inl (gI X.1, 512, .inl nB)), (h5, .inr (5, [.int vD, .int vA, .int vL, .ref qn, .ref qm])), (qn, .inl (gI X.1, 512, .inl vN_97)), (qm, .inl (gI X.1, 512, .inl vM)), (h2, .inr (2, [.ref qh, .int r28.1, .int r28.2.1])), (qh, .inl (gO X.1, 6, .inr (.inr (.inr (.inr (fun k => some (sa k))))))), (sa 0, .inr (5, [.int (r28.2.2 0).1, .int (r28.2.2 0).2.1, .int (r28.2.2 0).2.2.1, .ref (sn 0), .ref (sm 0)])), (sn 0, .inl (gI X.1, 512, .inl (r28.2.2 0).2.2.2.1)), (sm 0, .inl (gI X.1, 512, .inl (r28.2.2 0).2.2.2.2)), (sa 1, .inr (5, [.int (r28.2.2 1).1, .int (r28.2.2 1).2.1, .int (r28.2.2 1).2.2.1, .ref (sn 1), .ref (sm 1)])), (sn 1, .inl (gI X.1, 512, .inl (r28.2.2 1).2.2.2.1)), (sm 1, .inl (gI X.1, 512, .inl (r28.2.2 1).2.2.2.2)), (sa 2, .inr (5, [.int (r28.2.2 2).1, .int (r28.2.2 2).2.1, .int (r28.2.2 2).2.2.1, .ref (sn 2), .ref (sm 2)])), (sn 2, .inl (gI X.1, 512, .inl (r28.2.2 2).2.2.2.1)), (sm 2, .inl (gI X.1, 512, .inl (r28.2.2 2).2.2.2.2)), (sa 3, .inr (5, [.int (r28.2.2 3).1, .int (r28.2.2 3).2.1, .int (r28.2.2 3).2.2.1, .ref (sn 3), .ref (sm 3)])), (sn 3, .inl (gI X.1, 512, .inl (r28.2.2 3).2.2.2.1)), (sm 3, .inl (gI X.1, 512, .inl (r28.2.2 3).2.2.2.2)), (sa 4, .inr (5, [.int (r28.2.2 4).1, .int (r28.2.2 4).2.1, .int (r28.2.2 4).2.2.1, .ref (sn 4), .ref (sm 4)])), (sn 4, .inl (gI X.1, 512, .inl (r28.2.2 4).2.2.2.1)), (sm 4, .inl (gI X.1, 512, .inl (r28.2.2 4).2.2.2.2)), (sa 5, .inr (5, [.int (r28.2.2 5).1, .int (r28.2.2 5).2.1, .int (r28.2.2 5).2.2.1, .ref (sn 5), .ref (sm 5)])), (sn 5, .inl (gI X.1, 512, .inl (r28.2.2 5).2.2.2.1)), (sm 5, .inl (gI X.1, 512, .inl (r28.2.2 5).2.2.2.2)), (h6, .inr (6, [.ref qs, .int tL])), (qs, .inl (gI X.1, 60, .inl tS))] 0 0 97 [(0, .ref h7), (1, .int x37_1), (2, .int x37_2), (3, .int x37_3)] [] := by
          intro vN_97 hf
          unfold f_X7_read_J97 at hf
          refine j_aload_n C dX7_read_97 rfl 0 rfl ?_
          refine j_get7 C 0 rfl 2 (by decide) in_X7_read_7 lk_X7_read_26 rfl dX7_read_98 ?_
          refine j_iconst C (v := 0) dX7_read_101 (by decide) ?_
          refine j_putN6 (ty := .int) (ws' := [(h7, .inr (7, [.ref h5, .ref h2, .ref h6, .ref h4, .ref h0, .ref h3, .ref h1, .ref qb])), (qb, .inl (gI X.1, 512, .inl nB)), (h5, .inr (5, [.int vD, .int vA, .int vL, .ref qn, .ref qm])), (qn, .inl (gI X.1, 512, .inl vN_97)), (qm, .inl (gI X.1, 512, .inl vM)), (h2, .inr (2, [.ref qh, .int r28.1, .int r28.2.1])), (qh, .inl (gO X.1, 6, .inr (.inr (.inr (.inr (fun k => some (sa k))))))), (sa 0, .inr (5, [.int (r28.2.2 0).1, .int (r28.2.2 0).2.1, .int (r28.2.2 0).2.2.1, .ref (sn 0), .ref (sm 0)])), (sn 0, .inl (gI X.1, 512, .inl (r28.2.2 0).2.2.2.1)), (sm 0, .inl (gI X.1, 512, .inl (r28.2.2 0).2.2.2.2)), (sa 1, .inr (5, [.int (r28.2.2 1).1, .int (r28.2.2 1).2.1, .int (r28.2.2 1).2.2.1, .ref (sn 1), .ref (sm 1)])), (sn 1, .inl (gI X.1, 512, .inl (r28.2.2 1).2.2.2.1)), (sm 1, .inl (gI X.1, 512, .inl (r28.2.2 1).2.2.2.2)), (sa 2, .inr (5, [.int (r28.2.2 2).1, .int (r28.2.2 2).2.1, .int (r28.2.2 2).2.2.1, .ref (sn 2), .ref (sm 2)])), (sn 2, .inl (gI X.1, 512, .inl (r28.2.2 2).2.2.2.1)), (sm 2, .inl (gI X.1, 512, .inl (r28.2.2 2).2.2.2.2)), (sa 3, .inr (5, [.int (r28.2.2 3).1, .int (r28.2.2 3).2.1, .int (r28.2.2 3).2.2.1, .ref (sn 3), .ref (sm 3)])), (sn 3, .inl (gI X.1, 512, .inl (r28.2.2 3).2.2.2.1)), (sm 3, .inl (gI X.1, 512, .inl (r28.2.2 3).2.2.2.2)), (sa 4, .inr (5, [.int (r28.2.2 4).1, .int (r28.2.2 4).2.1, .int (r28.2.2 4).2.2.1, .ref (sn 4), .ref (sm 4)])), (sn 4, .inl (gI X.1, 512, .inl (r28.2.2 4).2.2.2.1)), (sm 4, .inl (gI X.1, 512, .inl (r28.2.2 4).2.2.2.2)), (sa 5, .inr (5, [.int (r28.2.2 5).1, .int (r28.2.2 5).2.1, .int (r28.2.2 5).2.2.1, .ref (sn 5), .ref (sm 5)])), (sn 5, .inl (gI X.1, 512, .inl (r28.2.2 5).2.2.2.1)), (sm 5, .inl (gI X.1, 512, .inl (r28.2.2 5).2.2.2.2)), (h6, .inr (6, [.ref qs, .int 0])), (qs, .inl (gI X.1, 60, .inl tS))]) C 25 rfl 1 (by decide) in_X7_read_6 nw_X7_176 rfl (by decide +kernel) rfl rfl (Nat.le_of_ble_eq_true rfl) rfl dX7_read_102 ?_
          refine j_iload_n C dX7_read_105 rfl 1 rfl ?_
          obtain rfl := Option.some.inj hf
          obtain rfl := dz_go_inr hg37
          exact j_iret C hQ rfl dX7_read_106 (Nat.zero_le _) (Nat.zero_le _) ⟨rfl, rfl⟩
        refine j_icmp_gt C (tgt := 97) dX7_read_45 (by decide) (fun e45 => ?_) (fun e45 => ?_)
        · have hf := (if_pos e45).symm.trans hf
          refine j_loc [0, 1, 2, 3] rfl ?_
          exact k97 vN_37 hf
        · have hf := (if_neg e45).symm.trans hf
          refine j_iload_n C dX7_read_48 rfl 3 rfl ?_
          refine j_aload_n C dX7_read_49 rfl 0 rfl ?_
          refine j_get7 C 0 rfl 2 (by decide) in_X7_read_7 lk_X7_read_26 rfl dX7_read_50 ?_
          refine j_getN6 C 25 rfl 1 (by decide) in_X7_read_6 nw_X7_176 rfl dX7_read_53 ?_
          have k91 : ∀ (x91_1 : Int32) (x91_2 : Int32) (vN_91 : (Nat → Int32)), f_X7_read_J91 vN_91 x37_3 x91_1 x91_2 = some y37 → Jt X [(h7, .inr (7, [.ref h5, .ref h2, .ref h6, .ref h4, .ref h0, .ref h3, .ref h1, .ref qb])), (qb, .inl (gI X.1, 512, .inl nB)), (h5, .inr (5, [.int vD, .int vA, .int vL, .ref qn, .ref qm])), (qn, .inl (gI X.1, 512, .inl vN_91)), (qm, .inl (gI X.1, 512, .inl vM)), (h2, .inr (2, [.ref qh, .int r28.1, .int r28.2.1])), (qh, .inl (gO X.1, 6, .inr (.inr (.inr (.inr (fun k => some (sa k))))))), (sa 0, .inr (5, [.int (r28.2.2 0).1, .int (r28.2.2 0).2.1, .int (r28.2.2 0).2.2.1, .ref (sn 0), .ref (sm 0)])), (sn 0, .inl (gI X.1, 512, .inl (r28.2.2 0).2.2.2.1)), (sm 0, .inl (gI X.1, 512, .inl (r28.2.2 0).2.2.2.2)), (sa 1, .inr (5, [.int (r28.2.2 1).1, .int (r28.2.2 1).2.1, .int (r28.2.2 1).2.2.1, .ref (sn 1), .ref (sm 1)])), (sn 1, .inl (gI X.1, 512, .inl (r28.2.2 1).2.2.2.1)), (sm 1, .inl (gI X.1, 512, .inl (r28.2.2 1).2.2.2.2)), (sa 2, .inr (5, [.int (r28.2.2 2).1, .int (r28.2.2 2).2.1, .int (r28.2.2 2).2.2.1, .ref (sn 2), .ref (sm 2)])), (sn 2, .inl (gI X.1, 512, .inl (r28.2.2 2).2.2.2.1)), (sm 2, .inl (gI X.1, 512, .inl (r28.2.2 2).2.2.2.2)), (sa 3, .inr (5, [.int (r28.2.2 3).1, .int (r28.2.2 3).2.1, .int (r28.2.2 3).2.2.1, .ref (sn 3), .ref (sm 3)])), (sn 3, .inl (gI X.1, 512, .inl (r28.2.2 3).2.2.2.1)), (sm 3, .inl (gI X.1, 512, .inl (r28.2.2 3).2.2.2.2)), (sa 4, .inr (5, [.int (r28.2.2 4).1, .int (r28.2.2 4).2.1, .int (r28.2.2 4).2.2.1, .ref (sn 4), .ref (sm 4)])), (sn 4, .inl (gI X.1, 512, .inl (r28.2.2 4).2.2.2.1)), (sm 4, .inl (gI X.1, 512, .inl (r28.2.2 4).2.2.2.2)), (sa 5, .inr (5, [.int (r28.2.2 5).1, .int (r28.2.2 5).2.1, .int (r28.2.2 5).2.2.1, .ref (sn 5), .ref (sm 5)])), (sn 5, .inl (gI X.1, 512, .inl (r28.2.2 5).2.2.2.1)), (sm 5, .inl (gI X.1, 512, .inl (r28.2.2 5).2.2.2.2)), (h6, .inr (6, [.ref qs, .int tL])), (qs, .inl (gI X.1, 60, .inl tS))] 0 0 91 [(0, .ref h7), (1, .int x91_1), (2, .int x91_2), (3, .int x37_3)] [] := by
            intro x91_1 x91_2 vN_91 hf
            unfold f_X7_read_J91 at hf
            refine j_iinc (v := (x37_3 + 1)) (lv' := [(3, .int (x37_3 + 1)), (0, .ref h7), (1, .int x91_1), (2, .int x91_2)]) C dX7_read_91 3 rfl (by first | rfl | decide) (by decide) rfl ?_
            refine j_goto C (tgt := 37) dX7_read_94 (by decide) ?_
            obtain rfl := Option.some.inj hf
            have hf := dz_go_inl hg37
            refine j_loc [1, 2, 3, 0] rfl ?_
            exact ih37 x91_1 x91_2 (x37_3 + 1) vN_91 hf
          have k72 : f_X7_read_J72 vD tL tS r28 vN_37 x37_1 x37_2 x37_3 = some y37 → Jt X [(h7, .inr (7, [.ref h5, .ref h2, .ref h6, .ref h4, .ref h0, .ref h3, .ref h1, .ref qb])), (qb, .inl (gI X.1, 512, .inl nB)), (h5, .inr (5, [.int vD, .int vA, .int vL, .ref qn, .ref qm])), (qn, .inl (gI X.1, 512, .inl vN_37)), (qm, .inl (gI X.1, 512, .inl vM)), (h2, .inr (2, [.ref qh, .int r28.1, .int r28.2.1])), (qh, .inl (gO X.1, 6, .inr (.inr (.inr (.inr (fun k => some (sa k))))))), (sa 0, .inr (5, [.int (r28.2.2 0).1, .int (r28.2.2 0).2.1, .int (r28.2.2 0).2.2.1, .ref (sn 0), .ref (sm 0)])), (sn 0, .inl (gI X.1, 512, .inl (r28.2.2 0).2.2.2.1)), (sm 0, .inl (gI X.1, 512, .inl (r28.2.2 0).2.2.2.2)), (sa 1, .inr (5, [.int (r28.2.2 1).1, .int (r28.2.2 1).2.1, .int (r28.2.2 1).2.2.1, .ref (sn 1), .ref (sm 1)])), (sn 1, .inl (gI X.1, 512, .inl (r28.2.2 1).2.2.2.1)), (sm 1, .inl (gI X.1, 512, .inl (r28.2.2 1).2.2.2.2)), (sa 2, .inr (5, [.int (r28.2.2 2).1, .int (r28.2.2 2).2.1, .int (r28.2.2 2).2.2.1, .ref (sn 2), .ref (sm 2)])), (sn 2, .inl (gI X.1, 512, .inl (r28.2.2 2).2.2.2.1)), (sm 2, .inl (gI X.1, 512, .inl (r28.2.2 2).2.2.2.2)), (sa 3, .inr (5, [.int (r28.2.2 3).1, .int (r28.2.2 3).2.1, .int (r28.2.2 3).2.2.1, .ref (sn 3), .ref (sm 3)])), (sn 3, .inl (gI X.1, 512, .inl (r28.2.2 3).2.2.2.1)), (sm 3, .inl (gI X.1, 512, .inl (r28.2.2 3).2.2.2.2)), (sa 4, .inr (5, [.int (r28.2.2 4).1, .int (r28.2.2 4).2.1, .int (r28.2.2 4).2.2.1, .ref (sn 4), .ref (sm 4)])), (sn 4, .inl (gI X.1, 512, .inl (r28.2.2 4).2.2.2.1)), (sm 4, .inl (gI X.1, 512, .inl (r28.2.2 4).2.2.2.2)), (sa 5, .inr (5, [.int (r28.2.2 5).1, .int (r28.2.2 5).2.1, .int (r28.2.2 5).2.2.1, .ref (sn 5), .ref (sm 5)])), (sn 5, .inl (gI X.1, 512, .inl (r28.2.2 5).2.2.2.1)), (sm 5, .inl (gI X.1, 512, .inl (r28.2.2 5).2.2.2.2)), (h6, .inr (6, [.ref qs, .int tL])), (qs, .inl (gI X.1, 60, .inl tS))] 0 0 72 [(0, .ref h7), (1, .int x37_1), (2, .int x37_2), (3, .int x37_3)] [] := by
            intro  hf
            unfold f_X7_read_J72 at hf
            refine j_aload_n C dX7_read_72 rfl 0 rfl ?_
            refine j_iload_n C dX7_read_73 rfl 2 rfl ?_
            refine j_iload_n C dX7_read_74 rfl 3 rfl ?_
            obtain ⟨r75, hc75, hf⟩ := Option.bind_eq_some_iff.mp hf
            refine j_cV C (b_X7_doPoint X.1 hl h7 h5 h2 h6 h4 h0 h3 h1 qb qn qm qs vD vA vL vN_37 vM tL tS nB x37_2 x37_3 r75 hc75) k_X7_doPoint gX7_read_X7_doPoint rfl (ci := 7) (q0 := 0) rfl rfl (As := [.int x37_2, .int x37_3]) (rest := []) (st' := [.int r75.1]) (ws' := [(h7, .inr (7, [.ref h5, .ref h2, .ref h6, .ref h4, .ref h0, .ref h3, .ref h1, .ref qb])), (qb, .inl (gI X.1, 512, .inl nB)), (h5, .inr (5, [.int vD, .int vA, .int vL, .ref qn, .ref qm])), (qn, .inl (gI X.1, 512, .inl r75.2)), (qm, .inl (gI X.1, 512, .inl vM)), (h2, .inr (2, [.ref qh, .int r28.1, .int r28.2.1])), (qh, .inl (gO X.1, 6, .inr (.inr (.inr (.inr (fun k => some (sa k))))))), (sa 0, .inr (5, [.int (r28.2.2 0).1, .int (r28.2.2 0).2.1, .int (r28.2.2 0).2.2.1, .ref (sn 0), .ref (sm 0)])), (sn 0, .inl (gI X.1, 512, .inl (r28.2.2 0).2.2.2.1)), (sm 0, .inl (gI X.1, 512, .inl (r28.2.2 0).2.2.2.2)), (sa 1, .inr (5, [.int (r28.2.2 1).1, .int (r28.2.2 1).2.1, .int (r28.2.2 1).2.2.1, .ref (sn 1), .ref (sm 1)])), (sn 1, .inl (gI X.1, 512, .inl (r28.2.2 1).2.2.2.1)), (sm 1, .inl (gI X.1, 512, .inl (r28.2.2 1).2.2.2.2)), (sa 2, .inr (5, [.int (r28.2.2 2).1, .int (r28.2.2 2).2.1, .int (r28.2.2 2).2.2.1, .ref (sn 2), .ref (sm 2)])), (sn 2, .inl (gI X.1, 512, .inl (r28.2.2 2).2.2.2.1)), (sm 2, .inl (gI X.1, 512, .inl (r28.2.2 2).2.2.2.2)), (sa 3, .inr (5, [.int (r28.2.2 3).1, .int (r28.2.2 3).2.1, .int (r28.2.2 3).2.2.1, .ref (sn 3), .ref (sm 3)])), (sn 3, .inl (gI X.1, 512, .inl (r28.2.2 3).2.2.2.1)), (sm 3, .inl (gI X.1, 512, .inl (r28.2.2 3).2.2.2.2)), (sa 4, .inr (5, [.int (r28.2.2 4).1, .int (r28.2.2 4).2.1, .int (r28.2.2 4).2.2.1, .ref (sn 4), .ref (sm 4)])), (sn 4, .inl (gI X.1, 512, .inl (r28.2.2 4).2.2.2.1)), (sm 4, .inl (gI X.1, 512, .inl (r28.2.2 4).2.2.2.2)), (sa 5, .inr (5, [.int (r28.2.2 5).1, .int (r28.2.2 5).2.1, .int (r28.2.2 5).2.2.1, .ref (sn 5), .ref (sm 5)])), (sn 5, .inl (gI X.1, 512, .inl (r28.2.2 5).2.2.2.1)), (sm 5, .inl (gI X.1, 512, .inl (r28.2.2 5).2.2.2.2)), (h6, .inr (6, [.ref qs, .int tL])), (qs, .inl (gI X.1, 60, .inl tS))]) rfl rfl dX7_read_75 [0, 1, 2, 3, 4, 25, 26] [5, 6, 7, 8, 9, 10, 11, 12, 13, 14, 15, 16, 17, 18, 19, 20, 21, 22, 23, 24] [20, 21, 22, 23, 24, 0, 1, 2, 3, 4, 5, 6, 7, 8, 9, 10, 11, 12, 13, 14, 15, 16, 17, 18, 19, 25, 26] rfl rfl rfl rfl rfl rfl ?_
            refine j_if_ne C (tgt := 84) dX7_read_78 (by decide) (fun e78 => ?_) (fun e78 => ?_)
            · have hf := (if_neg e78).symm.trans hf
              refine j_iinc (v := (x37_1 + 1)) (lv' := [(1, .int (x37_1 + 1)), (0, .ref h7), (2, .int x37_2), (3, .int x37_3)]) C dX7_read_84 1 rfl (by first | rfl | decide) (by decide) rfl ?_
              refine j_iload_n C dX7_read_87 rfl 3 rfl ?_
              refine j_iconst C (v := 1) dX7_read_88 (by decide) ?_
              refine j_iadd C dX7_read_89 ?_
              refine j_istore_n (lv' := [(2, .int (x37_3 + 1)), (1, .int (x37_1 + 1)), (0, .ref h7), (3, .int x37_3)]) C dX7_read_90 rfl (by decide) rfl ?_
              refine j_loc [2, 1, 0, 3] rfl ?_
              exact k91 (x37_1 + 1) (x37_3 + 1) r75.2 hf
            · have hf := (if_pos e78).symm.trans hf
              refine j_goto C (tgt := 97) dX7_read_81 (by decide) ?_
              refine j_loc [0, 1, 2, 3] rfl ?_
              exact k97 r75.2 hf
          refine j_icmp_eq C (tgt := 72) dX7_read_56 (by decide) (fun e56 => ?_) (fun e56 => ?_)
          · have hf := (if_pos e56).symm.trans hf
            refine j_loc [0, 1, 2, 3] rfl ?_
            exact k72  hf
          · have hf := (if_neg e56).symm.trans hf
            refine j_aload_n C dX7_read_59 rfl 0 rfl ?_
            refine j_get7 C 0 rfl 2 (by decide) in_X7_read_7 lk_X7_read_26 rfl dX7_read_60 ?_
            refine j_iload_n C dX7_read_63 rfl 3 rfl ?_
            refine j_cV C (c_X6_sign X.1 hl h6 qs tL tS x37_3) k_X6_sign gX7_read_X6_sign rfl (ci := 6) (q0 := 0) rfl rfl (As := [.int x37_3]) (rest := []) (st' := [.int (f_X6_sign x37_3 tL tS)]) (ws' := [(h7, .inr (7, [.ref h5, .ref h2, .ref h6, .ref h4, .ref h0, .ref h3, .ref h1, .ref qb])), (qb, .inl (gI X.1, 512, .inl nB)), (h5, .inr (5, [.int vD, .int vA, .int vL, .ref qn, .ref qm])), (qn, .inl (gI X.1, 512, .inl vN_37)), (qm, .inl (gI X.1, 512, .inl vM)), (h2, .inr (2, [.ref qh, .int r28.1, .int r28.2.1])), (qh, .inl (gO X.1, 6, .inr (.inr (.inr (.inr (fun k => some (sa k))))))), (sa 0, .inr (5, [.int (r28.2.2 0).1, .int (r28.2.2 0).2.1, .int (r28.2.2 0).2.2.1, .ref (sn 0), .ref (sm 0)])), (sn 0, .inl (gI X.1, 512, .inl (r28.2.2 0).2.2.2.1)), (sm 0, .inl (gI X.1, 512, .inl (r28.2.2 0).2.2.2.2)), (sa 1, .inr (5, [.int (r28.2.2 1).1, .int (r28.2.2 1).2.1, .int (r28.2.2 1).2.2.1, .ref (sn 1), .ref (sm 1)])), (sn 1, .inl (gI X.1, 512, .inl (r28.2.2 1).2.2.2.1)), (sm 1, .inl (gI X.1, 512, .inl (r28.2.2 1).2.2.2.2)), (sa 2, .inr (5, [.int (r28.2.2 2).1, .int (r28.2.2 2).2.1, .int (r28.2.2 2).2.2.1, .ref (sn 2), .ref (sm 2)])), (sn 2, .inl (gI X.1, 512, .inl (r28.2.2 2).2.2.2.1)), (sm 2, .inl (gI X.1, 512, .inl (r28.2.2 2).2.2.2.2)), (sa 3, .inr (5, [.int (r28.2.2 3).1, .int (r28.2.2 3).2.1, .int (r28.2.2 3).2.2.1, .ref (sn 3), .ref (sm 3)])), (sn 3, .inl (gI X.1, 512, .inl (r28.2.2 3).2.2.2.1)), (sm 3, .inl (gI X.1, 512, .inl (r28.2.2 3).2.2.2.2)), (sa 4, .inr (5, [.int (r28.2.2 4).1, .int (r28.2.2 4).2.1, .int (r28.2.2 4).2.2.1, .ref (sn 4), .ref (sm 4)])), (sn 4, .inl (gI X.1, 512, .inl (r28.2.2 4).2.2.2.1)), (sm 4, .inl (gI X.1, 512, .inl (r28.2.2 4).2.2.2.2)), (sa 5, .inr (5, [.int (r28.2.2 5).1, .int (r28.2.2 5).2.1, .int (r28.2.2 5).2.2.1, .ref (sn 5), .ref (sm 5)])), (sn 5, .inl (gI X.1, 512, .inl (r28.2.2 5).2.2.2.1)), (sm 5, .inl (gI X.1, 512, .inl (r28.2.2 5).2.2.2.2)), (h6, .inr (6, [.ref qs, .int tL])), (qs, .inl (gI X.1, 60, .inl tS))]) rfl rfl dX7_read_64 [25, 26] [0, 1, 2, 3, 4, 5, 6, 7, 8, 9, 10, 11, 12, 13, 14, 15, 16, 17, 18, 19, 20, 21, 22, 23, 24] [0, 1, 2, 3, 4, 5, 6, 7, 8, 9, 10, 11, 12, 13, 14, 15, 16, 17, 18, 19, 20, 21, 22, 23, 24, 25, 26] rfl rfl rfl rfl rfl rfl ?_
            refine j_bipush C (v := 59) dX7_read_67 (by decide) ?_
            refine j_icmp_ne C (tgt := 91) dX7_read_69 (by decide) (fun e69 => ?_) (fun e69 => ?_)
            · have hf := (if_neg e69).symm.trans hf
              refine j_loc [0, 1, 2, 3] rfl ?_
              exact k91 x37_1 x37_2 vN_37 hf
            · have hf := (if_pos e69).symm.trans hf
              refine j_loc [0, 1, 2, 3] rfl ?_
              exact k72  hf
    refine j_loc [3, 2, 1, 0] rfl ?_
    exact kk37 _ 0 0 0 vN hf
  · have hf := (if_pos e7).symm.trans hf
    obtain rfl := Option.some.inj hf
    exact j_throw2 C hQ hex (is := 191) (text := "the buffer does not tell points") (by decide +kernel) tg_X7_read_2 wd_X7_read_x2 wd_X7_read_y2 dX7_read_10 dX7_read_13 dX7_read_14 dX7_read_16 dX7_read_19 rfl ⟨rfl, rfl⟩

theorem lk_X7_at_10 : Cond.fieldLink RX7 10 (TX7 0).1 (TX7 0).2.1 (TX7 0).2.2.1 ∈ wsX7_at := by decide +kernel
theorem in_X7_at_7 : ∀ w ∈ wsX70, w ∈ wsX7_at := by decide +kernel
theorem tg_X7_at_1 : ∀ w ∈ (vx_atS RX7 89 "java/lang/IndexOutOfBoundsException" ["java/lang/RuntimeException", "java/lang/Exception"]).filter goodWord, w ∈ wsX7_at := by decide +kernel
theorem wd_X7_at_x1 : Cond.classLink RX7 85 "java/lang/IndexOutOfBoundsException" ∈ wsX7_at := by decide +kernel
theorem wd_X7_at_y1 : Cond.initialized "java/lang/IndexOutOfBoundsException" ∈ wsX7_at := by decide +kernel
def f_X7_at (p1 : Int32) (p2 : Int32) (p3 : Int32) (vD : Int32) (vN : (Nat → Int32)) : Nat ⊕ (Int32) :=
  if (f_X5_hasPoint p1 p2 p3 vD) = 0 then .inl 1 else .inr (f_X5_number (f_X5_place p1 p2 p3 vD) vN)
abbrev rm_X7_at : Room := { frames := 6, cells := 1, slots := 6, locals := 90 }
theorem k_X7_at : Cf yX7_at wsX7_at rm_X7_at cX7_at 4 (some .int) 3 := ⟨⟨_, rfl⟩, by decide +kernel, by decide +kernel, by decide +kernel⟩
set_option maxRecDepth 100000 in
set_option maxHeartbeats 4000000 in
theorem b_X7_at (G : CG) (hl : (gL G).stackTraces = false) (h7 : Nat) (h5 : Nat) (h2 : Nat) (h6 : Nat) (h4 : Nat) (h0 : Nat) (h3 : Nat) (h1 : Nat) (qb : Nat) (qn : Nat) (qm : Nat) (vD : Int32) (vA : Int32) (vL : Int32) (vN : (Nat → Int32)) (vM : (Nat → Int32)) (nB : (Nat → Int32)) (p1 : Int32) (p2 : Int32) (p3 : Int32) (y : Nat ⊕ (Int32)) (hf : f_X7_at p1 p2 p3 vD vN = y) : Ct G yX7_at wsX7_at rm_X7_at [.ref h7, .int p1, .int p2, .int p3] [(h7, .inr (7, [.ref h5, .ref h2, .ref h6, .ref h4, .ref h0, .ref h3, .ref h1, .ref qb])), (qb, .inl (gI G, 512, .inl nB)), (h5, .inr (5, [.int vD, .int vA, .int vL, .ref qn, .ref qm])), (qn, .inl (gI G, 512, .inl vN)), (qm, .inl (gI G, 512, .inl vM))] (finX y (fun u => (some (.int u))) [(h7, .inr (7, [.ref h5, .ref h2, .ref h6, .ref h4, .ref h0, .ref h3, .ref h1, .ref qb])), (qb, .inl (gI G, 512, .inl nB)), (h5, .inr (5, [.int vD, .int vA, .int vL, .ref qn, .ref qm])), (qn, .inl (gI G, 512, .inl vN)), (qm, .inl (gI G, 512, .inl vM))] (fun u => [(h7, .inr (7, [.ref h5, .ref h2, .ref h6, .ref h4, .ref h0, .ref h3, .ref h1, .ref qb])), (qb, .inl (gI G, 512, .inl nB)), (h5, .inr (5, [.int vD, .int vA, .int vL, .ref qn, .ref qm])), (qn, .inl (gI G, 512, .inl vN)), (qm, .inl (gI G, 512, .inl vM))])) 1 6 := by
  refine Ct.of (cc := cX7_at) (N := 4) (ret := (some .int)) RX7 (by decide) rfl rfl hl (Nat.le_of_ble_eq_true rfl) (lv := [(0, .ref h7), (1, .int p1), (2, .int p2), (3, .int p3)]) rfl (fun X hXG C hex hnm hQ => ?_)
  subst hXG
  unfold f_X7_at at hf
  refine j_aload_n C dX7_at_0 rfl 0 rfl ?_
  refine j_get7 C 0 rfl 0 (by decide) in_X7_at_7 lk_X7_at_10 rfl dX7_at_1 ?_
  refine j_iload_n C dX7_at_4 rfl 1 rfl ?_
  refine j_iload_n C dX7_at_5 rfl 2 rfl ?_
  refine j_iload_n C dX7_at_6 rfl 3 rfl ?_
  refine j_cV C (c_X5_hasPoint X.1 hl h5 qn qm vD vA vL vN vM p1 p2 p3) k_X5_hasPoint gX7_at_X5_hasPoint rfl (ci := 5) (q0 := 0) rfl rfl (As := [.int p1, .int p2, .int p3]) (rest := []) (st' := [.int (f_X5_hasPoint p1 p2 p3 vD)]) (ws' := [(h7, .inr (7, [.ref h5, .ref h2, .ref h6, .ref h4, .ref h0, .ref h3, .ref h1, .ref qb])), (qb, .inl (gI X.1, 512, .inl nB)), (h5, .inr (5, [.int vD, .int vA, .int vL, .ref qn, .ref qm])), (qn, .inl (gI X.1, 512, .inl vN)), (qm, .inl (gI X.1, 512, .inl vM))]) rfl rfl dX7_at_7 [2, 3, 4] [0, 1] [0, 1, 2, 3, 4] rfl rfl rfl rfl rfl rfl ?_
  refine j_if_ne C (tgt := 23) dX7_at_10 (by decide) (fun e10 => ?_) (fun e10 => ?_)
  · have hf := (if_neg e10).symm.trans hf
    refine j_aload_n C dX7_at_23 rfl 0 rfl ?_
    refine j_get7 C 0 rfl 0 (by decide) in_X7_at_7 lk_X7_at_10 rfl dX7_at_24 ?_
    refine j_aload_n C dX7_at_27 rfl 0 rfl ?_
    refine j_get7 C 0 rfl 0 (by decide) in_X7_at_7 lk_X7_at_10 rfl dX7_at_28 ?_
    refine j_iload_n C dX7_at_31 rfl 1 rfl ?_
    refine j_iload_n C dX7_at_32 rfl 2 rfl ?_
    refine j_iload_n C dX7_at_33 rfl 3 rfl ?_
    refine j_cV C (c_X5_place X.1 hl h5 qn qm vD vA vL vN vM p1 p2 p3) k_X5_place gX7_at_X5_place rfl (ci := 5) (q0 := 0) rfl rfl (As := [.int p1, .int p2, .int p3]) (rest := [.ref h5]) (st' := [.int (f_X5_place p1 p2 p3 vD), .ref h5]) (ws' := [(h7, .inr (7, [.ref h5, .ref h2, .ref h6, .ref h4, .ref h0, .ref h3, .ref h1, .ref qb])), (qb, .inl (gI X.1, 512, .inl nB)), (h5, .inr (5, [.int vD, .int vA, .int vL, .ref qn, .ref qm])), (qn, .inl (gI X.1, 512, .inl vN)), (qm, .inl (gI X.1, 512, .inl vM))]) rfl rfl dX7_at_34 [2, 3, 4] [0, 1] [0, 1, 2, 3, 4] rfl rfl rfl rfl rfl rfl ?_
    refine j_cV C (c_X5_number X.1 hl h5 qn qm vD vA vL vN vM (f_X5_place p1 p2 p3 vD)) k_X5_number gX7_at_X5_number rfl (ci := 5) (q0 := 0) rfl rfl (As := [.int (f_X5_place p1 p2 p3 vD)]) (rest := []) (st' := [.int (f_X5_number (f_X5_place p1 p2 p3 vD) vN)]) (ws' := [(h7, .inr (7, [.ref h5, .ref h2, .ref h6, .ref h4, .ref h0, .ref h3, .ref h1, .ref qb])), (qb, .inl (gI X.1, 512, .inl nB)), (h5, .inr (5, [.int vD, .int vA, .int vL, .ref qn, .ref qm])), (qn, .inl (gI X.1, 512, .inl vN)), (qm, .inl (gI X.1, 512, .inl vM))]) rfl rfl dX7_at_37 [2, 3, 4] [0, 1] [0, 1, 2, 3, 4] rfl rfl rfl rfl rfl rfl ?_
    subst hf
    exact j_iret C hQ rfl dX7_at_40 (Nat.zero_le _) (Nat.zero_le _) ⟨rfl, rfl⟩
  · have hf := (if_pos e10).symm.trans hf
    subst hf
    exact j_throw1 C hQ hex (is := 87) (text := "no such point") (by decide +kernel) tg_X7_at_1 wd_X7_at_x1 wd_X7_at_y1 dX7_at_13 dX7_at_16 dX7_at_17 dX7_at_19 dX7_at_22 rfl ⟨rfl, rfl⟩

theorem lk_X7_line_10 : Cond.fieldLink RX7 10 (TX7 0).1 (TX7 0).2.1 (TX7 0).2.2.1 ∈ wsX7_line := by decide +kernel
theorem in_X7_line_7 : ∀ w ∈ wsX70, w ∈ wsX7_line := by decide +kernel
theorem tg_X7_line_1 : ∀ w ∈ (vx_atS RX7 89 "java/lang/IndexOutOfBoundsException" ["java/lang/RuntimeException", "java/lang/Exception"]).filter goodWord, w ∈ wsX7_line := by decide +kernel
theorem wd_X7_line_x1 : Cond.classLink RX7 85 "java/lang/IndexOutOfBoundsException" ∈ wsX7_line := by decide +kernel
theorem wd_X7_line_y1 : Cond.initialized "java/lang/IndexOutOfBoundsException" ∈ wsX7_line := by decide +kernel
theorem tg_X7_line_2 : ∀ w ∈ (vx_atS RX7 66 "java/lang/IllegalArgumentException" ["java/lang/RuntimeException", "java/lang/Exception"]).filter goodWord, w ∈ wsX7_line := by decide +kernel
theorem wd_X7_line_x2 : Cond.classLink RX7 62 "java/lang/IllegalArgumentException" ∈ wsX7_line := by decide +kernel
theorem wd_X7_line_y2 : Cond.initialized "java/lang/IllegalArgumentException" ∈ wsX7_line := by decide +kernel
def f_X7_line (p1 : Int32) (p2 : Int32) (p3 : Int32) (vD : Int32) (vN : (Nat → Int32)) : Option (Nat ⊕ (Int32)) :=
  if (f_X5_hasCoordinate p2 vD) = 0 then some (.inl 1) else if (f_X5_hasCoordinate p3 vD) = 0 then some (.inl 1) else if (f_X7_isAxis p1) = 0 then some (.inl 2) else Option.bind (f_X5_lineSum p1 p2 p3 vD vN) (fun r56 => some (.inr r56))
abbrev rm_X7_line : Room := { frames := 6, cells := 1, slots := 6, locals := 90 }
theorem k_X7_line : Cf yX7_line wsX7_line rm_X7_line cX7_line 4 (some .int) 3 := ⟨⟨_, rfl⟩, by decide +kernel, by decide +kernel, by decide +kernel⟩
set_option maxRecDepth 100000 in
set_option maxHeartbeats 4000000 in
theorem b_X7_line (G : CG) (hl : (gL G).stackTraces = false) (h7 : Nat) (h5 : Nat) (h2 : Nat) (h6 : Nat) (h4 : Nat) (h0 : Nat) (h3 : Nat) (h1 : Nat) (qb : Nat) (qn : Nat) (qm : Nat) (vD : Int32) (vA : Int32) (vL : Int32) (vN : (Nat → Int32)) (vM : (Nat → Int32)) (nB : (Nat → Int32)) (p1 : Int32) (p2 : Int32) (p3 : Int32) (y : Nat ⊕ (Int32)) (hf : f_X7_line p1 p2 p3 vD vN = some y) : Ct G yX7_line wsX7_line rm_X7_line [.ref h7, .int p1, .int p2, .int p3] [(h7, .inr (7, [.ref h5, .ref h2, .ref h6, .ref h4, .ref h0, .ref h3, .ref h1, .ref qb])), (qb, .inl (gI G, 512, .inl nB)), (h5, .inr (5, [.int vD, .int vA, .int vL, .ref qn, .ref qm])), (qn, .inl (gI G, 512, .inl vN)), (qm, .inl (gI G, 512, .inl vM))] (finX y (fun u => (some (.int u))) [(h7, .inr (7, [.ref h5, .ref h2, .ref h6, .ref h4, .ref h0, .ref h3, .ref h1, .ref qb])), (qb, .inl (gI G, 512, .inl nB)), (h5, .inr (5, [.int vD, .int vA, .int vL, .ref qn, .ref qm])), (qn, .inl (gI G, 512, .inl vN)), (qm, .inl (gI G, 512, .inl vM))] (fun u => [(h7, .inr (7, [.ref h5, .ref h2, .ref h6, .ref h4, .ref h0, .ref h3, .ref h1, .ref qb])), (qb, .inl (gI G, 512, .inl nB)), (h5, .inr (5, [.int vD, .int vA, .int vL, .ref qn, .ref qm])), (qn, .inl (gI G, 512, .inl vN)), (qm, .inl (gI G, 512, .inl vM))])) 1 6 := by
  refine Ct.of (cc := cX7_line) (N := 4) (ret := (some .int)) RX7 (by decide) rfl rfl hl (Nat.le_of_ble_eq_true rfl) (lv := [(0, .ref h7), (1, .int p1), (2, .int p2), (3, .int p3)]) rfl (fun X hXG C hex hnm hQ => ?_)
  subst hXG
  unfold f_X7_line at hf
  refine j_aload_n C dX7_line_0 rfl 0 rfl ?_
  refine j_get7 C 0 rfl 0 (by decide) in_X7_line_7 lk_X7_line_10 rfl dX7_line_1 ?_
  refine j_iload_n C dX7_line_4 rfl 2 rfl ?_
  refine j_cV C (c_X5_hasCoordinate X.1 hl h5 qn qm vD vA vL vN vM p2) k_X5_hasCoordinate gX7_line_X5_hasCoordinate rfl (ci := 5) (q0 := 0) rfl rfl (As := [.int p2]) (rest := []) (st' := [.int (f_X5_hasCoordinate p2 vD)]) (ws' := [(h7, .inr (7, [.ref h5, .ref h2, .ref h6, .ref h4, .ref h0, .ref h3, .ref h1, .ref qb])), (qb, .inl (gI X.1, 512, .inl nB)), (h5, .inr (5, [.int vD, .int vA, .int vL, .ref qn, .ref qm])), (qn, .inl (gI X.1, 512, .inl vN)), (qm, .inl (gI X.1, 512, .inl vM))]) rfl rfl dX7_line_5 [2, 3, 4] [0, 1] [0, 1, 2, 3, 4] rfl rfl rfl rfl rfl rfl ?_
  refine j_if_eq C (tgt := 22) dX7_line_8 (by decide) (fun e8 => ?_) (fun e8 => ?_)
  · have hf := (if_pos e8).symm.trans hf
    obtain rfl := Option.some.inj hf
    exact j_throw1 C hQ hex (is := 126) (text := "no such coordinate") (by decide +kernel) tg_X7_line_1 wd_X7_line_x1 wd_X7_line_y1 dX7_line_22 dX7_line_25 dX7_line_26 dX7_line_28 dX7_line_31 rfl ⟨rfl, rfl⟩
  · have hf := (if_neg e8).symm.trans hf
    refine j_aload_n C dX7_line_11 rfl 0 rfl ?_
    refine j_get7 C 0 rfl 0 (by decide) in_X7_line_7 lk_X7_line_10 rfl dX7_line_12 ?_
    refine j_iload_n C dX7_line_15 rfl 3 rfl ?_
    refine j_cV C (c_X5_hasCoordinate X.1 hl h5 qn qm vD vA vL vN vM p3) k_X5_hasCoordinate gX7_line_X5_hasCoordinate rfl (ci := 5) (q0 := 0) rfl rfl (As := [.int p3]) (rest := []) (st' := [.int (f_X5_hasCoordinate p3 vD)]) (ws' := [(h7, .inr (7, [.ref h5, .ref h2, .ref h6, .ref h4, .ref h0, .ref h3, .ref h1, .ref qb])), (qb, .inl (gI X.1, 512, .inl nB)), (h5, .inr (5, [.int vD, .int vA, .int vL, .ref qn, .ref qm])), (qn, .inl (gI X.1, 512, .inl vN)), (qm, .inl (gI X.1, 512, .inl vM))]) rfl rfl dX7_line_16 [2, 3, 4] [0, 1] [0, 1, 2, 3, 4] rfl rfl rfl rfl rfl rfl ?_
    refine j_if_ne C (tgt := 32) dX7_line_19 (by decide) (fun e19 => ?_) (fun e19 => ?_)
    · have hf := (if_neg e19).symm.trans hf
      refine j_iload_n C dX7_line_32 rfl 1 rfl ?_
      refine j_cS C (c_X7_isAxis X.1 hl p1) k_X7_isAxis gX7_line_X7_isAxis (As := [.int p1]) (rest := []) (st' := [.int (f_X7_isAxis p1)]) (ws' := [(h7, .inr (7, [.ref h5, .ref h2, .ref h6, .ref h4, .ref h0, .ref h3, .ref h1, .ref qb])), (qb, .inl (gI X.1, 512, .inl nB)), (h5, .inr (5, [.int vD, .int vA, .int vL, .ref qn, .ref qm])), (qn, .inl (gI X.1, 512, .inl vN)), (qm, .inl (gI X.1, 512, .inl vM))]) rfl rfl dX7_line_33 [] [0, 1, 2, 3, 4] [0, 1, 2, 3, 4] rfl rfl rfl rfl rfl rfl ?_
      refine j_if_ne C (tgt := 49) dX7_line_36 (by decide) (fun e36 => ?_) (fun e36 => ?_)
      · have hf := (if_neg e36).symm.trans hf
        refine j_aload_n C dX7_line_49 rfl 0 rfl ?_
        refine j_get7 C 0 rfl 0 (by decide) in_X7_line_7 lk_X7_line_10 rfl dX7_line_50 ?_
        refine j_iload_n C dX7_line_53 rfl 1 rfl ?_
        refine j_iload_n C dX7_line_54 rfl 2 rfl ?_
        refine j_iload_n C dX7_line_55 rfl 3 rfl ?_
        obtain ⟨r56, hc56, hf⟩ := Option.bind_eq_some_iff.mp hf
        refine j_cV C (b_X5_lineSum X.1 hl h5 qn qm vD vA vL vN vM p1 p2 p3 r56 hc56) k_X5_lineSum gX7_line_X5_lineSum rfl (ci := 5) (q0 := 0) rfl rfl (As := [.int p1, .int p2, .int p3]) (rest := []) (st' := [.int r56]) (ws' := [(h7, .inr (7, [.ref h5, .ref h2, .ref h6, .ref h4, .ref h0, .ref h3, .ref h1, .ref qb])), (qb, .inl (gI X.1, 512, .inl nB)), (h5, .inr (5, [.int vD, .int vA, .int vL, .ref qn, .ref qm])), (qn, .inl (gI X.1, 512, .inl vN)), (qm, .inl (gI X.1, 512, .inl vM))]) rfl rfl dX7_line_56 [2, 3, 4] [0, 1] [0, 1, 2, 3, 4] rfl rfl rfl rfl rfl rfl ?_
        obtain rfl := Option.some.inj hf
        exact j_iret C hQ rfl dX7_line_59 (Nat.zero_le _) (Nat.zero_le _) ⟨rfl, rfl⟩
      · have hf := (if_pos e36).symm.trans hf
        obtain rfl := Option.some.inj hf
        exact j_throw2 C hQ hex (is := 131) (text := "the axis is out of range") (by decide +kernel) tg_X7_line_2 wd_X7_line_x2 wd_X7_line_y2 dX7_line_39 dX7_line_42 dX7_line_43 dX7_line_45 dX7_line_48 rfl ⟨rfl, rfl⟩
    · have hf := (if_pos e19).symm.trans hf
      obtain rfl := Option.some.inj hf
      exact j_throw1 C hQ hex (is := 126) (text := "no such coordinate") (by decide +kernel) tg_X7_line_1 wd_X7_line_x1 wd_X7_line_y1 dX7_line_22 dX7_line_25 dX7_line_26 dX7_line_28 dX7_line_31 rfl ⟨rfl, rfl⟩

end
