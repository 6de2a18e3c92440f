noncomputable section
theorem lk_X7_slice_10 : Cond.fieldLink RX7 10 (TX7 0).1 (TX7 0).2.1 (TX7 0).2.2.1 ∈ wsX7_slice := by decide +kernel
theorem in_X7_slice_7 : ∀ w ∈ wsX70, w ∈ wsX7_slice := by decide +kernel
theorem lk_X7_slice_33 : Cond.fieldLink RX7 33 (TX7 3).1 (TX7 3).2.1 (TX7 3).2.2.1 ∈ wsX7_slice := by decide +kernel
theorem in_X7_slice_5 : ∀ w ∈ wsX50, w ∈ wsX7_slice := by decide +kernel
theorem tg_X7_slice_2 : ∀ w ∈ (vx_atS RX7 66 "java/lang/IllegalArgumentException" ["java/lang/RuntimeException", "java/lang/Exception"]).filter goodWord, w ∈ wsX7_slice := by decide +kernel
theorem wd_X7_slice_x2 : Cond.classLink RX7 62 "java/lang/IllegalArgumentException" ∈ wsX7_slice := by decide +kernel
theorem wd_X7_slice_y2 : Cond.initialized "java/lang/IllegalArgumentException" ∈ wsX7_slice := by decide +kernel
theorem tg_X7_slice_1 : ∀ w ∈ (vx_atS RX7 89 "java/lang/IndexOutOfBoundsException" ["java/lang/RuntimeException", "java/lang/Exception"]).filter goodWord, w ∈ wsX7_slice := by decide +kernel
theorem wd_X7_slice_x1 : Cond.classLink RX7 85 "java/lang/IndexOutOfBoundsException" ∈ wsX7_slice := by decide +kernel
theorem wd_X7_slice_y1 : Cond.initialized "java/lang/IndexOutOfBoundsException" ∈ wsX7_slice := by decide +kernel
def f_X7_slice (p1 : Int32) (p2 : Int32) (p3 : Int32) (vD : Int32) (vL : Int32) (vN : (Nat → Int32)) (lS : (Nat → Int32)) (lF : (Nat → Int32)) (lG : (Nat → Int32)) (lR : (Nat → Int32)) : Option (Nat ⊕ (Int32 × Int32 × (Nat → Int32) × (Nat → Int32) × (Nat → Int32) × (Nat → Int32))) :=
  if (f_X5_hasCoordinate p2 vD) = 0 then some (.inl 1) else if (f_X7_isAxis p1) = 0 then some (.inl 2) else if p3 < 0 then some (.inl 2) else if p3 ≤ 4 then Option.bind (f_X4_lookAt p1 p2 vD vN lS lF lG lR) (fun r57 => some (.inr ((f_X4_told p2 p3 vL r57.1 r57.2.1 r57.2.2.1 r57.2.2.2.1 r57.2.2.2.2), r57.1, r57.2.1, r57.2.2.1, r57.2.2.2.1, r57.2.2.2.2))) else some (.inl 2)
abbrev rm_X7_slice : Room := { frames := 6, cells := 1, slots := 6, locals := 105 }
theorem k_X7_slice : Cf yX7_slice wsX7_slice rm_X7_slice cX7_slice 4 (some .int) 3 := ⟨⟨_, rfl⟩, by decide +kernel, by decide +kernel, by decide +kernel⟩
set_option maxRecDepth 100000 in
set_option maxHeartbeats 4000000 in
theorem b_X7_slice (G : CG) (hl : (gL G).stackTraces = false) (h7 : Nat) (h5 : Nat) (h2 : Nat) (h6 : Nat) (h4 : Nat) (h0 : Nat) (h3 : Nat) (h1 : Nat) (qb : Nat) (qn : Nat) (qm : Nat) (a1 : Nat) (a2 : Nat) (a3 : Nat) (a4 : Nat) (vD : Int32) (vA : Int32) (vL : Int32) (vN : (Nat → Int32)) (vM : (Nat → Int32)) (lD : Int32) (lS : (Nat → Int32)) (lF : (Nat → Int32)) (lG : (Nat → Int32)) (lR : (Nat → Int32)) (nB : (Nat → Int32)) (p1 : Int32) (p2 : Int32) (p3 : Int32) (y : Nat ⊕ (Int32 × Int32 × (Nat → Int32) × (Nat → Int32) × (Nat → Int32) × (Nat → Int32))) (hf : f_X7_slice p1 p2 p3 vD vL vN lS lF lG lR = some y) : Ct G yX7_slice wsX7_slice rm_X7_slice [.ref h7, .int p1, .int p2, .int p3] [(h7, .inr (7, [.ref h5, .ref h2, .ref h6, .ref h4, .ref h0, .ref h3, .ref h1, .ref qb])), (qb, .inl (gI G, 512, .inl nB)), (h5, .inr (5, [.int vD, .int vA, .int vL, .ref qn, .ref qm])), (qn, .inl (gI G, 512, .inl vN)), (qm, .inl (gI G, 512, .inl vM)), (h4, .inr (4, [.int lD, .ref a1, .ref a2, .ref a3, .ref a4])), (a1, .inl (gI G, 8, .inl lS)), (a2, .inl (gI G, 8, .inl lF)), (a3, .inl (gI G, 8, .inl lG)), (a4, .inl (gI G, 8, .inl lR))] (finX y (fun u => (some (.int u.1))) [(h7, .inr (7, [.ref h5, .ref h2, .ref h6, .ref h4, .ref h0, .ref h3, .ref h1, .ref qb])), (qb, .inl (gI G, 512, .inl nB)), (h5, .inr (5, [.int vD, .int vA, .int vL, .ref qn, .ref qm])), (qn, .inl (gI G, 512, .inl vN)), (qm, .inl (gI G, 512, .inl vM)), (h4, .inr (4, [.int lD, .ref a1, .ref a2, .ref a3, .ref a4])), (a1, .inl (gI G, 8, .inl lS)), (a2, .inl (gI G, 8, .inl lF)), (a3, .inl (gI G, 8, .inl lG)), (a4, .inl (gI G, 8, .inl lR))] (fun u => [(h7, .inr (7, [.ref h5, .ref h2, .ref h6, .ref h4, .ref h0, .ref h3, .ref h1, .ref qb])), (qb, .inl (gI G, 512, .inl nB)), (h5, .inr (5, [.int vD, .int vA, .int vL, .ref qn, .ref qm])), (qn, .inl (gI G, 512, .inl vN)), (qm, .inl (gI G, 512, .inl vM)), (h4, .inr (4, [.int u.2.1, .ref a1, .ref a2, .ref a3, .ref a4])), (a1, .inl (gI G, 8, .inl u.2.2.1)), (a2, .inl (gI G, 8, .inl u.2.2.2.1)), (a3, .inl (gI G, 8, .inl u.2.2.2.2.1)), (a4, .inl (gI G, 8, .inl u.2.2.2.2.2))])) 1 6 := by
  refine Ct.of (cc := cX7_slice) (N := 4) (ret := (some .int)) RX7 (by decide) rfl rfl hl (Nat.le_of_ble_eq_true rfl) (lv := [(0, .ref h7), (1, .int p1), (2, .int p2), (3, .int p3)]) rfl (fun X hXG C hex hnm hQ => ?_)
  subst hXG
  unfold f_X7_slice at hf
  refine j_aload_n C dX7_slice_0 rfl 0 rfl ?_
  refine j_get7 C 0 rfl 0 (by decide) in_X7_slice_7 lk_X7_slice_10 rfl dX7_slice_1 ?_
  refine j_iload_n C dX7_slice_4 rfl 2 rfl ?_
  refine j_cV C (c_X5_hasCoordinate X.1 hl h5 qn qm vD vA vL vN vM p2) k_X5_hasCoordinate gX7_slice_X5_hasCoordinate rfl (ci := 5) (q0 := 0) rfl rfl (As := [.int p2]) (rest := []) (st' := [.int (f_X5_hasCoordinate p2 vD)]) (ws' := [(h7, .inr (7, [.ref h5, .ref h2, .ref h6, .ref h4, .ref h0, .ref h3, .ref h1, .ref qb])), (qb, .inl (gI X.1, 512, .inl nB)), (h5, .inr (5, [.int vD, .int vA, .int vL, .ref qn, .ref qm])), (qn, .inl (gI X.1, 512, .inl vN)), (qm, .inl (gI X.1, 512, .inl vM)), (h4, .inr (4, [.int lD, .ref a1, .ref a2, .ref a3, .ref a4])), (a1, .inl (gI X.1, 8, .inl lS)), (a2, .inl (gI X.1, 8, .inl lF)), (a3, .inl (gI X.1, 8, .inl lG)), (a4, .inl (gI X.1, 8, .inl lR))]) rfl rfl dX7_slice_5 [2, 3, 4] [0, 1, 5, 6, 7, 8, 9] [0, 1, 7, 8, 9, 2, 3, 4, 5, 6] rfl rfl rfl rfl rfl rfl ?_
  refine j_if_ne C (tgt := 21) dX7_slice_8 (by decide) (fun e8 => ?_) (fun e8 => ?_)
  · have hf := (if_neg e8).symm.trans hf
    refine j_iload_n C dX7_slice_21 rfl 1 rfl ?_
    refine j_cS C (c_X7_isAxis X.1 hl p1) k_X7_isAxis gX7_slice_X7_isAxis (As := [.int p1]) (rest := []) (st' := [.int (f_X7_isAxis p1)]) (ws' := [(h7, .inr (7, [.ref h5, .ref h2, .ref h6, .ref h4, .ref h0, .ref h3, .ref h1, .ref qb])), (qb, .inl (gI X.1, 512, .inl nB)), (h5, .inr (5, [.int vD, .int vA, .int vL, .ref qn, .ref qm])), (qn, .inl (gI X.1, 512, .inl vN)), (qm, .inl (gI X.1, 512, .inl vM)), (h4, .inr (4, [.int lD, .ref a1, .ref a2, .ref a3, .ref a4])), (a1, .inl (gI X.1, 8, .inl lS)), (a2, .inl (gI X.1, 8, .inl lF)), (a3, .inl (gI X.1, 8, .inl lG)), (a4, .inl (gI X.1, 8, .inl lR))]) rfl rfl dX7_slice_22 [] [0, 1, 2, 3, 4, 5, 6, 7, 8, 9] [0, 1, 2, 3, 4, 5, 6, 7, 8, 9] rfl rfl rfl rfl rfl rfl ?_
    refine j_if_eq C (tgt := 37) dX7_slice_25 (by decide) (fun e25 => ?_) (fun e25 => ?_)
    · have hf := (if_pos e25).symm.trans hf
      obtain rfl := Option.some.inj hf
      exact j_throw2 C hQ hex (is := 215) (text := "the axis or what is asked is out of range") (by decide +kernel) tg_X7_slice_2 wd_X7_slice_x2 wd_X7_slice_y2 dX7_slice_37 dX7_slice_40 dX7_slice_41 dX7_slice_43 dX7_slice_46 rfl ⟨rfl, rfl⟩
    · have hf := (if_neg e25).symm.trans hf
      refine j_iload_n C dX7_slice_28 rfl 3 rfl ?_
      refine j_if_lt C (tgt := 37) dX7_slice_29 (by decide) (fun e29 => ?_) (fun e29 => ?_)
      · have hf := (if_pos e29).symm.trans hf
        obtain rfl := Option.some.inj hf
        exact j_throw2 C hQ hex (is := 215) (text := "the axis or what is asked is out of range") (by decide +kernel) tg_X7_slice_2 wd_X7_slice_x2 wd_X7_slice_y2 dX7_slice_37 dX7_slice_40 dX7_slice_41 dX7_slice_43 dX7_slice_46 rfl ⟨rfl, rfl⟩
      · have hf := (if_neg e29).symm.trans hf
        refine j_iload_n C dX7_slice_32 rfl 3 rfl ?_
        refine j_iconst C (v := 4) dX7_slice_33 (by decide) ?_
        refine j_icmp_le C (tgt := 47) dX7_slice_34 (by decide) (fun e34 => ?_) (fun e34 => ?_)
        · have hf := (if_pos e34).symm.trans hf
          refine j_aload_n C dX7_slice_47 rfl 0 rfl ?_
          refine j_get7 C 0 rfl 3 (by decide) in_X7_slice_7 lk_X7_slice_33 rfl dX7_slice_48 ?_
          refine j_aload_n C dX7_slice_51 rfl 0 rfl ?_
          refine j_get7 C 0 rfl 0 (by decide) in_X7_slice_7 lk_X7_slice_10 rfl dX7_slice_52 ?_
          refine j_iload_n C dX7_slice_55 rfl 1 rfl ?_
          refine j_iload_n C dX7_slice_56 rfl 2 rfl ?_
          obtain ⟨r57, hc57, hf⟩ := Option.bind_eq_some_iff.mp hf
          refine j_cV C (b_X4_lookAt X.1 hl h4 a1 a2 a3 a4 h5 qn qm vD vA vL vN vM lD lS lF lG lR p1 p2 r57 hc57) k_X4_lookAt gX7_slice_X4_lookAt rfl (ci := 4) (q0 := 0) rfl rfl (As := [.ref h5, .int p1, .int p2]) (rest := []) (st' := []) (ws' := [(h7, .inr (7, [.ref h5, .ref h2, .ref h6, .ref h4, .ref h0, .ref h3, .ref h1, .ref qb])), (qb, .inl (gI X.1, 512, .inl nB)), (h5, .inr (5, [.int vD, .int vA, .int vL, .ref qn, .ref qm])), (qn, .inl (gI X.1, 512, .inl vN)), (qm, .inl (gI X.1, 512, .inl vM)), (h4, .inr (4, [.int r57.1, .ref a1, .ref a2, .ref a3, .ref a4])), (a1, .inl (gI X.1, 8, .inl r57.2.1)), (a2, .inl (gI X.1, 8, .inl r57.2.2.1)), (a3, .inl (gI X.1, 8, .inl r57.2.2.2.1)), (a4, .inl (gI X.1, 8, .inl r57.2.2.2.2))]) rfl rfl dX7_slice_57 [5, 6, 7, 8, 9, 2, 3, 4] [0, 1] [0, 1, 7, 8, 9, 2, 3, 4, 5, 6] rfl rfl rfl rfl rfl rfl ?_
          refine j_aload_n C dX7_slice_60 rfl 0 rfl ?_
          refine j_get7 C 0 rfl 3 (by decide) in_X7_slice_7 lk_X7_slice_33 rfl dX7_slice_61 ?_
          refine j_iload_n C dX7_slice_64 rfl 2 rfl ?_
          refine j_iload_n C dX7_slice_65 rfl 3 rfl ?_
          refine j_aload_n C dX7_slice_66 rfl 0 rfl ?_
          refine j_get7 C 0 rfl 0 (by decide) in_X7_slice_7 lk_X7_slice_10 rfl dX7_slice_67 ?_
          refine j_getN5 C 2 rfl 2 (by decide) in_X7_slice_5 nw_X7_171 rfl dX7_slice_70 ?_
          refine j_cV C (c_X4_told X.1 hl h4 a1 a2 a3 a4 r57.1 r57.2.1 r57.2.2.1 r57.2.2.2.1 r57.2.2.2.2 p2 p3 vL) k_X4_told gX7_slice_X4_told rfl (ci := 4) (q0 := 0) rfl rfl (As := [.int p2, .int p3, .int vL]) (rest := []) (st' := [.int (f_X4_told p2 p3 vL r57.1 r57.2.1 r57.2.2.1 r57.2.2.2.1 r57.2.2.2.2)]) (ws' := [(h7, .inr (7, [.ref h5, .ref h2, .ref h6, .ref h4, .ref h0, .ref h3, .ref h1, .ref qb])), (qb, .inl (gI X.1, 512, .inl nB)), (h5, .inr (5, [.int vD, .int vA, .int vL, .ref qn, .ref qm])), (qn, .inl (gI X.1, 512, .inl vN)), (qm, .inl (gI X.1, 512, .inl vM)), (h4, .inr (4, [.int r57.1, .ref a1, .ref a2, .ref a3, .ref a4])), (a1, .inl (gI X.1, 8, .inl r57.2.1)), (a2, .inl (gI X.1, 8, .inl r57.2.2.1)), (a3, .inl (gI X.1, 8, .inl r57.2.2.2.1)), (a4, .inl (gI X.1, 8, .inl r57.2.2.2.2))]) rfl rfl dX7_slice_73 [5, 6, 7, 8, 9] [0, 1, 2, 3, 4] [0, 1, 2, 3, 4, 5, 6, 7, 8, 9] rfl rfl rfl rfl rfl rfl ?_
          obtain rfl := Option.some.inj hf
          exact j_iret C hQ rfl dX7_slice_76 (Nat.zero_le _) (Nat.zero_le _) ⟨rfl, rfl⟩
        · have hf := (if_neg e34).symm.trans hf
          obtain rfl := Option.some.inj hf
          exact j_throw2 C hQ hex (is := 215) (text := "the axis or what is asked is out of range") (by decide +kernel) tg_X7_slice_2 wd_X7_slice_x2 wd_X7_slice_y2 dX7_slice_37 dX7_slice_40 dX7_slice_41 dX7_slice_43 dX7_slice_46 rfl ⟨rfl, rfl⟩
  · have hf := (if_pos e8).symm.trans hf
    obtain rfl := Option.some.inj hf
    exact j_throw1 C hQ hex (is := 126) (text := "no such coordinate") (by decide +kernel) tg_X7_slice_1 wd_X7_slice_x1 wd_X7_slice_y1 dX7_slice_11 dX7_slice_14 dX7_slice_15 dX7_slice_17 dX7_slice_20 rfl ⟨rfl, rfl⟩

theorem lk_X7_orderedPoint_10 : Cond.fieldLink RX7 10 (TX7 0).1 (TX7 0).2.1 (TX7 0).2.2.1 ∈ wsX7_orderedPoint := by decide +kernel
theorem in_X7_orderedPoint_7 : ∀ w ∈ wsX70, w ∈ wsX7_orderedPoint := by decide +kernel
def f_X7_orderedPoint (p1 : Int32) (p2 : Int32) (vD : Int32) (vN : (Nat → Int32)) : Option (Int32) :=
  if p1 = (-1) then some ((-1)) else if p2 = 3 then some (((f_X5_number p1 vN) + 1000)) else Option.bind (f_X5_coordinate p1 p2 vD) (fun r33 => some (r33))
abbrev rm_X7_orderedPoint : Room := { frames := 3, cells := 0, slots := 0, locals := 60 }
theorem k_X7_orderedPoint : Cf yX7_orderedPoint wsX7_orderedPoint rm_X7_orderedPoint cX7_orderedPoint 3 (some .int) 2 := ⟨⟨_, rfl⟩, by decide +kernel, by decide +kernel, by decide +kernel⟩
set_option maxRecDepth 100000 in
set_option maxHeartbeats 4000000 in
theorem b_X7_orderedPoint (G : CG) (hl : (gL G).stackTraces = false) (h7 : Nat) (h5 : Nat) (h2 : Nat) (h6 : Nat) (h4 : Nat) (h0 : Nat) (h3 : Nat) (h1 : Nat) (qb : Nat) (qn : Nat) (qm : Nat) (vD : Int32) (vA : Int32) (vL : Int32) (vN : (Nat → Int32)) (vM : (Nat → Int32)) (nB : (Nat → Int32)) (p1 : Int32) (p2 : Int32) (y : Int32) (hf : f_X7_orderedPoint p1 p2 vD vN = some y) : Ct G yX7_orderedPoint wsX7_orderedPoint rm_X7_orderedPoint [.ref h7, .int p1, .int p2] [(h7, .inr (7, [.ref h5, .ref h2, .ref h6, .ref h4, .ref h0, .ref h3, .ref h1, .ref qb])), (qb, .inl (gI G, 512, .inl nB)), (h5, .inr (5, [.int vD, .int vA, .int vL, .ref qn, .ref qm])), (qn, .inl (gI G, 512, .inl vN)), (qm, .inl (gI G, 512, .inl vM))] (fin1 (some (.int y)) [(h7, .inr (7, [.ref h5, .ref h2, .ref h6, .ref h4, .ref h0, .ref h3, .ref h1, .ref qb])), (qb, .inl (gI G, 512, .inl nB)), (h5, .inr (5, [.int vD, .int vA, .int vL, .ref qn, .ref qm])), (qn, .inl (gI G, 512, .inl vN)), (qm, .inl (gI G, 512, .inl vM))]) 0 0 := by
  refine Ct.of (cc := cX7_orderedPoint) (N := 3) (ret := (some .int)) RX7 (by decide) rfl rfl hl (Nat.le_of_ble_eq_true rfl) (lv := [(0, .ref h7), (1, .int p1), (2, .int p2)]) rfl (fun X hXG C hex hnm hQ => ?_)
  subst hXG
  unfold f_X7_orderedPoint at hf
  refine j_iload_n C dX7_orderedPoint_0 rfl 1 rfl ?_
  refine j_iconst C (v := (-1)) dX7_orderedPoint_1 (by decide) ?_
  refine j_icmp_ne C (tgt := 7) dX7_orderedPoint_2 (by decide) (fun e2 => ?_) (fun e2 => ?_)
  · have hf := (if_neg e2).symm.trans hf
    refine j_iload_n C dX7_orderedPoint_7 rfl 2 rfl ?_
    refine j_iconst C (v := 3) dX7_orderedPoint_8 (by decide) ?_
    refine j_icmp_ne C (tgt := 27) dX7_orderedPoint_9 (by decide) (fun e9 => ?_) (fun e9 => ?_)
    · have hf := (if_neg e9).symm.trans hf
      refine j_aload_n C dX7_orderedPoint_27 rfl 0 rfl ?_
      refine j_get7 C 0 rfl 0 (by decide) in_X7_orderedPoint_7 lk_X7_orderedPoint_10 rfl dX7_orderedPoint_28 ?_
      refine j_iload_n C dX7_orderedPoint_31 rfl 1 rfl ?_
      refine j_iload_n C dX7_orderedPoint_32 rfl 2 rfl ?_
      obtain ⟨r33, hc33, hf⟩ := Option.bind_eq_some_iff.mp hf
      refine j_cV C (b_X5_coordinate X.1 hl h5 qn qm vD vA vL vN vM p1 p2 r33 hc33) k_X5_coordinate gX7_orderedPoint_X5_coordinate rfl (ci := 5) (q0 := 0) rfl rfl (As := [.int p1, .int p2]) (rest := []) (st' := [.int r33]) (ws' := [(h7, .inr (7, [.ref h5, .ref h2, .ref h6, .ref h4, .ref h0, .ref h3, .ref h1, .ref qb])), (qb, .inl (gI X.1, 512, .inl nB)), (h5, .inr (5, [.int vD, .int vA, .int vL, .ref qn, .ref qm])), (qn, .inl (gI X.1, 512, .inl vN)), (qm, .inl (gI X.1, 512, .inl vM))]) rfl rfl dX7_orderedPoint_33 [2, 3, 4] [0, 1] [0, 1, 2, 3, 4] rfl rfl rfl rfl rfl rfl ?_
      obtain rfl := Option.some.inj hf
      exact j_iret C hQ rfl dX7_orderedPoint_36 (Nat.zero_le _) (Nat.zero_le _) ⟨rfl, rfl⟩
    · have hf := (if_pos e9).symm.trans hf
      refine j_aload_n C dX7_orderedPoint_12 rfl 0 rfl ?_
      refine j_get7 C 0 rfl 0 (by decide) in_X7_orderedPoint_7 lk_X7_orderedPoint_10 rfl dX7_orderedPoint_13 ?_
      refine j_iload_n C dX7_orderedPoint_16 rfl 1 rfl ?_
      refine j_cV C (c_X5_number X.1 hl h5 qn qm vD vA vL vN vM p1) k_X5_number gX7_orderedPoint_X5_number rfl (ci := 5) (q0 := 0) rfl rfl (As := [.int p1]) (rest := []) (st' := [.int (f_X5_number p1 vN)]) (ws' := [(h7, .inr (7, [.ref h5, .ref h2, .ref h6, .ref h4, .ref h0, .ref h3, .ref h1, .ref qb])), (qb, .inl (gI X.1, 512, .inl nB)), (h5, .inr (5, [.int vD, .int vA, .int vL, .ref qn, .ref qm])), (qn, .inl (gI X.1, 512, .inl vN)), (qm, .inl (gI X.1, 512, .inl vM))]) rfl rfl dX7_orderedPoint_17 [2, 3, 4] [0, 1] [0, 1, 2, 3, 4] rfl rfl rfl rfl rfl rfl ?_
      refine j_sipush C (v := 1000) dX7_orderedPoint_20 (by decide) ?_
      refine j_iadd C dX7_orderedPoint_23 ?_
      refine j_goto C (tgt := 36) dX7_orderedPoint_24 (by decide) ?_
      obtain rfl := Option.some.inj hf
      exact j_iret C hQ rfl dX7_orderedPoint_36 (Nat.zero_le _) (Nat.zero_le _) ⟨rfl, rfl⟩
  · have hf := (if_pos e2).symm.trans hf
    refine j_iconst C (v := (-1)) dX7_orderedPoint_5 (by decide) ?_
    obtain rfl := Option.some.inj hf
    exact j_iret C hQ rfl dX7_orderedPoint_6 (Nat.zero_le _) (Nat.zero_le _) ⟨rfl, rfl⟩

theorem lk_X7_ordered_10 : Cond.fieldLink RX7 10 (TX7 0).1 (TX7 0).2.1 (TX7 0).2.2.1 ∈ wsX7_ordered := by decide +kernel
theorem in_X7_ordered_7 : ∀ w ∈ wsX70, w ∈ wsX7_ordered := by decide +kernel
theorem tg_X7_ordered_2 : ∀ w ∈ (vx_atS RX7 66 "java/lang/IllegalArgumentException" ["java/lang/RuntimeException", "java/lang/Exception"]).filter goodWord, w ∈ wsX7_ordered := by decide +kernel
theorem wd_X7_ordered_x2 : Cond.classLink RX7 62 "java/lang/IllegalArgumentException" ∈ wsX7_ordered := by decide +kernel
theorem wd_X7_ordered_y2 : Cond.initialized "java/lang/IllegalArgumentException" ∈ wsX7_ordered := by decide +kernel
def f_X7_ordered (p1 : Int32) (p2 : Int32) (vD : Int32) (vA : Int32) (vN : (Nat → Int32)) : Option (Nat ⊕ (Int32)) :=
  if p1 < 0 then some (.inl 2) else if p2 < 0 then some (.inl 2) else if p2 ≤ 3 then Option.bind (f_X5_placeOfRank p1 vD vA vN) (fun r29 => Option.bind (f_X7_orderedPoint r29 p2 vD vN) (fun r33 => some (.inr r33))) else some (.inl 2)
abbrev rm_X7_ordered : Room := { frames := 6, cells := 1, slots := 6, locals := 90 }
theorem k_X7_ordered : Cf yX7_ordered wsX7_ordered rm_X7_ordered cX7_ordered 3 (some .int) 2 := ⟨⟨_, rfl⟩, by decide +kernel, by decide +kernel, by decide +kernel⟩
set_option maxRecDepth 100000 in
set_option maxHeartbeats 4000000 in
theorem b_X7_ordered (G : CG) (hl : (gL G).stackTraces = false) (h7 : Nat) (h5 : Nat) (h2 : Nat) (h6 : Nat) (h4 : Nat) (h0 : Nat) (h3 : Nat) (h1 : Nat) (qb : Nat) (qn : Nat) (qm : Nat) (vD : Int32) (vA : Int32) (vL : Int32) (vN : (Nat → Int32)) (vM : (Nat → Int32)) (nB : (Nat → Int32)) (p1 : Int32) (p2 : Int32) (y : Nat ⊕ (Int32)) (hf : f_X7_ordered p1 p2 vD vA vN = some y) : Ct G yX7_ordered wsX7_ordered rm_X7_ordered [.ref h7, .int p1, .int p2] [(h7, .inr (7, [.ref h5, .ref h2, .ref h6, .ref h4, .ref h0, .ref h3, .ref h1, .ref qb])), (qb, .inl (gI G, 512, .inl nB)), (h5, .inr (5, [.int vD, .int vA, .int vL, .ref qn, .ref qm])), (qn, .inl (gI G, 512, .inl vN)), (qm, .inl (gI G, 512, .inl vM))] (finX y (fun u => (some (.int u))) [(h7, .inr (7, [.ref h5, .ref h2, .ref h6, .ref h4, .ref h0, .ref h3, .ref h1, .ref qb])), (qb, .inl (gI G, 512, .inl nB)), (h5, .inr (5, [.int vD, .int vA, .int vL, .ref qn, .ref qm])), (qn, .inl (gI G, 512, .inl vN)), (qm, .inl (gI G, 512, .inl vM))] (fun u => [(h7, .inr (7, [.ref h5, .ref h2, .ref h6, .ref h4, .ref h0, .ref h3, .ref h1, .ref qb])), (qb, .inl (gI G, 512, .inl nB)), (h5, .inr (5, [.int vD, .int vA, .int vL, .ref qn, .ref qm])), (qn, .inl (gI G, 512, .inl vN)), (qm, .inl (gI G, 512, .inl vM))])) 1 6 := by
  refine Ct.of (cc := cX7_ordered) (N := 3) (ret := (some .int)) RX7 (by decide) rfl rfl hl (Nat.le_of_ble_eq_true rfl) (lv := [(0, .ref h7), (1, .int p1), (2, .int p2)]) rfl (fun X hXG C hex hnm hQ => ?_)
  subst hXG
  unfold f_X7_ordered at hf
  refine j_iload_n C dX7_ordered_0 rfl 1 rfl ?_
  refine j_if_lt C (tgt := 13) dX7_ordered_1 (by decide) (fun e1 => ?_) (fun e1 => ?_)
  · have hf := (if_pos e1).symm.trans hf
    obtain rfl := Option.some.inj hf
    exact j_throw2 C hQ hex (is := 224) (text := "the rank or what is asked is out of range") (by decide +kernel) tg_X7_ordered_2 wd_X7_ordered_x2 wd_X7_ordered_y2 dX7_ordered_13 dX7_ordered_16 dX7_ordered_17 dX7_ordered_19 dX7_ordered_22 rfl ⟨rfl, rfl⟩
  · have hf := (if_neg e1).symm.trans hf
    refine j_iload_n C dX7_ordered_4 rfl 2 rfl ?_
    refine j_if_lt C (tgt := 13) dX7_ordered_5 (by decide) (fun e5 => ?_) (fun e5 => ?_)
    · have hf := (if_pos e5).symm.trans hf
      obtain rfl := Option.some.inj hf
      exact j_throw2 C hQ hex (is := 224) (text := "the rank or what is asked is out of range") (by decide +kernel) tg_X7_ordered_2 wd_X7_ordered_x2 wd_X7_ordered_y2 dX7_ordered_13 dX7_ordered_16 dX7_ordered_17 dX7_ordered_19 dX7_ordered_22 rfl ⟨rfl, rfl⟩
    · have hf := (if_neg e5).symm.trans hf
      refine j_iload_n C dX7_ordered_8 rfl 2 rfl ?_
      refine j_iconst C (v := 3) dX7_ordered_9 (by decide) ?_
      refine j_icmp_le C (tgt := 23) dX7_ordered_10 (by decide) (fun e10 => ?_) (fun e10 => ?_)
      · have hf := (if_pos e10).symm.trans hf
        refine j_aload_n C dX7_ordered_23 rfl 0 rfl ?_
        refine j_aload_n C dX7_ordered_24 rfl 0 rfl ?_
        refine j_get7 C 0 rfl 0 (by decide) in_X7_ordered_7 lk_X7_ordered_10 rfl dX7_ordered_25 ?_
        refine j_iload_n C dX7_ordered_28 rfl 1 rfl ?_
        obtain ⟨r29, hc29, hf⟩ := Option.bind_eq_some_iff.mp hf
        refine j_cV C (b_X5_placeOfRank X.1 hl h5 qn qm vD vA vL vN vM p1 r29 hc29) k_X5_placeOfRank gX7_ordered_X5_placeOfRank rfl (ci := 5) (q0 := 0) rfl rfl (As := [.int p1]) (rest := [.ref h7]) (st' := [.int r29, .ref h7]) (ws' := [(h7, .inr (7, [.ref h5, .ref h2, .ref h6, .ref h4, .ref h0, .ref h3, .ref h1, .ref qb])), (qb, .inl (gI X.1, 512, .inl nB)), (h5, .inr (5, [.int vD, .int vA, .int vL, .ref qn, .ref qm])), (qn, .inl (gI X.1, 512, .inl vN)), (qm, .inl (gI X.1, 512, .inl vM))]) rfl rfl dX7_ordered_29 [2, 3, 4] [0, 1] [0, 1, 2, 3, 4] rfl rfl rfl rfl rfl rfl ?_
        refine j_iload_n C dX7_ordered_32 rfl 2 rfl ?_
        obtain ⟨r33, hc33, hf⟩ := Option.bind_eq_some_iff.mp hf
        refine j_cV C (b_X7_orderedPoint X.1 hl h7 h5 h2 h6 h4 h0 h3 h1 qb qn qm vD vA vL vN vM nB r29 p2 r33 hc33) k_X7_orderedPoint gX7_ordered_X7_orderedPoint rfl (ci := 7) (q0 := 0) rfl rfl (As := [.int r29, .int p2]) (rest := []) (st' := [.int r33]) (ws' := [(h7, .inr (7, [.ref h5, .ref h2, .ref h6, .ref h4, .ref h0, .ref h3, .ref h1, .ref qb])), (qb, .inl (gI X.1, 512, .inl nB)), (h5, .inr (5, [.int vD, .int vA, .int vL, .ref qn, .ref qm])), (qn, .inl (gI X.1, 512, .inl vN)), (qm, .inl (gI X.1, 512, .inl vM))]) rfl rfl dX7_ordered_33 [0, 1, 2, 3, 4] [] [0, 1, 2, 3, 4] rfl rfl rfl rfl rfl rfl ?_
        obtain rfl := Option.some.inj hf
        exact j_iret C hQ rfl dX7_ordered_36 (Nat.zero_le _) (Nat.zero_le _) ⟨rfl, rfl⟩
      · have hf := (if_neg e10).symm.trans hf
        obtain rfl := Option.some.inj hf
        exact j_throw2 C hQ hex (is := 224) (text := "the rank or what is asked is out of range") (by decide +kernel) tg_X7_ordered_2 wd_X7_ordered_x2 wd_X7_ordered_y2 dX7_ordered_13 dX7_ordered_16 dX7_ordered_17 dX7_ordered_19 dX7_ordered_22 rfl ⟨rfl, rfl⟩

theorem lk_X7_difference_40 : Cond.fieldLink RX7 40 (TX7 4).1 (TX7 4).2.1 (TX7 4).2.2.1 ∈ wsX7_difference := by decide +kernel
theorem in_X7_difference_7 : ∀ w ∈ wsX70, w ∈ wsX7_difference := by decide +kernel
theorem lk_X7_difference_10 : Cond.fieldLink RX7 10 (TX7 0).1 (TX7 0).2.1 (TX7 0).2.2.1 ∈ wsX7_difference := by decide +kernel
theorem tg_X7_difference_2 : ∀ w ∈ (vx_atS RX7 66 "java/lang/IllegalArgumentException" ["java/lang/RuntimeException", "java/lang/Exception"]).filter goodWord, w ∈ wsX7_difference := by decide +kernel
theorem wd_X7_difference_x2 : Cond.classLink RX7 62 "java/lang/IllegalArgumentException" ∈ wsX7_difference := by decide +kernel
theorem wd_X7_difference_y2 : Cond.initialized "java/lang/IllegalArgumentException" ∈ wsX7_difference := by decide +kernel
def f_X7_difference (p1 : Int32) (vD : Int32) (vN : (Nat → Int32)) (vM : (Nat → Int32)) : Option (Nat ⊕ (Int32 × Int32 × Int32 × Int32 × Int32)) :=
  if p1 < 0 then some (.inl 2) else if p1 ≤ 3 then Option.bind (f_X0_look vD vN vM) (fun r27 => some (.inr ((f_X0_told p1 r27.1 r27.2.1 r27.2.2.1 r27.2.2.2), r27.1, r27.2.1, r27.2.2.1, r27.2.2.2))) else some (.inl 2)
abbrev rm_X7_difference : Room := { frames := 6, cells := 1, slots := 6, locals := 90 }
theorem k_X7_difference : Cf yX7_difference wsX7_difference rm_X7_difference cX7_difference 2 (some .int) 1 := ⟨⟨_, rfl⟩, by decide +kernel, by decide +kernel, by decide +kernel⟩
set_option maxRecDepth 100000 in
set_option maxHeartbeats 4000000 in
theorem b_X7_difference (G : CG) (hl : (gL G).stackTraces = false) (h7 : Nat) (h5 : Nat) (h2 : Nat) (h6 : Nat) (h4 : Nat) (h0 : Nat) (h3 : Nat) (h1 : Nat) (qb : Nat) (qn : Nat) (qm : Nat) (vD : Int32) (vA : Int32) (vL : Int32) (vN : (Nat → Int32)) (vM : (Nat → Int32)) (dP : Int32) (dS : Int32) (dG : Int32) (dF : Int32) (nB : (Nat → Int32)) (p1 : Int32) (y : Nat ⊕ (Int32 × Int32 × Int32 × Int32 × Int32)) (hf : f_X7_difference p1 vD vN vM = some y) : Ct G yX7_difference wsX7_difference rm_X7_difference [.ref h7, .int p1] [(h7, .inr (7, [.ref h5, .ref h2, .ref h6, .ref h4, .ref h0, .ref h3, .ref h1, .ref qb])), (qb, .inl (gI G, 512, .inl nB)), (h5, .inr (5, [.int vD, .int vA, .int vL, .ref qn, .ref qm])), (qn, .inl (gI G, 512, .inl vN)), (qm, .inl (gI G, 512, .inl vM)), (h0, .inr (0, [.int dP, .int dS, .int dG, .int dF]))] (finX y (fun u => (some (.int u.1))) [(h7, .inr (7, [.ref h5, .ref h2, .ref h6, .ref h4, .ref h0, .ref h3, .ref h1, .ref qb])), (qb, .inl (gI G, 512, .inl nB)), (h5, .inr (5, [.int vD, .int vA, .int vL, .ref qn, .ref qm])), (qn, .inl (gI G, 512, .inl vN)), (qm, .inl (gI G, 512, .inl vM)), (h0, .inr (0, [.int dP, .int dS, .int dG, .int dF]))] (fun u => [(h7, .inr (7, [.ref h5, .ref h2, .ref h6, .ref h4, .ref h0, .ref h3, .ref h1, .ref qb])), (qb, .inl (gI G, 512, .inl nB)), (h5, .inr (5, [.int vD, .int vA, .int vL, .ref qn, .ref qm])), (qn, .inl (gI G, 512, .inl vN)), (qm, .inl (gI G, 512, .inl vM)), (h0, .inr (0, [.int u.2.1, .int u.2.2.1, .int u.2.2.2.1, .int u.2.2.2.2]))])) 1 6 := by
  refine Ct.of (cc := cX7_difference) (N := 2) (ret := (some .int)) RX7 (by decide) rfl rfl hl (Nat.le_of_ble_eq_true rfl) (lv := [(0, .ref h7), (1, .int p1)]) rfl (fun X hXG C hex hnm hQ => ?_)
  subst hXG
  unfold f_X7_difference at hf
  refine j_iload_n C dX7_difference_0 rfl 1 rfl ?_
  refine j_if_lt C (tgt := 9) dX7_difference_1 (by decide) (fun e1 => ?_) (fun e1 => ?_)
  · have hf := (if_pos e1).symm.trans hf
    obtain rfl := Option.some.inj hf
    exact j_throw2 C hQ hex (is := 232) (text := "what is asked is out of range") (by decide +kernel) tg_X7_difference_2 wd_X7_difference_x2 wd_X7_difference_y2 dX7_difference_9 dX7_difference_12 dX7_difference_13 dX7_difference_15 dX7_difference_18 rfl ⟨rfl, rfl⟩
  · have hf := (if_neg e1).symm.trans hf
    refine j_iload_n C dX7_difference_4 rfl 1 rfl ?_
    refine j_iconst C (v := 3) dX7_difference_5 (by decide) ?_
    refine j_icmp_le C (tgt := 19) dX7_difference_6 (by decide) (fun e6 => ?_) (fun e6 => ?_)
    · have hf := (if_pos e6).symm.trans hf
      refine j_aload_n C dX7_difference_19 rfl 0 rfl ?_
      refine j_get7 C 0 rfl 4 (by decide) in_X7_difference_7 lk_X7_difference_40 rfl dX7_difference_20 ?_
      refine j_aload_n C dX7_difference_23 rfl 0 rfl ?_
      refine j_get7 C 0 rfl 0 (by decide) in_X7_difference_7 lk_X7_difference_10 rfl dX7_difference_24 ?_
      obtain ⟨r27, hc27, hf⟩ := Option.bind_eq_some_iff.mp hf
      refine j_cV C (b_X0_look X.1 hl h0 h5 qn qm vD vA vL vN vM dP dS dG dF r27 hc27) k_X0_look gX7_difference_X0_look rfl (ci := 0) (q0 := 0) rfl rfl (As := [.ref h5]) (rest := []) (st' := []) (ws' := [(h7, .inr (7, [.ref h5, .ref h2, .ref h6, .ref h4, .ref h0, .ref h3, .ref h1, .ref qb])), (qb, .inl (gI X.1, 512, .inl nB)), (h5, .inr (5, [.int vD, .int vA, .int vL, .ref qn, .ref qm])), (qn, .inl (gI X.1, 512, .inl vN)), (qm, .inl (gI X.1, 512, .inl vM)), (h0, .inr (0, [.int r27.1, .int r27.2.1, .int r27.2.2.1, .int r27.2.2.2]))]) rfl rfl dX7_difference_27 [5, 2, 3, 4] [0, 1] [0, 1, 3, 4, 5, 2] rfl rfl rfl rfl rfl rfl ?_
      refine j_aload_n C dX7_difference_30 rfl 0 rfl ?_
      refine j_get7 C 0 rfl 4 (by decide) in_X7_difference_7 lk_X7_difference_40 rfl dX7_difference_31 ?_
      refine j_iload_n C dX7_difference_34 rfl 1 rfl ?_
      refine j_cV C (c_X0_told X.1 hl h0 r27.1 r27.2.1 r27.2.2.1 r27.2.2.2 p1) k_X0_told gX7_difference_X0_told rfl (ci := 0) (q0 := 0) rfl rfl (As := [.int p1]) (rest := []) (st' := [.int (f_X0_told p1 r27.1 r27.2.1 r27.2.2.1 r27.2.2.2)]) (ws' := [(h7, .inr (7, [.ref h5, .ref h2, .ref h6, .ref h4, .ref h0, .ref h3, .ref h1, .ref qb])), (qb, .inl (gI X.1, 512, .inl nB)), (h5, .inr (5, [.int vD, .int vA, .int vL, .ref qn, .ref qm])), (qn, .inl (gI X.1, 512, .inl vN)), (qm, .inl (gI X.1, 512, .inl vM)), (h0, .inr (0, [.int r27.1, .int r27.2.1, .int r27.2.2.1, .int r27.2.2.2]))]) rfl rfl dX7_difference_35 [5] [0, 1, 2, 3, 4] [0, 1, 2, 3, 4, 5] rfl rfl rfl rfl rfl rfl ?_
      obtain rfl := Option.some.inj hf
      exact j_iret C hQ rfl dX7_difference_38 (Nat.zero_le _) (Nat.zero_le _) ⟨rfl, rfl⟩
    · have hf := (if_neg e6).symm.trans hf
      obtain rfl := Option.some.inj hf
      exact j_throw2 C hQ hex (is := 232) (text := "what is asked is out of range") (by decide +kernel) tg_X7_difference_2 wd_X7_difference_x2 wd_X7_difference_y2 dX7_difference_9 dX7_difference_12 dX7_difference_13 dX7_difference_15 dX7_difference_18 rfl ⟨rfl, rfl⟩

theorem lk_X7_count_19 : Cond.fieldLink RX7 19 (TX7 1).1 (TX7 1).2.1 (TX7 1).2.2.1 ∈ wsX7_count := by decide +kernel
theorem in_X7_count_7 : ∀ w ∈ wsX70, w ∈ wsX7_count := by decide +kernel
theorem in_X7_count_2 : ∀ w ∈ wsX20, w ∈ wsX7_count := by decide +kernel
theorem lk_X7_count_33 : Cond.fieldLink RX7 33 (TX7 3).1 (TX7 3).2.1 (TX7 3).2.2.1 ∈ wsX7_count := by decide +kernel
theorem lk_X7_count_10 : Cond.fieldLink RX7 10 (TX7 0).1 (TX7 0).2.1 (TX7 0).2.2.1 ∈ wsX7_count := by decide +kernel
theorem in_X7_count_5 : ∀ w ∈ wsX50, w ∈ wsX7_count := by decide +kernel
theorem tg_X7_count_2 : ∀ w ∈ (vx_atS RX7 66 "java/lang/IllegalArgumentException" ["java/lang/RuntimeException", "java/lang/Exception"]).filter goodWord, w ∈ wsX7_count := by decide +kernel
theorem wd_X7_count_x2 : Cond.classLink RX7 62 "java/lang/IllegalArgumentException" ∈ wsX7_count := by decide +kernel
theorem wd_X7_count_y2 : Cond.initialized "java/lang/IllegalArgumentException" ∈ wsX7_count := by decide +kernel
def f_X7_count_J124 (p1 : Int32) (vD : Int32) (vA : Int32) (vL : Int32) (vN : (Nat → Int32)) (lD : Int32) (lS : (Nat → Int32)) (lF : (Nat → Int32)) (lG : (Nat → Int32)) (lR : (Nat → Int32)) : Option (Nat ⊕ (Int32 × Int32 × (Nat → Int32) × (Nat → Int32) × (Nat → Int32) × (Nat → Int32))) :=
  Option.bind (f_X4_look vA vD vN lD lS lF lG lR) (fun r139 => Option.bind (f_X4_countOfForm (p1 - 5) vL r139.1 r139.2.2.1) (fun r156 => some (.inr (r156, r139.1, r139.2.1, r139.2.2.1, r139.2.2.2.1, r139.2.2.2.2))))
def f_X7_count (p1 : Int32) (vD : Int32) (vA : Int32) (vL : Int32) (vN : (Nat → Int32)) (oS : Int32) (lD : Int32) (lS : (Nat → Int32)) (lF : (Nat → Int32)) (lG : (Nat → Int32)) (lR : (Nat → Int32)) : Option (Nat ⊕ (Int32 × Int32 × (Nat → Int32) × (Nat → Int32) × (Nat → Int32) × (Nat → Int32))) :=
  if p1 < 0 then some (.inl 2) else if p1 ≤ 8 then if p1 = 0 then some (.inr (vD, lD, lS, lF, lG, lR)) else if p1 = 1 then some (.inr (vA, lD, lS, lF, lG, lR)) else if p1 = 2 then Option.bind (f_X5_filled vD vN) (fun r92 => some (.inr (r92, lD, lS, lF, lG, lR))) else if p1 = 3 then Option.bind (f_X5_sum vD vN) (fun r100 => some (.inr (r100, lD, lS, lF, lG, lR))) else if p1 = 4 then Option.bind (f_X7_roomBy vA vD vL vN lD lS lF lG lR) (fun r112 => some (.inr (r112.1, r112.2.1, r112.2.2.1, r112.2.2.2.1, r112.2.2.2.2.1, r112.2.2.2.2.2))) else if p1 = 5 then (f_X7_count_J124 p1 vD vA vL vN lD lS lF lG lR) else if p1 = 6 then (f_X7_count_J124 p1 vD vA vL vN lD lS lF lG lR) else if p1 = 7 then (f_X7_count_J124 p1 vD vA vL vN lD lS lF lG lR) else if p1 = 8 then some (.inr (oS, lD, lS, lF, lG, lR)) else (f_X7_count_J124 p1 vD vA vL vN lD lS lF lG lR) else some (.inl 2)
abbrev rm_X7_count : Room := { frames := 6, cells := 1, slots := 6, locals := 137 }
theorem k_X7_count : Cf yX7_count wsX7_count rm_X7_count cX7_count 2 (some .int) 1 := ⟨⟨_, rfl⟩, by decide +kernel, by decide +kernel, by decide +kernel⟩
set_option maxRecDepth 100000 in
set_option maxHeartbeats 4000000 in
theorem b_X7_count (G : CG) (hl : (gL G).stackTraces = false) (h7 : Nat) (h5 : Nat) (h2 : Nat) (h6 : Nat) (h4 : Nat) (h0 : Nat) (h3 : Nat) (h1 : Nat) (qb : Nat) (qn : Nat) (qm : Nat) (qh : Nat) (sa : Nat → Nat) (sn : Nat → Nat) (sm : Nat → Nat) (a1 : Nat) (a2 : Nat) (a3 : Nat) (a4 : Nat) (vD : Int32) (vA : Int32) (vL : Int32) (vN : (Nat → Int32)) (vM : (Nat → Int32)) (oO : Int32) (oS : Int32) (hv : (Nat → SV)) (lD : Int32) (lS : (Nat → Int32)) (lF : (Nat → Int32)) (lG : (Nat → Int32)) (lR : (Nat → Int32)) (nB : (Nat → Int32)) (p1 : Int32) (y : Nat ⊕ (Int32 × Int32 × (Nat → Int32) × (Nat → Int32) × (Nat → Int32) × (Nat → Int32))) (hf : f_X7_count p1 vD vA vL vN oS lD lS lF lG lR = some y) : Ct G yX7_count wsX7_count rm_X7_count [.ref h7, .int p1] [(h7, .inr (7, [.ref h5, .ref h2, .ref h6, .ref h4, .ref h0, .ref h3, .ref h1, .ref qb])), (qb, .inl (gI G, 512, .inl nB)), (h5, .inr (5, [.int vD, .int vA, .int vL, .ref qn, .ref qm])), (qn, .inl (gI G, 512, .inl vN)), (qm, .inl (gI G, 512, .inl vM)), (h2, .inr (2, [.ref qh, .int oO, .int oS])), (qh, .inl (gO G, 6, .inr (.inr (.inr (.inr (fun k => some (sa k))))))), (sa 0, .inr (5, [.int (hv 0).1, .int (hv 0).2.1, .int (hv 0).2.2.1, .ref (sn 0), .ref (sm 0)])), (sn 0, .inl (gI G, 512, .inl (hv 0).2.2.2.1)), (sm 0, .inl (gI G, 512, .inl (hv 0).2.2.2.2)), (sa 1, .inr (5, [.int (hv 1).1, .int (hv 1).2.1, .int (hv 1).2.2.1, .ref (sn 1), .ref (sm 1)])), (sn 1, .inl (gI G, 512, .inl (hv 1).2.2.2.1)), (sm 1, .inl (gI G, 512, .inl (hv 1).2.2.2.2)), (sa 2, .inr (5, [.int (hv 2).1, .int (hv 2).2.1, .int (hv 2).2.2.1, .ref (sn 2), .ref (sm 2)])), (sn 2, .inl (gI G, 512, .inl (hv 2).2.2.2.1)), (sm 2, .inl (gI G, 512, .inl (hv 2).2.2.2.2)), (sa 3, .inr (5, [.int (hv 3).1, .int (hv 3).2.1, .int (hv 3).2.2.1, .ref (sn 3), .ref (sm 3)])), (sn 3, .inl (gI G, 512, .inl (hv 3).2.2.2.1)), (sm 3, .inl (gI G, 512, .inl (hv 3).2.2.2.2)), (sa 4, .inr (5, [.int (hv 4).1, .int (hv 4).2.1, .int (hv 4).2.2.1, .ref (sn 4), .ref (sm 4)])), (sn 4, .inl (gI G, 512, .inl (hv 4).2.2.2.1)), (sm 4, .inl (gI G, 512, .inl (hv 4).2.2.2.2)), (sa 5, .inr (5, [.int (hv 5).1, .int (hv 5).2.1, .int (hv 5).2.2.1, .ref (sn 5), .ref (sm 5)])), (sn 5, .inl (gI G, 512, .inl (hv 5).2.2.2.1)), (sm 5, .inl (gI G, 512, .inl (hv 5).2.2.2.2)), (h4, .inr (4, [.int lD, .ref a1, .ref a2, .ref a3, .ref a4])), (a1, .inl (gI G, 8, .inl lS)), (a2, .inl (gI G, 8, .inl lF)), (a3, .inl (gI G, 8, .inl lG)), (a4, .inl (gI G, 8, .inl lR))] (finX y (fun u => (some (.int u.1))) [(h7, .inr (7, [.ref h5, .ref h2, .ref h6, .ref h4, .ref h0, .ref h3, .ref h1, .ref qb])), (qb, .inl (gI G, 512, .inl nB)), (h5, .inr (5, [.int vD, .int vA, .int vL, .ref qn, .ref qm])), (qn, .inl (gI G, 512, .inl vN)), (qm, .inl (gI G, 512, .inl vM)), (h2, .inr (2, [.ref qh, .int oO, .int oS])), (qh, .inl (gO G, 6, .inr (.inr (.inr (.inr (fun k => some (sa k))))))), (sa 0, .inr (5, [.int (hv 0).1, .int (hv 0).2.1, .int (hv 0).2.2.1, .ref (sn 0), .ref (sm 0)])), (sn 0, .inl (gI G, 512, .inl (hv 0).2.2.2.1)), (sm 0, .inl (gI G, 512, .inl (hv 0).2.2.2.2)), (sa 1, .inr (5, [.int (hv 1).1, .int (hv 1).2.1, .int (hv 1).2.2.1, .ref (sn 1), .ref (sm 1)])), (sn 1, .inl (gI G, 512, .inl (hv 1).2.2.2.1)), (sm 1, .inl (gI G, 512, .inl (hv 1).2.2.2.2)), (sa 2, .inr (5, [.int (hv 2).1, .int (hv 2).2.1, .int (hv 2).2.2.1, .ref (sn 2), .ref (sm 2)])), (sn 2, .inl (gI G, 512, .inl (hv 2).2.2.2.1)), (sm 2, .inl (gI G, 512, .inl (hv 2).2.2.2.2)), (sa 3, .inr (5, [.int (hv 3).1, .int (hv 3).2.1, .int (hv 3).2.2.1, .ref (sn 3), .ref (sm 3)])), (sn 3, .inl (gI G, 512, .inl (hv 3).2.2.2.1)), (sm 3, .inl (gI G, 512, .inl (hv 3).2.2.2.2)), (sa 4, .inr (5, [.int (hv 4).1, .int (hv 4).2.1, .int (hv 4).2.2.1, .ref (sn 4), .ref (sm 4)])), (sn 4, .inl (gI G, 512, .inl (hv 4).2.2.2.1)), (sm 4, .inl (gI G, 512, .inl (hv 4).2.2.2.2)), (sa 5, .inr (5, [.int (hv 5).1, .int (hv 5).2.1, .int (hv 5).2.2.1, .ref (sn 5), .ref (sm 5)])), (sn 5, .inl (gI G, 512, .inl (hv 5).2.2.2.1)), (sm 5, .inl (gI G, 512, .inl (hv 5).2.2.2.2)), (h4, .inr (4, [.int lD, .ref a1, .ref a2, .ref a3, .ref a4])), (a1, .inl (gI G, 8, .inl lS)), (a2, .inl (gI G, 8, .inl lF)), (a3, .inl (gI G, 8, .inl lG)), (a4, .inl (gI G, 8, .inl lR))] (fun u => [(h7, .inr (7, [.ref h5, .ref h2, .ref h6, .ref h4, .ref h0, .ref h3, .ref h1, .ref qb])), (qb, .inl (gI G, 512, .inl nB)), (h5, .inr (5, [.int vD, .int vA, .int vL, .ref qn, .ref qm])), (qn, .inl (gI G, 512, .inl vN)), (qm, .inl (gI G, 512, .inl vM)), (h2, .inr (2, [.ref qh, .int oO, .int oS])), (qh, .inl (gO G, 6, .inr (.inr (.inr (.inr (fun k => some (sa k))))))), (sa 0, .inr (5, [.int (hv 0).1, .int (hv 0).2.1, .int (hv 0).2.2.1, .ref (sn 0), .ref (sm 0)])), (sn 0, .inl (gI G, 512, .inl (hv 0).2.2.2.1)), (sm 0, .inl (gI G, 512, .inl (hv 0).2.2.2.2)), (sa 1, .inr (5, [.int (hv 1).1, .int (hv 1).2.1, .int (hv 1).2.2.1, .ref (sn 1), .ref (sm 1)])), (sn 1, .inl (gI G, 512, .inl (hv 1).2.2.2.1)), (sm 1, .inl (gI G, 512, .inl (hv 1).2.2.2.2)), (sa 2, .inr (5, [.int (hv 2).1, .int (hv 2).2.1, .int (hv 2).2.2.1, .ref (sn 2), .ref (sm 2)])), (sn 2, .inl (gI G, 512, .inl (hv 2).2.2.2.1)), (sm 2, .inl (gI G, 512, .inl (hv 2).2.2.2.2)), (sa 3, .inr (5, [.int (hv 3).1, .int (hv 3).2.1, .int (hv 3).2.2.1, .ref (sn 3), .ref (sm 3)])), (sn 3, .inl (gI G, 512, .inl (hv 3).2.2.2.1)), (sm 3, .inl (gI G, 512, .inl (hv 3).2.2.2.2)), (sa 4, .inr (5, [.int (hv 4).1, .int (hv 4).2.1, .int (hv 4).2.2.1, .ref (sn 4), .ref (sm 4)])), (sn 4, .inl (gI G, 512, .inl (hv 4).2.2.2.1)), (sm 4, .inl (gI G, 512, .inl (hv 4).2.2.2.2)), (sa 5, .inr (5, [.int (hv 5).1, .int (hv 5).2.1, .int (hv 5).2.2.1, .ref (sn 5), .ref (sm 5)])), (sn 5, .inl (gI G, 512, .inl (hv 5).2.2.2.1)), (sm 5, .inl (gI G, 512, .inl (hv 5).2.2.2.2)), (h4, .inr (4, [.int u.2.1, .ref a1, .ref a2, .ref a3, .ref a4])), (a1, .inl (gI G, 8, .inl u.2.2.1)), (a2, .inl (gI G, 8, .inl u.2.2.2.1)), (a3, .inl (gI G, 8, .inl u.2.2.2.2.1)), (a4, .inl (gI G, 8, .inl u.2.2.2.2.2))])) 1 6 := by
  refine Ct.of (cc := cX7_count) (N := 2) (ret := (some .int)) RX7 (by decide) rfl rfl hl (Nat.le_of_ble_eq_true rfl) (lv := [(0, .ref h7), (1, .int p1)]) rfl (fun X hXG C hex hnm hQ => ?_)
  subst hXG
  unfold f_X7_count at hf
  refine j_iload_n C dX7_count_0 rfl 1 rfl ?_
  refine j_if_lt C (tgt := 10) dX7_count_1 (by decide) (fun e1 => ?_) (fun e1 => ?_)
  · have hf := (if_pos e1).symm.trans hf
    obtain rfl := Option.some.inj hf
    exact j_throw2 C hQ hex (is := 232) (text := "what is asked is out of range") (by decide +kernel) tg_X7_count_2 wd_X7_count_x2 wd_X7_count_y2 dX7_count_10 dX7_count_13 dX7_count_14 dX7_count_16 dX7_count_19 rfl ⟨rfl, rfl⟩
  · have hf := (if_neg e1).symm.trans hf
    refine j_iload_n C dX7_count_4 rfl 1 rfl ?_
    refine j_bipush C (v := 8) dX7_count_5 (by decide) ?_
    refine j_icmp_le C (tgt := 20) dX7_count_7 (by decide) (fun e7 => ?_) (fun e7 => ?_)
    · have hf := (if_pos e7).symm.trans hf
      refine j_iload_n C dX7_count_20 rfl 1 rfl ?_
      have k124 : f_X7_count_J124 p1 vD vA vL vN lD lS lF lG lR = some y → Jt X [(h7, .inr (7, [.ref h5, .ref h2, .ref h6, .ref h4, .ref h0, .ref h3, .ref h1, .ref qb])), (qb, .inl (gI X.1, 512, .inl nB)), (h5, .inr (5, [.int vD, .int vA, .int vL, .ref qn, .ref qm])), (qn, .inl (gI X.1, 512, .inl vN)), (qm, .inl (gI X.1, 512, .inl vM)), (h2, .inr (2, [.ref qh, .int oO, .int oS])), (qh, .inl (gO X.1, 6, .inr (.inr (.inr (.inr (fun k => some (sa k))))))), (sa 0, .inr (5, [.int (hv 0).1, .int (hv 0).2.1, .int (hv 0).2.2.1, .ref (sn 0), .ref (sm 0)])), (sn 0, .inl (gI X.1, 512, .inl (hv 0).2.2.2.1)), (sm 0, .inl (gI X.1, 512, .inl (hv 0).2.2.2.2)), (sa 1, .inr (5, [.int (hv 1).1, .int (hv 1).2.1, .int (hv 1).2.2.1, .ref (sn 1), .ref (sm 1)])), (sn 1, .inl (gI X.1, 512, .inl (hv 1).2.2.2.1)), (sm 1, .inl (gI X.1, 512, .inl (hv 1).2.2.2.2)), (sa 2, .inr (5, [.int (hv 2).1, .int (hv 2).2.1, .int (hv 2).2.2.1, .ref (sn 2), .ref (sm 2)])), (sn 2, .inl (gI X.1, 512, .inl (hv 2).2.2.2.1)), (sm 2, .inl (gI X.1, 512, .inl (hv 2).2.2.2.2)), (sa 3, .inr (5, [.int (hv 3).1, .int (hv 3).2.1, .int (hv 3).2.2.1, .ref (sn 3), .ref (sm 3)])), (sn 3, .inl (gI X.1, 512, .inl (hv 3).2.2.2.1)), (sm 3, .inl (gI X.1, 512, .inl (hv 3).2.2.2.2)), (sa 4, .inr (5, [.int (hv 4).1, .int (hv 4).2.1, .int (hv 4).2.2.1, .ref (sn 4), .ref (sm 4)])), (sn 4, .inl (gI X.1, 512, .inl (hv 4).2.2.2.1)), (sm 4, .inl (gI X.1, 512, .inl (hv 4).2.2.2.2)), (sa 5, .inr (5, [.int (hv 5).1, .int (hv 5).2.1, .int (hv 5).2.2.1, .ref (sn 5), .ref (sm 5)])), (sn 5, .inl (gI X.1, 512, .inl (hv 5).2.2.2.1)), (sm 5, .inl (gI X.1, 512, .inl (hv 5).2.2.2.2)), (h4, .inr (4, [.int lD, .ref a1, .ref a2, .ref a3, .ref a4])), (a1, .inl (gI X.1, 8, .inl lS)), (a2, .inl (gI X.1, 8, .inl lF)), (a3, .inl (gI X.1, 8, .inl lG)), (a4, .inl (gI X.1, 8, .inl lR))] 0 0 124 [(0, .ref h7), (1, .int p1)] [] := by
        intro  hf
        unfold f_X7_count_J124 at hf
        refine j_aload_n C dX7_count_124 rfl 0 rfl ?_
        refine j_get7 C 0 rfl 3 (by decide) in_X7_count_7 lk_X7_count_33 rfl dX7_count_125 ?_
        refine j_aload_n C dX7_count_128 rfl 0 rfl ?_
        refine j_get7 C 0 rfl 0 (by decide) in_X7_count_7 lk_X7_count_10 rfl dX7_count_129 ?_
        refine j_aload_n C dX7_count_132 rfl 0 rfl ?_
        refine j_get7 C 0 rfl 0 (by decide) in_X7_count_7 lk_X7_count_10 rfl dX7_count_133 ?_
        refine j_getN5 C 2 rfl 1 (by decide) in_X7_count_5 nw_X7_155 rfl dX7_count_136 ?_
        obtain ⟨r139, hc139, hf⟩ := Option.bind_eq_some_iff.mp hf
        refine j_cV C (b_X4_look X.1 hl h4 a1 a2 a3 a4 h5 qn qm vD vA vL vN vM lD lS lF lG lR vA r139 hc139) k_X4_look gX7_count_X4_look rfl (ci := 4) (q0 := 0) rfl rfl (As := [.ref h5, .int vA]) (rest := []) (st' := []) (ws' := [(h7, .inr (7, [.ref h5, .ref h2, .ref h6, .ref h4, .ref h0, .ref h3, .ref h1, .ref qb])), (qb, .inl (gI X.1, 512, .inl nB)), (h5, .inr (5, [.int vD, .int vA, .int vL, .ref qn, .ref qm])), (qn, .inl (gI X.1, 512, .inl vN)), (qm, .inl (gI X.1, 512, .inl vM)), (h2, .inr (2, [.ref qh, .int oO, .int oS])), (qh, .inl (gO X.1, 6, .inr (.inr (.inr (.inr (fun k => some (sa k))))))), (sa 0, .inr (5, [.int (hv 0).1, .int (hv 0).2.1, .int (hv 0).2.2.1, .ref (sn 0), .ref (sm 0)])), (sn 0, .inl (gI X.1, 512, .inl (hv 0).2.2.2.1)), (sm 0, .inl (gI X.1, 512, .inl (hv 0).2.2.2.2)), (sa 1, .inr (5, [.int (hv 1).1, .int (hv 1).2.1, .int (hv 1).2.2.1, .ref (sn 1), .ref (sm 1)])), (sn 1, .inl (gI X.1, 512, .inl (hv 1).2.2.2.1)), (sm 1, .inl (gI X.1, 512, .inl (hv 1).2.2.2.2)), (sa 2, .inr (5, [.int (hv 2).1, .int (hv 2).2.1, .int (hv 2).2.2.1, .ref (sn 2), .ref (sm 2)])), (sn 2, .inl (gI X.1, 512, .inl (hv 2).2.2.2.1)), (sm 2, .inl (gI X.1, 512, .inl (hv 2).2.2.2.2)), (sa 3, .inr (5, [.int (hv 3).1, .int (hv 3).2.1, .int (hv 3).2.2.1, .ref (sn 3), .ref (sm 3)])), (sn 3, .inl (gI X.1, 512, .inl (hv 3).2.2.2.1)), (sm 3, .inl (gI X.1, 512, .inl (hv 3).2.2.2.2)), (sa 4, .inr (5, [.int (hv 4).1, .int (hv 4).2.1, .int (hv 4).2.2.1, .ref (sn 4), .ref (sm 4)])), (sn 4, .inl (gI X.1, 512, .inl (hv 4).2.2.2.1)), (sm 4, .inl (gI X.1, 512, .inl (hv 4).2.2.2.2)), (sa 5, .inr (5, [.int (hv 5).1, .int (hv 5).2.1, .int (hv 5).2.2.1, .ref (sn 5), .ref (sm 5)])), (sn 5, .inl (gI X.1, 512, .inl (hv 5).2.2.2.1)), (sm 5, .inl (gI X.1, 512, .inl (hv 5).2.2.2.2)), (h4, .inr (4, [.int r139.1, .ref a1, .ref a2, .ref a3, .ref a4])), (a1, .inl (gI X.1, 8, .inl r139.2.1)), (a2, .inl (gI X.1, 8, .inl r139.2.2.1)), (a3, .inl (gI X.1, 8, .inl r139.2.2.2.1)), (a4, .inl (gI X.1, 8, .inl r139.2.2.2.2))]) rfl rfl dX7_count_139 [25, 26, 27, 28, 29, 2, 3, 4] [0, 1, 5, 6, 7, 8, 9, 10, 11, 12, 13, 14, 15, 16, 17, 18, 19, 20, 21, 22, 23, 24] [0, 1, 27, 28, 29, 2, 3, 4, 5, 6, 7, 8, 9, 10, 11, 12, 13, 14, 15, 16, 17, 18, 19, 20, 21, 22, 23, 24, 25, 26] rfl rfl rfl rfl rfl rfl ?_
        refine j_aload_n C dX7_count_142 rfl 0 rfl ?_
        refine j_get7 C 0 rfl 3 (by decide) in_X7_count_7 lk_X7_count_33 rfl dX7_count_143 ?_
        refine j_iload_n C dX7_count_146 rfl 1 rfl ?_
        refine j_iconst C (v := 5) dX7_count_147 (by decide) ?_
        refine j_isub C dX7_count_148 ?_
        refine j_aload_n C dX7_count_149 rfl 0 rfl ?_
        refine j_get7 C 0 rfl 0 (by decide) in_X7_count_7 lk_X7_count_10 rfl dX7_count_150 ?_
        refine j_getN5 C 2 rfl 2 (by decide) in_X7_count_5 nw_X7_171 rfl dX7_count_153 ?_
        obtain ⟨r156, hc156, hf⟩ := Option.bind_eq_some_iff.mp hf
        refine j_cV C (b_X4_countOfForm X.1 hl h4 a1 a2 a3 a4 r139.1 r139.2.1 r139.2.2.1 r139.2.2.2.1 r139.2.2.2.2 (p1 - 5) vL r156 hc156) k_X4_countOfForm gX7_count_X4_countOfForm rfl (ci := 4) (q0 := 0) rfl rfl (As := [.int (p1 - 5), .int vL]) (rest := []) (st' := [.int r156]) (ws' := [(h7, .inr (7, [.ref h5, .ref h2, .ref h6, .ref h4, .ref h0, .ref h3, .ref h1, .ref qb])), (qb, .inl (gI X.1, 512, .inl nB)), (h5, .inr (5, [.int vD, .int vA, .int vL, .ref qn, .ref qm])), (qn, .inl (gI X.1, 512, .inl vN)), (qm, .inl (gI X.1, 512, .inl vM)), (h2, .inr (2, [.ref qh, .int oO, .int oS])), (qh, .inl (gO X.1, 6, .inr (.inr (.inr (.inr (fun k => some (sa k))))))), (sa 0, .inr (5, [.int (hv 0).1, .int (hv 0).2.1, .int (hv 0).2.2.1, .ref (sn 0), .ref (sm 0)])), (sn 0, .inl (gI X.1, 512, .inl (hv 0).2.2.2.1)), (sm 0, .inl (gI X.1, 512, .inl (hv 0).2.2.2.2)), (sa 1, .inr (5, [.int (hv 1).1, .int (hv 1).2.1, .int (hv 1).2.2.1, .ref (sn 1), .ref (sm 1)])), (sn 1, .inl (gI X.1, 512, .inl (hv 1).2.2.2.1)), (sm 1, .inl (gI X.1, 512, .inl (hv 1).2.2.2.2)), (sa 2, .inr (5, [.int (hv 2).1, .int (hv 2).2.1, .int (hv 2).2.2.1, .ref (sn 2), .ref (sm 2)])), (sn 2, .inl (gI X.1, 512, .inl (hv 2).2.2.2.1)), (sm 2, .inl (gI X.1, 512, .inl (hv 2).2.2.2.2)), (sa 3, .inr (5, [.int (hv 3).1, .int (hv 3).2.1, .int (hv 3).2.2.1, .ref (sn 3), .ref (sm 3)])), (sn 3, .inl (gI X.1, 512, .inl (hv 3).2.2.2.1)), (sm 3, .inl (gI X.1, 512, .inl (hv 3).2.2.2.2)), (sa 4, .inr (5, [.int (hv 4).1, .int (hv 4).2.1, .int (hv 4).2.2.1, .ref (sn 4), .ref (sm 4)])), (sn 4, .inl (gI X.1, 512, .inl (hv 4).2.2.2.1)), (sm 4, .inl (gI X.1, 512, .inl (hv 4).2.2.2.2)), (sa 5, .inr (5, [.int (hv 5).1, .int (hv 5).2.1, .int (hv 5).2.2.1, .ref (sn 5), .ref (sm 5)])), (sn 5, .inl (gI X.1, 512, .inl (hv 5).2.2.2.1)), (sm 5, .inl (gI X.1, 512, .inl (hv 5).2.2.2.2)), (h4, .inr (4, [.int r139.1, .ref a1, .ref a2, .ref a3, .ref a4])), (a1, .inl (gI X.1, 8, .inl r139.2.1)), (a2, .inl (gI X.1, 8, .inl r139.2.2.1)), (a3, .inl (gI X.1, 8, .inl r139.2.2.2.1)), (a4, .inl (gI X.1, 8, .inl r139.2.2.2.2))]) rfl rfl dX7_count_156 [25, 26, 27, 28, 29] [0, 1, 2, 3, 4, 5, 6, 7, 8, 9, 10, 11, 12, 13, 14, 15, 16, 17, 18, 19, 20, 21, 22, 23, 24] [0, 1, 2, 3, 4, 5, 6, 7, 8, 9, 10, 11, 12, 13, 14, 15, 16, 17, 18, 19, 20, 21, 22, 23, 24, 25, 26, 27, 28, 29] rfl rfl rfl rfl rfl rfl ?_
        obtain rfl := Option.some.inj hf
        exact j_iret C hQ rfl dX7_count_159 (Nat.zero_le _) (Nat.zero_le _) ⟨rfl, rfl⟩
      by_cases e21_0 : p1 = 0
      · have hf := (if_pos e21_0).symm.trans hf
        refine j_tabIn C (off := 51) (tgt := 72) dX7_count_21 (by rw [e21_0]; decide) (by rw [e21_0]; decide) (by rw [e21_0]; decide) (by decide) ?_
        refine j_aload_n C dX7_count_72 rfl 0 rfl ?_
        refine j_get7 C 0 rfl 0 (by decide) in_X7_count_7 lk_X7_count_10 rfl dX7_count_73 ?_
        refine j_getN5 C 2 rfl 0 (by decide) in_X7_count_5 nw_X7_137 rfl dX7_count_76 ?_
        obtain rfl := Option.some.inj hf
        exact j_iret C hQ rfl dX7_count_79 (Nat.zero_le _) (Nat.zero_le _) ⟨rfl, rfl⟩
      have hf := (if_neg e21_0).symm.trans hf
      by_cases e21_1 : p1 = 1
      · have hf := (if_pos e21_1).symm.trans hf
        refine j_tabIn C (off := 59) (tgt := 80) dX7_count_21 (by rw [e21_1]; decide) (by rw [e21_1]; decide) (by rw [e21_1]; decide) (by decide) ?_
        refine j_aload_n C dX7_count_80 rfl 0 rfl ?_
        refine j_get7 C 0 rfl 0 (by decide) in_X7_count_7 lk_X7_count_10 rfl dX7_count_81 ?_
        refine j_getN5 C 2 rfl 1 (by decide) in_X7_count_5 nw_X7_155 rfl dX7_count_84 ?_
        obtain rfl := Option.some.inj hf
        exact j_iret C hQ rfl dX7_count_87 (Nat.zero_le _) (Nat.zero_le _) ⟨rfl, rfl⟩
      have hf := (if_neg e21_1).symm.trans hf
      by_cases e21_2 : p1 = 2
      · have hf := (if_pos e21_2).symm.trans hf
        refine j_tabIn C (off := 67) (tgt := 88) dX7_count_21 (by rw [e21_2]; decide) (by rw [e21_2]; decide) (by rw [e21_2]; decide) (by decide) ?_
        refine j_aload_n C dX7_count_88 rfl 0 rfl ?_
        refine j_get7 C 0 rfl 0 (by decide) in_X7_count_7 lk_X7_count_10 rfl dX7_count_89 ?_
        obtain ⟨r92, hc92, hf⟩ := Option.bind_eq_some_iff.mp hf
        refine j_cV C (b_X5_filled X.1 hl h5 qn qm vD vA vL vN vM r92 hc92) k_X5_filled gX7_count_X5_filled rfl (ci := 5) (q0 := 0) rfl rfl (As := []) (rest := []) (st' := [.int r92]) (ws' := [(h7, .inr (7, [.ref h5, .ref h2, .ref h6, .ref h4, .ref h0, .ref h3, .ref h1, .ref qb])), (qb, .inl (gI X.1, 512, .inl nB)), (h5, .inr (5, [.int vD, .int vA, .int vL, .ref qn, .ref qm])), (qn, .inl (gI X.1, 512, .inl vN)), (qm, .inl (gI X.1, 512, .inl vM)), (h2, .inr (2, [.ref qh, .int oO, .int oS])), (qh, .inl (gO X.1, 6, .inr (.inr (.inr (.inr (fun k => some (sa k))))))), (sa 0, .inr (5, [.int (hv 0).1, .int (hv 0).2.1, .int (hv 0).2.2.1, .ref (sn 0), .ref (sm 0)])), (sn 0, .inl (gI X.1, 512, .inl (hv 0).2.2.2.1)), (sm 0, .inl (gI X.1, 512, .inl (hv 0).2.2.2.2)), (sa 1, .inr (5, [.int (hv 1).1, .int (hv 1).2.1, .int (hv 1).2.2.1, .ref (sn 1), .ref (sm 1)])), (sn 1, .inl (gI X.1, 512, .inl (hv 1).2.2.2.1)), (sm 1, .inl (gI X.1, 512, .inl (hv 1).2.2.2.2)), (sa 2, .inr (5, [.int (hv 2).1, .int (hv 2).2.1, .int (hv 2).2.2.1, .ref (sn 2), .ref (sm 2)])), (sn 2, .inl (gI X.1, 512, .inl (hv 2).2.2.2.1)), (sm 2, .inl (gI X.1, 512, .inl (hv 2).2.2.2.2)), (sa 3, .inr (5, [.int (hv 3).1, .int (hv 3).2.1, .int (hv 3).2.2.1, .ref (sn 3), .ref (sm 3)])), (sn 3, .inl (gI X.1, 512, .inl (hv 3).2.2.2.1)), (sm 3, .inl (gI X.1, 512, .inl (hv 3).2.2.2.2)), (sa 4, .inr (5, [.int (hv 4).1, .int (hv 4).2.1, .int (hv 4).2.2.1, .ref (sn 4), .ref (sm 4)])), (sn 4, .inl (gI X.1, 512, .inl (hv 4).2.2.2.1)), (sm 4, .inl (gI X.1, 512, .inl (hv 4).2.2.2.2)), (sa 5, .inr (5, [.int (hv 5).1, .int (hv 5).2.1, .int (hv 5).2.2.1, .ref (sn 5), .ref (sm 5)])), (sn 5, .inl (gI X.1, 512, .inl (hv 5).2.2.2.1)), (sm 5, .inl (gI X.1, 512, .inl (hv 5).2.2.2.2)), (h4, .inr (4, [.int lD, .ref a1, .ref a2, .ref a3, .ref a4])), (a1, .inl (gI X.1, 8, .inl lS)), (a2, .inl (gI X.1, 8, .inl lF)), (a3, .inl (gI X.1, 8, .inl lG)), (a4, .inl (gI X.1, 8, .inl lR))]) rfl rfl dX7_count_92 [2, 3, 4] [0, 1, 5, 6, 7, 8, 9, 10, 11, 12, 13, 14, 15, 16, 17, 18, 19, 20, 21, 22, 23, 24, 25, 26, 27, 28, 29] [0, 1, 27, 28, 29, 2, 3, 4, 5, 6, 7, 8, 9, 10, 11, 12, 13, 14, 15, 16, 17, 18, 19, 20, 21, 22, 23, 24, 25, 26] rfl rfl rfl rfl rfl rfl ?_
        obtain rfl := Option.some.inj hf
        exact j_iret C hQ rfl dX7_count_95 (Nat.zero_le _) (Nat.zero_le _) ⟨rfl, rfl⟩
      have hf := (if_neg e21_2).symm.trans hf
      by_cases e21_3 : p1 = 3
      · have hf := (if_pos e21_3).symm.trans hf
        refine j_tabIn C (off := 75) (tgt := 96) dX7_count_21 (by rw [e21_3]; decide) (by rw [e21_3]; decide) (by rw [e21_3]; decide) (by decide) ?_
        refine j_aload_n C dX7_count_96 rfl 0 rfl ?_
        refine j_get7 C 0 rfl 0 (by decide) in_X7_count_7 lk_X7_count_10 rfl dX7_count_97 ?_
        obtain ⟨r100, hc100, hf⟩ := Option.bind_eq_some_iff.mp hf
        refine j_cV C (b_X5_sum X.1 hl h5 qn qm vD vA vL vN vM r100 hc100) k_X5_sum gX7_count_X5_sum rfl (ci := 5) (q0 := 0) rfl rfl (As := []) (rest := []) (st' := [.int r100]) (ws' := [(h7, .inr (7, [.ref h5, .ref h2, .ref h6, .ref h4, .ref h0, .ref h3, .ref h1, .ref qb])), (qb, .inl (gI X.1, 512, .inl nB)), (h5, .inr (5, [.int vD, .int vA, .int vL, .ref qn, .ref qm])), (qn, .inl (gI X.1, 512, .inl vN)), (qm, .inl (gI X.1, 512, .inl vM)), (h2, .inr (2, [.ref qh, .int oO, .int oS])), (qh, .inl (gO X.1, 6, .inr (.inr (.inr (.inr (fun k => some (sa k))))))), (sa 0, .inr (5, [.int (hv 0).1, .int (hv 0).2.1, .int (hv 0).2.2.1, .ref (sn 0), .ref (sm 0)])), (sn 0, .inl (gI X.1, 512, .inl (hv 0).2.2.2.1)), (sm 0, .inl (gI X.1, 512, .inl (hv 0).2.2.2.2)), (sa 1, .inr (5, [.int (hv 1).1, .int (hv 1).2.1, .int (hv 1).2.2.1, .ref (sn 1), .ref (sm 1)])), (sn 1, .inl (gI X.1, 512, .inl (hv 1).2.2.2.1)), (sm 1, .inl (gI X.1, 512, .inl (hv 1).2.2.2.2)), (sa 2, .inr (5, [.int (hv 2).1, .int (hv 2).2.1, .int (hv 2).2.2.1, .ref (sn 2), .ref (sm 2)])), (sn 2, .inl (gI X.1, 512, .inl (hv 2).2.2.2.1)), (sm 2, .inl (gI X.1, 512, .inl (hv 2).2.2.2.2)), (sa 3, .inr (5, [.int (hv 3).1, .int (hv 3).2.1, .int (hv 3).2.2.1, .ref (sn 3), .ref (sm 3)])), (sn 3, .inl (gI X.1, 512, .inl (hv 3).2.2.2.1)), (sm 3, .inl (gI X.1, 512, .inl (hv 3).2.2.2.2)), (sa 4, .inr (5, [.int (hv 4).1, .int (hv 4).2.1, .int (hv 4).2.2.1, .ref (sn 4), .ref (sm 4)])), (sn 4, .inl (gI X.1, 512, .inl (hv 4).2.2.2.1)), (sm 4, .inl (gI X.1, 512, .inl (hv 4).2.2.2.2)), (sa 5, .inr (5, [.int (hv 5).1, .int (hv 5).2.1, .int (hv 5).2.2.1, .ref (sn 5), .ref (sm 5)])), (sn 5, .inl (gI X.1, 512, .inl (hv 5).2.2.2.1)), (sm 5, .inl (gI X.1, 512, .inl (hv 5).2.2.2.2)), (h4, .inr (4, [.int lD, .ref a1, .ref a2, .ref a3, .ref a4])), (a1, .inl (gI X.1, 8, .inl lS)), (a2, .inl (gI X.1, 8, .inl lF)), (a3, .inl (gI X.1, 8, .inl lG)), (a4, .inl (gI X.1, 8, .inl lR))]) rfl rfl dX7_count_100 [2, 3, 4] [0, 1, 5, 6, 7, 8, 9, 10, 11, 12, 13, 14, 15, 16, 17, 18, 19, 20, 21, 22, 23, 24, 25, 26, 27, 28, 29] [0, 1, 27, 28, 29, 2, 3, 4, 5, 6, 7, 8, 9, 10, 11, 12, 13, 14, 15, 16, 17, 18, 19, 20, 21, 22, 23, 24, 25, 26] rfl rfl rfl rfl rfl rfl ?_
        obtain rfl := Option.some.inj hf
        exact j_iret C hQ rfl dX7_count_103 (Nat.zero_le _) (Nat.zero_le _) ⟨rfl, rfl⟩
      have hf := (if_neg e21_3).symm.trans hf
      by_cases e21_4 : p1 = 4
      · have hf := (if_pos e21_4).symm.trans hf
        refine j_tabIn C (off := 83) (tgt := 104) dX7_count_21 (by rw [e21_4]; decide) (by rw [e21_4]; decide) (by rw [e21_4]; decide) (by decide) ?_
        refine j_aload_n C dX7_count_104 rfl 0 rfl ?_
        refine j_aload_n C dX7_count_105 rfl 0 rfl ?_
        refine j_get7 C 0 rfl 0 (by decide) in_X7_count_7 lk_X7_count_10 rfl dX7_count_106 ?_
        refine j_getN5 C 2 rfl 1 (by decide) in_X7_count_5 nw_X7_155 rfl dX7_count_109 ?_
        obtain ⟨r112, hc112, hf⟩ := Option.bind_eq_some_iff.mp hf
        refine j_cV C (b_X7_roomBy X.1 hl h7 h5 h2 h6 h4 h0 h3 h1 qb qn qm a1 a2 a3 a4 vD vA vL vN vM lD lS lF lG lR nB vA r112 hc112) k_X7_roomBy gX7_count_X7_roomBy rfl (ci := 7) (q0 := 0) rfl rfl (As := [.int vA]) (rest := []) (st' := [.int r112.1]) (ws' := [(h7, .inr (7, [.ref h5, .ref h2, .ref h6, .ref h4, .ref h0, .ref h3, .ref h1, .ref qb])), (qb, .inl (gI X.1, 512, .inl nB)), (h5, .inr (5, [.int vD, .int vA, .int vL, .ref qn, .ref qm])), (qn, .inl (gI X.1, 512, .inl vN)), (qm, .inl (gI X.1, 512, .inl vM)), (h2, .inr (2, [.ref qh, .int oO, .int oS])), (qh, .inl (gO X.1, 6, .inr (.inr (.inr (.inr (fun k => some (sa k))))))), (sa 0, .inr (5, [.int (hv 0).1, .int (hv 0).2.1, .int (hv 0).2.2.1, .ref (sn 0), .ref (sm 0)])), (sn 0, .inl (gI X.1, 512, .inl (hv 0).2.2.2.1)), (sm 0, .inl (gI X.1, 512, .inl (hv 0).2.2.2.2)), (sa 1, .inr (5, [.int (hv 1).1, .int (hv 1).2.1, .int (hv 1).2.2.1, .ref (sn 1), .ref (sm 1)])), (sn 1, .inl (gI X.1, 512, .inl (hv 1).2.2.2.1)), (sm 1, .inl (gI X.1, 512, .inl (hv 1).2.2.2.2)), (sa 2, .inr (5, [.int (hv 2).1, .int (hv 2).2.1, .int (hv 2).2.2.1, .ref (sn 2), .ref (sm 2)])), (sn 2, .inl (gI X.1, 512, .inl (hv 2).2.2.2.1)), (sm 2, .inl (gI X.1, 512, .inl (hv 2).2.2.2.2)), (sa 3, .inr (5, [.int (hv 3).1, .int (hv 3).2.1, .int (hv 3).2.2.1, .ref (sn 3), .ref (sm 3)])), (sn 3, .inl (gI X.1, 512, .inl (hv 3).2.2.2.1)), (sm 3, .inl (gI X.1, 512, .inl (hv 3).2.2.2.2)), (sa 4, .inr (5, [.int (hv 4).1, .int (hv 4).2.1, .int (hv 4).2.2.1, .ref (sn 4), .ref (sm 4)])), (sn 4, .inl (gI X.1, 512, .inl (hv 4).2.2.2.1)), (sm 4, .inl (gI X.1, 512, .inl (hv 4).2.2.2.2)), (sa 5, .inr (5, [.int (hv 5).1, .int (hv 5).2.1, .int (hv 5).2.2.1, .ref (sn 5), .ref (sm 5)])), (sn 5, .inl (gI X.1, 512, .inl (hv 5).2.2.2.1)), (sm 5, .inl (gI X.1, 512, .inl (hv 5).2.2.2.2)), (h4, .inr (4, [.int r112.2.1, .ref a1, .ref a2, .ref a3, .ref a4])), (a1, .inl (gI X.1, 8, .inl r112.2.2.1)), (a2, .inl (gI X.1, 8, .inl r112.2.2.2.1)), (a3, .inl (gI X.1, 8, .inl r112.2.2.2.2.1)), (a4, .inl (gI X.1, 8, .inl r112.2.2.2.2.2))]) rfl rfl dX7_count_112 [0, 1, 2, 3, 4, 25, 26, 27, 28, 29] [5, 6, 7, 8, 9, 10, 11, 12, 13, 14, 15, 16, 17, 18, 19, 20, 21, 22, 23, 24] [20, 21, 22, 23, 24, 0, 1, 2, 3, 4, 5, 6, 7, 8, 9, 10, 11, 12, 13, 14, 15, 16, 17, 18, 19, 25, 26, 27, 28, 29] rfl rfl rfl rfl rfl rfl ?_
        obtain rfl := Option.some.inj hf
        exact j_iret C hQ rfl dX7_count_115 (Nat.zero_le _) (Nat.zero_le _) ⟨rfl, rfl⟩
      have hf := (if_neg e21_4).symm.trans hf
      by_cases e21_5 : p1 = 5
      · have hf := (if_pos e21_5).symm.trans hf
        refine j_tabIn C (off := 103) (tgt := 124) dX7_count_21 (by rw [e21_5]; decide) (by rw [e21_5]; decide) (by rw [e21_5]; decide) (by decide) ?_
        refine j_loc [0, 1] rfl ?_
        exact k124  hf
      have hf := (if_neg e21_5).symm.trans hf
      by_cases e21_6 : p1 = 6
      · have hf := (if_pos e21_6).symm.trans hf
        refine j_tabIn C (off := 103) (tgt := 124) dX7_count_21 (by rw [e21_6]; decide) (by rw [e21_6]; decide) (by rw [e21_6]; decide) (by decide) ?_
        refine j_loc [0, 1] rfl ?_
        exact k124  hf
      have hf := (if_neg e21_6).symm.trans hf
      by_cases e21_7 : p1 = 7
      · have hf := (if_pos e21_7).symm.trans hf
        refine j_tabIn C (off := 103) (tgt := 124) dX7_count_21 (by rw [e21_7]; decide) (by rw [e21_7]; decide) (by rw [e21_7]; decide) (by decide) ?_
        refine j_loc [0, 1] rfl ?_
        exact k124  hf
      have hf := (if_neg e21_7).symm.trans hf
      by_cases e21_8 : p1 = 8
      · have hf := (if_pos e21_8).symm.trans hf
        refine j_tabIn C (off := 95) (tgt := 116) dX7_count_21 (by rw [e21_8]; decide) (by rw [e21_8]; decide) (by rw [e21_8]; decide) (by decide) ?_
        refine j_aload_n C dX7_count_116 rfl 0 rfl ?_
        refine j_get7 C 0 rfl 1 (by decide) in_X7_count_7 lk_X7_count_19 rfl dX7_count_117 ?_
        refine j_getN2 C 5 rfl 2 (by decide) in_X7_count_2 nw_X7_200 rfl dX7_count_120 ?_
        obtain rfl := Option.some.inj hf
        exact j_iret C hQ rfl dX7_count_123 (Nat.zero_le _) (Nat.zero_le _) ⟨rfl, rfl⟩
      have hf := (if_neg e21_8).symm.trans hf
      have t21_0 : p1.toInt ≠ 0 := fun h => e21_0 (Int32.toInt_inj.mp h)
      have t21_1 : p1.toInt ≠ 1 := fun h => e21_1 (Int32.toInt_inj.mp h)
      have t21_2 : p1.toInt ≠ 2 := fun h => e21_2 (Int32.toInt_inj.mp h)
      have t21_3 : p1.toInt ≠ 3 := fun h => e21_3 (Int32.toInt_inj.mp h)
      have t21_4 : p1.toInt ≠ 4 := fun h => e21_4 (Int32.toInt_inj.mp h)
      have t21_5 : p1.toInt ≠ 5 := fun h => e21_5 (Int32.toInt_inj.mp h)
      have t21_6 : p1.toInt ≠ 6 := fun h => e21_6 (Int32.toInt_inj.mp h)
      have t21_7 : p1.toInt ≠ 7 := fun h => e21_7 (Int32.toInt_inj.mp h)
      have t21_8 : p1.toInt ≠ 8 := fun h => e21_8 (Int32.toInt_inj.mp h)
      refine j_tabOut C (tgt := 124) dX7_count_21 (by omega) (by decide) ?_
      refine j_loc [0, 1] rfl ?_
      exact k124  hf
    · have hf := (if_neg e7).symm.trans hf
      obtain rfl := Option.some.inj hf
      exact j_throw2 C hQ hex (is := 232) (text := "what is asked is out of range") (by decide +kernel) tg_X7_count_2 wd_X7_count_x2 wd_X7_count_y2 dX7_count_10 dX7_count_13 dX7_count_14 dX7_count_16 dX7_count_19 rfl ⟨rfl, rfl⟩
abbrev rmn_X7_count : Room := { frames := 6, cells := 0, slots := 0, locals := 137 }
theorem kn_X7_count : Cf yX7_count wsX7_count rmn_X7_count cX7_count 2 (some .int) 1 := ⟨⟨_, rfl⟩, by decide +kernel, by decide +kernel, by decide +kernel⟩
set_option maxRecDepth 100000 in
set_option maxHeartbeats 4000000 in
theorem n_X7_count (G : CG) (hl : (gL G).stackTraces = false) (h7 : Nat) (h5 : Nat) (h2 : Nat) (h6 : Nat) (h4 : Nat) (h0 : Nat) (h3 : Nat) (h1 : Nat) (qb : Nat) (qn : Nat) (qm : Nat) (qh : Nat) (sa : Nat → Nat) (sn : Nat → Nat) (sm : Nat → Nat) (a1 : Nat) (a2 : Nat) (a3 : Nat) (a4 : Nat) (vD : Int32) (vA : Int32) (vL : Int32) (vN : (Nat → Int32)) (vM : (Nat → Int32)) (oO : Int32) (oS : Int32) (hv : (Nat → SV)) (lD : Int32) (lS : (Nat → Int32)) (lF : (Nat → Int32)) (lG : (Nat → Int32)) (lR : (Nat → Int32)) (nB : (Nat → Int32)) (p1 : Int32) (u : Int32 × Int32 × (Nat → Int32) × (Nat → Int32) × (Nat → Int32) × (Nat → Int32)) (y : Nat ⊕ (Int32 × Int32 × (Nat → Int32) × (Nat → Int32) × (Nat → Int32) × (Nat → Int32))) (hy : y = .inr u) (hf : f_X7_count p1 vD vA vL vN oS lD lS lF lG lR = some y) : Ct G yX7_count wsX7_count rmn_X7_count [.ref h7, .int p1] [(h7, .inr (7, [.ref h5, .ref h2, .ref h6, .ref h4, .ref h0, .ref h3, .ref h1, .ref qb])), (qb, .inl (gI G, 512, .inl nB)), (h5, .inr (5, [.int vD, .int vA, .int vL, .ref qn, .ref qm])), (qn, .inl (gI G, 512, .inl vN)), (qm, .inl (gI G, 512, .inl vM)), (h2, .inr (2, [.ref qh, .int oO, .int oS])), (qh, .inl (gO G, 6, .inr (.inr (.inr (.inr (fun k => some (sa k))))))), (sa 0, .inr (5, [.int (hv 0).1, .int (hv 0).2.1, .int (hv 0).2.2.1, .ref (sn 0), .ref (sm 0)])), (sn 0, .inl (gI G, 512, .inl (hv 0).2.2.2.1)), (sm 0, .inl (gI G, 512, .inl (hv 0).2.2.2.2)), (sa 1, .inr (5, [.int (hv 1).1, .int (hv 1).2.1, .int (hv 1).2.2.1, .ref (sn 1), .ref (sm 1)])), (sn 1, .inl (gI G, 512, .inl (hv 1).2.2.2.1)), (sm 1, .inl (gI G, 512, .inl (hv 1).2.2.2.2)), (sa 2, .inr (5, [.int (hv 2).1, .int (hv 2).2.1, .int (hv 2).2.2.1, .ref (sn 2), .ref (sm 2)])), (sn 2, .inl (gI G, 512, .inl (hv 2).2.2.2.1)), (sm 2, .inl (gI G, 512, .inl (hv 2).2.2.2.2)), (sa 3, .inr (5, [.int (hv 3).1, .int (hv 3).2.1, .int (hv 3).2.2.1, .ref (sn 3), .ref (sm 3)])), (sn 3, .inl (gI G, 512, .inl (hv 3).2.2.2.1)), (sm 3, .inl (gI G, 512, .inl (hv 3).2.2.2.2)), (sa 4, .inr (5, [.int (hv 4).1, .int (hv 4).2.1, .int (hv 4).2.2.1, .ref (sn 4), .ref (sm 4)])), (sn 4, .inl (gI G, 512, .inl (hv 4).2.2.2.1)), (sm 4, .inl (gI G, 512, .inl (hv 4).2.2.2.2)), (sa 5, .inr (5, [.int (hv 5).1, .int (hv 5).2.1, .int (hv 5).2.2.1, .ref (sn 5), .ref (sm 5)])), (sn 5, .inl (gI G, 512, .inl (hv 5).2.2.2.1)), (sm 5, .inl (gI G, 512, .inl (hv 5).2.2.2.2)), (h4, .inr (4, [.int lD, .ref a1, .ref a2, .ref a3, .ref a4])), (a1, .inl (gI G, 8, .inl lS)), (a2, .inl (gI G, 8, .inl lF)), (a3, .inl (gI G, 8, .inl lG)), (a4, .inl (gI G, 8, .inl lR))] (fin1 (some (.int u.1)) [(h7, .inr (7, [.ref h5, .ref h2, .ref h6, .ref h4, .ref h0, .ref h3, .ref h1, .ref qb])), (qb, .inl (gI G, 512, .inl nB)), (h5, .inr (5, [.int vD, .int vA, .int vL, .ref qn, .ref qm])), (qn, .inl (gI G, 512, .inl vN)), (qm, .inl (gI G, 512, .inl vM)), (h2, .inr (2, [.ref qh, .int oO, .int oS])), (qh, .inl (gO G, 6, .inr (.inr (.inr (.inr (fun k => some (sa k))))))), (sa 0, .inr (5, [.int (hv 0).1, .int (hv 0).2.1, .int (hv 0).2.2.1, .ref (sn 0), .ref (sm 0)])), (sn 0, .inl (gI G, 512, .inl (hv 0).2.2.2.1)), (sm 0, .inl (gI G, 512, .inl (hv 0).2.2.2.2)), (sa 1, .inr (5, [.int (hv 1).1, .int (hv 1).2.1, .int (hv 1).2.2.1, .ref (sn 1), .ref (sm 1)])), (sn 1, .inl (gI G, 512, .inl (hv 1).2.2.2.1)), (sm 1, .inl (gI G, 512, .inl (hv 1).2.2.2.2)), (sa 2, .inr (5, [.int (hv 2).1, .int (hv 2).2.1, .int (hv 2).2.2.1, .ref (sn 2), .ref (sm 2)])), (sn 2, .inl (gI G, 512, .inl (hv 2).2.2.2.1)), (sm 2, .inl (gI G, 512, .inl (hv 2).2.2.2.2)), (sa 3, .inr (5, [.int (hv 3).1, .int (hv 3).2.1, .int (hv 3).2.2.1, .ref (sn 3), .ref (sm 3)])), (sn 3, .inl (gI G, 512, .inl (hv 3).2.2.2.1)), (sm 3, .inl (gI G, 512, .inl (hv 3).2.2.2.2)), (sa 4, .inr (5, [.int (hv 4).1, .int (hv 4).2.1, .int (hv 4).2.2.1, .ref (sn 4), .ref (sm 4)])), (sn 4, .inl (gI G, 512, .inl (hv 4).2.2.2.1)), (sm 4, .inl (gI G, 512, .inl (hv 4).2.2.2.2)), (sa 5, .inr (5, [.int (hv 5).1, .int (hv 5).2.1, .int (hv 5).2.2.1, .ref (sn 5), .ref (sm 5)])), (sn 5, .inl (gI G, 512, .inl (hv 5).2.2.2.1)), (sm 5, .inl (gI G, 512, .inl (hv 5).2.2.2.2)), (h4, .inr (4, [.int u.2.1, .ref a1, .ref a2, .ref a3, .ref a4])), (a1, .inl (gI G, 8, .inl u.2.2.1)), (a2, .inl (gI G, 8, .inl u.2.2.2.1)), (a3, .inl (gI G, 8, .inl u.2.2.2.2.1)), (a4, .inl (gI G, 8, .inl u.2.2.2.2.2))]) 0 0 := by
  refine Ct.of (cc := cX7_count) (N := 2) (ret := (some .int)) RX7 (by decide) rfl rfl hl (Nat.le_of_ble_eq_true rfl) (lv := [(0, .ref h7), (1, .int p1)]) rfl (fun X hXG C hex hnm hQ => ?_)
  subst hXG
  unfold f_X7_count at hf
  refine j_iload_n C dX7_count_0 rfl 1 rfl ?_
  refine j_if_lt C (tgt := 10) dX7_count_1 (by decide) (fun e1 => ?_) (fun e1 => ?_)
  · have hf := (if_pos e1).symm.trans hf
    obtain rfl := Option.some.inj hf
    exact nomatch hy
  · have hf := (if_neg e1).symm.trans hf
    refine j_iload_n C dX7_count_4 rfl 1 rfl ?_
    refine j_bipush C (v := 8) dX7_count_5 (by decide) ?_
    refine j_icmp_le C (tgt := 20) dX7_count_7 (by decide) (fun e7 => ?_) (fun e7 => ?_)
    · have hf := (if_pos e7).symm.trans hf
      refine j_iload_n C dX7_count_20 rfl 1 rfl ?_
      have k124 : f_X7_count_J124 p1 vD vA vL vN lD lS lF lG lR = some y → Jt X [(h7, .inr (7, [.ref h5, .ref h2, .ref h6, .ref h4, .ref h0, .ref h3, .ref h1, .ref qb])), (qb, .inl (gI X.1, 512, .inl nB)), (h5, .inr (5, [.int vD, .int vA, .int vL, .ref qn, .ref qm])), (qn, .inl (gI X.1, 512, .inl vN)), (qm, .inl (gI X.1, 512, .inl vM)), (h2, .inr (2, [.ref qh, .int oO, .int oS])), (qh, .inl (gO X.1, 6, .inr (.inr (.inr (.inr (fun k => some (sa k))))))), (sa 0, .inr (5, [.int (hv 0).1, .int (hv 0).2.1, .int (hv 0).2.2.1, .ref (sn 0), .ref (sm 0)])), (sn 0, .inl (gI X.1, 512, .inl (hv 0).2.2.2.1)), (sm 0, .inl (gI X.1, 512, .inl (hv 0).2.2.2.2)), (sa 1, .inr (5, [.int (hv 1).1, .int (hv 1).2.1, .int (hv 1).2.2.1, .ref (sn 1), .ref (sm 1)])), (sn 1, .inl (gI X.1, 512, .inl (hv 1).2.2.2.1)), (sm 1, .inl (gI X.1, 512, .inl (hv 1).2.2.2.2)), (sa 2, .inr (5, [.int (hv 2).1, .int (hv 2).2.1, .int (hv 2).2.2.1, .ref (sn 2), .ref (sm 2)])), (sn 2, .inl (gI X.1, 512, .inl (hv 2).2.2.2.1)), (sm 2, .inl (gI X.1, 512, .inl (hv 2).2.2.2.2)), (sa 3, .inr (5, [.int (hv 3).1, .int (hv 3).2.1, .int (hv 3).2.2.1, .ref (sn 3), .ref (sm 3)])), (sn 3, .inl (gI X.1, 512, .inl (hv 3).2.2.2.1)), (sm 3, .inl (gI X.1, 512, .inl (hv 3).2.2.2.2)), (sa 4, .inr (5, [.int (hv 4).1, .int (hv 4).2.1, .int (hv 4).2.2.1, .ref (sn 4), .ref (sm 4)])), (sn 4, .inl (gI X.1, 512, .inl (hv 4).2.2.2.1)), (sm 4, .inl (gI X.1, 512, .inl (hv 4).2.2.2.2)), (sa 5, .inr (5, [.int (hv 5).1, .int (hv 5).2.1, .int (hv 5).2.2.1, .ref (sn 5), .ref (sm 5)])), (sn 5, .inl (gI X.1, 512, .inl (hv 5).2.2.2.1)), (sm 5, .inl (gI X.1, 512, .inl (hv 5).2.2.2.2)), (h4, .inr (4, [.int lD, .ref a1, .ref a2, .ref a3, .ref a4])), (a1, .inl (gI X.1, 8, .inl lS)), (a2, .inl (gI X.1, 8, .inl lF)), (a3, .inl (gI X.1, 8, .inl lG)), (a4, .inl (gI X.1, 8, .inl lR))] 0 0 124 [(0, .ref h7), (1, .int p1)] [] := by
        intro  hf
        unfold f_X7_count_J124 at hf
        refine j_aload_n C dX7_count_124 rfl 0 rfl ?_
        refine j_get7 C 0 rfl 3 (by decide) in_X7_count_7 lk_X7_count_33 rfl dX7_count_125 ?_
        refine j_aload_n C dX7_count_128 rfl 0 rfl ?_
        refine j_get7 C 0 rfl 0 (by decide) in_X7_count_7 lk_X7_count_10 rfl dX7_count_129 ?_
        refine j_aload_n C dX7_count_132 rfl 0 rfl ?_
        refine j_get7 C 0 rfl 0 (by decide) in_X7_count_7 lk_X7_count_10 rfl dX7_count_133 ?_
        refine j_getN5 C 2 rfl 1 (by decide) in_X7_count_5 nw_X7_155 rfl dX7_count_136 ?_
        obtain ⟨r139, hc139, hf⟩ := Option.bind_eq_some_iff.mp hf
        refine j_cV C (b_X4_look X.1 hl h4 a1 a2 a3 a4 h5 qn qm vD vA vL vN vM lD lS lF lG lR vA r139 hc139) k_X4_look gX7_count_X4_look rfl (ci := 4) (q0 := 0) rfl rfl (As := [.ref h5, .int vA]) (rest := []) (st' := []) (ws' := [(h7, .inr (7, [.ref h5, .ref h2, .ref h6, .ref h4, .ref h0, .ref h3, .ref h1, .ref qb])), (qb, .inl (gI X.1, 512, .inl nB)), (h5, .inr (5, [.int vD, .int vA, .int vL, .ref qn, .ref qm])), (qn, .inl (gI X.1, 512, .inl vN)), (qm, .inl (gI X.1, 512, .inl vM)), (h2, .inr (2, [.ref qh, .int oO, .int oS])), (qh, .inl (gO X.1, 6, .inr (.inr (.inr (.inr (fun k => some (sa k))))))), (sa 0, .inr (5, [.int (hv 0).1, .int (hv 0).2.1, .int (hv 0).2.2.1, .ref (sn 0), .ref (sm 0)])), (sn 0, .inl (gI X.1, 512, .inl (hv 0).2.2.2.1)), (sm 0, .inl (gI X.1, 512, .inl (hv 0).2.2.2.2)), (sa 1, .inr (5, [.int (hv 1).1, .int (hv 1).2.1, .int (hv 1).2.2.1, .ref (sn 1), .ref (sm 1)])), (sn 1, .inl (gI X.1, 512, .inl (hv 1).2.2.2.1)), (sm 1, .inl (gI X.1, 512, .inl (hv 1).2.2.2.2)), (sa 2, .inr (5, [.int (hv 2).1, .int (hv 2).2.1, .int (hv 2).2.2.1, .ref (sn 2), .ref (sm 2)])), (sn 2, .inl (gI X.1, 512, .inl (hv 2).2.2.2.1)), (sm 2, .inl (gI X.1, 512, .inl (hv 2).2.2.2.2)), (sa 3, .inr (5, [.int (hv 3).1, .int (hv 3).2.1, .int (hv 3).2.2.1, .ref (sn 3), .ref (sm 3)])), (sn 3, .inl (gI X.1, 512, .inl (hv 3).2.2.2.1)), (sm 3, .inl (gI X.1, 512, .inl (hv 3).2.2.2.2)), (sa 4, .inr (5, [.int (hv 4).1, .int (hv 4).2.1, .int (hv 4).2.2.1, .ref (sn 4), .ref (sm 4)])), (sn 4, .inl (gI X.1, 512, .inl (hv 4).2.2.2.1)), (sm 4, .inl (gI X.1, 512, .inl (hv 4).2.2.2.2)), (sa 5, .inr (5, [.int (hv 5).1, .int (hv 5).2.1, .int (hv 5).2.2.1, .ref (sn 5), .ref (sm 5)])), (sn 5, .inl (gI X.1, 512, .inl (hv 5).2.2.2.1)), (sm 5, .inl (gI X.1, 512, .inl (hv 5).2.2.2.2)), (h4, .inr (4, [.int r139.1, .ref a1, .ref a2, .ref a3, .ref a4])), (a1, .inl (gI X.1, 8, .inl r139.2.1)), (a2, .inl (gI X.1, 8, .inl r139.2.2.1)), (a3, .inl (gI X.1, 8, .inl r139.2.2.2.1)), (a4, .inl (gI X.1, 8, .inl r139.2.2.2.2))]) rfl rfl dX7_count_139 [25, 26, 27, 28, 29, 2, 3, 4] [0, 1, 5, 6, 7, 8, 9, 10, 11, 12, 13, 14, 15, 16, 17, 18, 19, 20, 21, 22, 23, 24] [0, 1, 27, 28, 29, 2, 3, 4, 5, 6, 7, 8, 9, 10, 11, 12, 13, 14, 15, 16, 17, 18, 19, 20, 21, 22, 23, 24, 25, 26] rfl rfl rfl rfl rfl rfl ?_
        refine j_aload_n C dX7_count_142 rfl 0 rfl ?_
        refine j_get7 C 0 rfl 3 (by decide) in_X7_count_7 lk_X7_count_33 rfl dX7_count_143 ?_
        refine j_iload_n C dX7_count_146 rfl 1 rfl ?_
        refine j_iconst C (v := 5) dX7_count_147 (by decide) ?_
        refine j_isub C dX7_count_148 ?_
        refine j_aload_n C dX7_count_149 rfl 0 rfl ?_
        refine j_get7 C 0 rfl 0 (by decide) in_X7_count_7 lk_X7_count_10 rfl dX7_count_150 ?_
        refine j_getN5 C 2 rfl 2 (by decide) in_X7_count_5 nw_X7_171 rfl dX7_count_153 ?_
        obtain ⟨r156, hc156, hf⟩ := Option.bind_eq_some_iff.mp hf
        refine j_cV C (b_X4_countOfForm X.1 hl h4 a1 a2 a3 a4 r139.1 r139.2.1 r139.2.2.1 r139.2.2.2.1 r139.2.2.2.2 (p1 - 5) vL r156 hc156) k_X4_countOfForm gX7_count_X4_countOfForm rfl (ci := 4) (q0 := 0) rfl rfl (As := [.int (p1 - 5), .int vL]) (rest := []) (st' := [.int r156]) (ws' := [(h7, .inr (7, [.ref h5, .ref h2, .ref h6, .ref h4, .ref h0, .ref h3, .ref h1, .ref qb])), (qb, .inl (gI X.1, 512, .inl nB)), (h5, .inr (5, [.int vD, .int vA, .int vL, .ref qn, .ref qm])), (qn, .inl (gI X.1, 512, .inl vN)), (qm, .inl (gI X.1, 512, .inl vM)), (h2, .inr (2, [.ref qh, .int oO, .int oS])), (qh, .inl (gO X.1, 6, .inr (.inr (.inr (.inr (fun k => some (sa k))))))), (sa 0, .inr (5, [.int (hv 0).1, .int (hv 0).2.1, .int (hv 0).2.2.1, .ref (sn 0), .ref (sm 0)])), (sn 0, .inl (gI X.1, 512, .inl (hv 0).2.2.2.1)), (sm 0, .inl (gI X.1, 512, .inl (hv 0).2.2.2.2)), (sa 1, .inr (5, [.int (hv 1).1, .int (hv 1).2.1, .int (hv 1).2.2.1, .ref (sn 1), .ref (sm 1)])), (sn 1, .inl (gI X.1, 512, .inl (hv 1).2.2.2.1)), (sm 1, .inl (gI X.1, 512, .inl (hv 1).2.2.2.2)), (sa 2, .inr (5, [.int (hv 2).1, .int (hv 2).2.1, .int (hv 2).2.2.1, .ref (sn 2), .ref (sm 2)])), (sn 2, .inl (gI X.1, 512, .inl (hv 2).2.2.2.1)), (sm 2, .inl (gI X.1, 512, .inl (hv 2).2.2.2.2)), (sa 3, .inr (5, [.int (hv 3).1, .int (hv 3).2.1, .int (hv 3).2.2.1, .ref (sn 3), .ref (sm 3)])), (sn 3, .inl (gI X.1, 512, .inl (hv 3).2.2.2.1)), (sm 3, .inl (gI X.1, 512, .inl (hv 3).2.2.2.2)), (sa 4, .inr (5, [.int (hv 4).1, .int (hv 4).2.1, .int (hv 4).2.2.1, .ref (sn 4), .ref (sm 4)])), (sn 4, .inl (gI X.1, 512, .inl (hv 4).2.2.2.1)), (sm 4, .inl (gI X.1, 512, .inl (hv 4).2.2.2.2)), (sa 5, .inr (5, [.int (hv 5).1, .int (hv 5).2.1, .int (hv 5).2.2.1, .ref (sn 5), .ref (sm 5)])), (sn 5, .inl (gI X.1, 512, .inl (hv 5).2.2.2.1)), (sm 5, .inl (gI X.1, 512, .inl (hv 5).2.2.2.2)), (h4, .inr (4, [.int r139.1, .ref a1, .ref a2, .ref a3, .ref a4])), (a1, .inl (gI X.1, 8, .inl r139.2.1)), (a2, .inl (gI X.1, 8, .inl r139.2.2.1)), (a3, .inl (gI X.1, 8, .inl r139.2.2.2.1)), (a4, .inl (gI X.1, 8, .inl r139.2.2.2.2))]) rfl rfl dX7_count_156 [25, 26, 27, 28, 29] [0, 1, 2, 3, 4, 5, 6, 7, 8, 9, 10, 11, 12, 13, 14, 15, 16, 17, 18, 19, 20, 21, 22, 23, 24] [0, 1, 2, 3, 4, 5, 6, 7, 8, 9, 10, 11, 12, 13, 14, 15, 16, 17, 18, 19, 20, 21, 22, 23, 24, 25, 26, 27, 28, 29] rfl rfl rfl rfl rfl rfl ?_
        obtain rfl := Option.some.inj hf
        obtain rfl := Sum.inr.inj hy
        exact j_iret C hQ rfl dX7_count_159 (Nat.zero_le _) (Nat.zero_le _) ⟨rfl, rfl⟩
      by_cases e21_0 : p1 = 0
      · have hf := (if_pos e21_0).symm.trans hf
        refine j_tabIn C (off := 51) (tgt := 72) dX7_count_21 (by rw [e21_0]; decide) (by rw [e21_0]; decide) (by rw [e21_0]; decide) (by decide) ?_
        refine j_aload_n C dX7_count_72 rfl 0 rfl ?_
        refine j_get7 C 0 rfl 0 (by decide) in_X7_count_7 lk_X7_count_10 rfl dX7_count_73 ?_
        refine j_getN5 C 2 rfl 0 (by decide) in_X7_count_5 nw_X7_137 rfl dX7_count_76 ?_
        obtain rfl := Option.some.inj hf
        obtain rfl := Sum.inr.inj hy
        exact j_iret C hQ rfl dX7_count_79 (Nat.zero_le _) (Nat.zero_le _) ⟨rfl, rfl⟩
      have hf := (if_neg e21_0).symm.trans hf
      by_cases e21_1 : p1 = 1
      · have hf := (if_pos e21_1).symm.trans hf
        refine j_tabIn C (off := 59) (tgt := 80) dX7_count_21 (by rw [e21_1]; decide) (by rw [e21_1]; decide) (by rw [e21_1]; decide) (by decide) ?_
        refine j_aload_n C dX7_count_80 rfl 0 rfl ?_
        refine j_get7 C 0 rfl 0 (by decide) in_X7_count_7 lk_X7_count_10 rfl dX7_count_81 ?_
        refine j_getN5 C 2 rfl 1 (by decide) in_X7_count_5 nw_X7_155 rfl dX7_count_84 ?_
        obtain rfl := Option.some.inj hf
        obtain rfl := Sum.inr.inj hy
        exact j_iret C hQ rfl dX7_count_87 (Nat.zero_le _) (Nat.zero_le _) ⟨rfl, rfl⟩
      have hf := (if_neg e21_1).symm.trans hf
      by_cases e21_2 : p1 = 2
      · have hf := (if_pos e21_2).symm.trans hf
        refine j_tabIn C (off := 67) (tgt := 88) dX7_count_21 (by rw [e21_2]; decide) (by rw [e21_2]; decide) (by rw [e21_2]; decide) (by decide) ?_
        refine j_aload_n C dX7_count_88 rfl 0 rfl ?_
        refine j_get7 C 0 rfl 0 (by decide) in_X7_count_7 lk_X7_count_10 rfl dX7_count_89 ?_
        obtain ⟨r92, hc92, hf⟩ := Option.bind_eq_some_iff.mp hf
        refine j_cV C (b_X5_filled X.1 hl h5 qn qm vD vA vL vN vM r92 hc92) k_X5_filled gX7_count_X5_filled rfl (ci := 5) (q0 := 0) rfl rfl (As := []) (rest := []) (st' := [.int r92]) (ws' := [(h7, .inr (7, [.ref h5, .ref h2, .ref h6, .ref h4, .ref h0, .ref h3, .ref h1, .ref qb])), (qb, .inl (gI X.1, 512, .inl nB)), (h5, .inr (5, [.int vD, .int vA, .int vL, .ref qn, .ref qm])), (qn, .inl (gI X.1, 512, .inl vN)), (qm, .inl (gI X.1, 512, .inl vM)), (h2, .inr (2, [.ref qh, .int oO, .int oS])), (qh, .inl (gO X.1, 6, .inr (.inr (.inr (.inr (fun k => some (sa k))))))), (sa 0, .inr (5, [.int (hv 0).1, .int (hv 0).2.1, .int (hv 0).2.2.1, .ref (sn 0), .ref (sm 0)])), (sn 0, .inl (gI X.1, 512, .inl (hv 0).2.2.2.1)), (sm 0, .inl (gI X.1, 512, .inl (hv 0).2.2.2.2)), (sa 1, .inr (5, [.int (hv 1).1, .int (hv 1).2.1, .int (hv 1).2.2.1, .ref (sn 1), .ref (sm 1)])), (sn 1, .inl (gI X.1, 512, .inl (hv 1).2.2.2.1)), (sm 1, .inl (gI X.1, 512, .inl (hv 1).2.2.2.2)), (sa 2, .inr (5, [.int (hv 2).1, .int (hv 2).2.1, .int (hv 2).2.2.1, .ref (sn 2), .ref (sm 2)])), (sn 2, .inl (gI X.1, 512, .inl (hv 2).2.2.2.1)), (sm 2, .inl (gI X.1, 512, .inl (hv 2).2.2.2.2)), (sa 3, .inr (5, [.int (hv 3).1, .int (hv 3).2.1, .int (hv 3).2.2.1, .ref (sn 3), .ref (sm 3)])), (sn 3, .inl (gI X.1, 512, .inl (hv 3).2.2.2.1)), (sm 3, .inl (gI X.1, 512, .inl (hv 3).2.2.2.2)), (sa 4, .inr (5, [.int (hv 4).1, .int (hv 4).2.1, .int (hv 4).2.2.1, .ref (sn 4), .ref (sm 4)])), (sn 4, .inl (gI X.1, 512, .inl (hv 4).2.2.2.1)), (sm 4, .inl (gI X.1, 512, .inl (hv 4).2.2.2.2)), (sa 5, .inr (5, [.int (hv 5).1, .int (hv 5).2.1, .int (hv 5).2.2.1, .ref (sn 5), .ref (sm 5)])), (sn 5, .inl (gI X.1, 512, .inl (hv 5).2.2.2.1)), (sm 5, .inl (gI X.1, 512, .inl (hv 5).2.2.2.2)), (h4, .inr (4, [.int lD, .ref a1, .ref a2, .ref a3, .ref a4])), (a1, .inl (gI X.1, 8, .inl lS)), (a2, .inl (gI X.1, 8, .inl lF)), (a3, .inl (gI X.1, 8, .inl lG)), (a4, .inl (gI X.1, 8, .inl lR))]) rfl rfl dX7_count_92 [2, 3, 4] [0, 1, 5, 6, 7, 8, 9, 10, 11, 12, 13, 14, 15, 16, 17, 18, 19, 20, 21, 22, 23, 24, 25, 26, 27, 28, 29] [0, 1, 27, 28, 29, 2, 3, 4, 5, 6, 7, 8, 9, 10, 11, 12, 13, 14, 15, 16, 17, 18, 19, 20, 21, 22, 23, 24, 25, 26] rfl rfl rfl rfl rfl rfl ?_
        obtain rfl := Option.some.inj hf
        obtain rfl := Sum.inr.inj hy
        exact j_iret C hQ rfl dX7_count_95 (Nat.zero_le _) (Nat.zero_le _) ⟨rfl, rfl⟩
      have hf := (if_neg e21_2).symm.trans hf
      by_cases e21_3 : p1 = 3
      · have hf := (if_pos e21_3).symm.trans hf
        refine j_tabIn C (off := 75) (tgt := 96) dX7_count_21 (by rw [e21_3]; decide) (by rw [e21_3]; decide) (by rw [e21_3]; decide) (by decide) ?_
        refine j_aload_n C dX7_count_96 rfl 0 rfl ?_
        refine j_get7 C 0 rfl 0 (by decide) in_X7_count_7 lk_X7_count_10 rfl dX7_count_97 ?_
        obtain ⟨r100, hc100, hf⟩ := Option.bind_eq_some_iff.mp hf
        refine j_cV C (b_X5_sum X.1 hl h5 qn qm vD vA vL vN vM r100 hc100) k_X5_sum gX7_count_X5_sum rfl (ci := 5) (q0 := 0) rfl rfl (As := []) (rest := []) (st' := [.int r100]) (ws' := [(h7, .inr (7, [.ref h5, .ref h2, .ref h6, .ref h4, .ref h0, .ref h3, .ref h1, .ref qb])), (qb, .inl (gI X.1, 512, .inl nB)), (h5, .inr (5, [.int vD, .int vA, .int vL, .ref qn, .ref qm])), (qn, .inl (gI X.1, 512, .inl vN)), (qm, .inl (gI X.1, 512, .inl vM)), (h2, .inr (2, [.ref qh, .int oO, .int oS])), (qh, .inl (gO X.1, 6, .inr (.inr (.inr (.inr (fun k => some (sa k))))))), (sa 0, .inr (5, [.int (hv 0).1, .int (hv 0).2.1, .int (hv 0).2.2.1, .ref (sn 0), .ref (sm 0)])), (sn 0, .inl (gI X.1, 512, .inl (hv 0).2.2.2.1)), (sm 0, .inl (gI X.1, 512, .inl (hv 0).2.2.2.2)), (sa 1, .inr (5, [.int (hv 1).1, .int (hv 1).2.1, .int (hv 1).2.2.1, .ref (sn 1), .ref (sm 1)])), (sn 1, .inl (gI X.1, 512, .inl (hv 1).2.2.2.1)), (sm 1, .inl (gI X.1, 512, .inl (hv 1).2.2.2.2)), (sa 2, .inr (5, [.int (hv 2).1, .int (hv 2).2.1, .int (hv 2).2.2.1, .ref (sn 2), .ref (sm 2)])), (sn 2, .inl (gI X.1, 512, .inl (hv 2).2.2.2.1)), (sm 2, .inl (gI X.1, 512, .inl (hv 2).2.2.2.2)), (sa 3, .inr (5, [.int (hv 3).1, .int (hv 3).2.1, .int (hv 3).2.2.1, .ref (sn 3), .ref (sm 3)])), (sn 3, .inl (gI X.1, 512, .inl (hv 3).2.2.2.1)), (sm 3, .inl (gI X.1, 512, .inl (hv 3).2.2.2.2)), (sa 4, .inr (5, [.int (hv 4).1, .int (hv 4).2.1, .int (hv 4).2.2.1, .ref (sn 4), .ref (sm 4)])), (sn 4, .inl (gI X.1, 512, .inl (hv 4).2.2.2.1)), (sm 4, .inl (gI X.1, 512, .inl (hv 4).2.2.2.2)), (sa 5, .inr (5, [.int (hv 5).1, .int (hv 5).2.1, .int (hv 5).2.2.1, .ref (sn 5), .ref (sm 5)])), (sn 5, .inl (gI X.1, 512, .inl (hv 5).2.2.2.1)), (sm 5, .inl (gI X.1, 512, .inl (hv 5).2.2.2.2)), (h4, .inr (4, [.int lD, .ref a1, .ref a2, .ref a3, .ref a4])), (a1, .inl (gI X.1, 8, .inl lS)), (a2, .inl (gI X.1, 8, .inl lF)), (a3, .inl (gI X.1, 8, .inl lG)), (a4, .inl (gI X.1, 8, .inl lR))]) rfl rfl dX7_count_100 [2, 3, 4] [0, 1, 5, 6, 7, 8, 9, 10, 11, 12, 13, 14, 15, 16, 17, 18, 19, 20, 21, 22, 23, 24, 25, 26, 27, 28, 29] [0, 1, 27, 28, 29, 2, 3, 4, 5, 6, 7, 8, 9, 10, 11, 12, 13, 14, 15, 16, 17, 18, 19, 20, 21, 22, 23, 24, 25, 26] rfl rfl rfl rfl rfl rfl ?_
        obtain rfl := Option.some.inj hf
        obtain rfl := Sum.inr.inj hy
        exact j_iret C hQ rfl dX7_count_103 (Nat.zero_le _) (Nat.zero_le _) ⟨rfl, rfl⟩
      have hf := (if_neg e21_3).symm.trans hf
      by_cases e21_4 : p1 = 4
      · have hf := (if_pos e21_4).symm.trans hf
        refine j_tabIn C (off := 83) (tgt := 104) dX7_count_21 (by rw [e21_4]; decide) (by rw [e21_4]; decide) (by rw [e21_4]; decide) (by decide) ?_
        refine j_aload_n C dX7_count_104 rfl 0 rfl ?_
        refine j_aload_n C dX7_count_105 rfl 0 rfl ?_
        refine j_get7 C 0 rfl 0 (by decide) in_X7_count_7 lk_X7_count_10 rfl dX7_count_106 ?_
        refine j_getN5 C 2 rfl 1 (by decide) in_X7_count_5 nw_X7_155 rfl dX7_count_109 ?_
        obtain ⟨r112, hc112, hf⟩ := Option.bind_eq_some_iff.mp hf
        refine j_cV C (b_X7_roomBy X.1 hl h7 h5 h2 h6 h4 h0 h3 h1 qb qn qm a1 a2 a3 a4 vD vA vL vN vM lD lS lF lG lR nB vA r112 hc112) k_X7_roomBy gX7_count_X7_roomBy rfl (ci := 7) (q0 := 0) rfl rfl (As := [.int vA]) (rest := []) (st' := [.int r112.1]) (ws' := [(h7, .inr (7, [.ref h5, .ref h2, .ref h6, .ref h4, .ref h0, .ref h3, .ref h1, .ref qb])), (qb, .inl (gI X.1, 512, .inl nB)), (h5, .inr (5, [.int vD, .int vA, .int vL, .ref qn, .ref qm])), (qn, .inl (gI X.1, 512, .inl vN)), (qm, .inl (gI X.1, 512, .inl vM)), (h2, .inr (2, [.ref qh, .int oO, .int oS])), (qh, .inl (gO X.1, 6, .inr (.inr (.inr (.inr (fun k => some (sa k))))))), (sa 0, .inr (5, [.int (hv 0).1, .int (hv 0).2.1, .int (hv 0).2.2.1, .ref (sn 0), .ref (sm 0)])), (sn 0, .inl (gI X.1, 512, .inl (hv 0).2.2.2.1)), (sm 0, .inl (gI X.1, 512, .inl (hv 0).2.2.2.2)), (sa 1, .inr (5, [.int (hv 1).1, .int (hv 1).2.1, .int (hv 1).2.2.1, .ref (sn 1), .ref (sm 1)])), (sn 1, .inl (gI X.1, 512, .inl (hv 1).2.2.2.1)), (sm 1, .inl (gI X.1, 512, .inl (hv 1).2.2.2.2)), (sa 2, .inr (5, [.int (hv 2).1, .int (hv 2).2.1, .int (hv 2).2.2.1, .ref (sn 2), .ref (sm 2)])), (sn 2, .inl (gI X.1, 512, .inl (hv 2).2.2.2.1)), (sm 2, .inl (gI X.1, 512, .inl (hv 2).2.2.2.2)), (sa 3, .inr (5, [.int (hv 3).1, .int (hv 3).2.1, .int (hv 3).2.2.1, .ref (sn 3), .ref (sm 3)])), (sn 3, .inl (gI X.1, 512, .inl (hv 3).2.2.2.1)), (sm 3, .inl (gI X.1, 512, .inl (hv 3).2.2.2.2)), (sa 4, .inr (5, [.int (hv 4).1, .int (hv 4).2.1, .int (hv 4).2.2.1, .ref (sn 4), .ref (sm 4)])), (sn 4, .inl (gI X.1, 512, .inl (hv 4).2.2.2.1)), (sm 4, .inl (gI X.1, 512, .inl (hv 4).2.2.2.2)), (sa 5, .inr (5, [.int (hv 5).1, .int (hv 5).2.1, .int (hv 5).2.2.1, .ref (sn 5), .ref (sm 5)])), (sn 5, .inl (gI X.1, 512, .inl (hv 5).2.2.2.1)), (sm 5, .inl (gI X.1, 512, .inl (hv 5).2.2.2.2)), (h4, .inr (4, [.int r112.2.1, .ref a1, .ref a2, .ref a3, .ref a4])), (a1, .inl (gI X.1, 8, .inl r112.2.2.1)), (a2, .inl (gI X.1, 8, .inl r112.2.2.2.1)), (a3, .inl (gI X.1, 8, .inl r112.2.2.2.2.1)), (a4, .inl (gI X.1, 8, .inl r112.2.2.2.2.2))]) rfl rfl dX7_count_112 [0, 1, 2, 3, 4, 25, 26, 27, 28, 29] [5, 6, 7, 8, 9, 10, 11, 12, 13, 14, 15, 16, 17, 18, 19, 20, 21, 22, 23, 24] [20, 21, 22, 23, 24, 0, 1, 2, 3, 4, 5, 6, 7, 8, 9, 10, 11, 12, 13, 14, 15, 16, 17, 18, 19, 25, 26, 27, 28, 29] rfl rfl rfl rfl rfl rfl ?_
        obtain rfl := Option.some.inj hf
        obtain rfl := Sum.inr.inj hy
        exact j_iret C hQ rfl dX7_count_115 (Nat.zero_le _) (Nat.zero_le _) ⟨rfl, rfl⟩
      have hf := (if_neg e21_4).symm.trans hf
      by_cases e21_5 : p1 = 5
      · have hf := (if_pos e21_5).symm.trans hf
        refine j_tabIn C (off := 103) (tgt := 124) dX7_count_21 (by rw [e21_5]; decide) (by rw [e21_5]; decide) (by rw [e21_5]; decide) (by decide) ?_
        refine j_loc [0, 1] rfl ?_
        exact k124  hf
      have hf := (if_neg e21_5).symm.trans hf
      by_cases e21_6 : p1 = 6
      · have hf := (if_pos e21_6).symm.trans hf
        refine j_tabIn C (off := 103) (tgt := 124) dX7_count_21 (by rw [e21_6]; decide) (by rw [e21_6]; decide) (by rw [e21_6]; decide) (by decide) ?_
        refine j_loc [0, 1] rfl ?_
        exact k124  hf
      have hf := (if_neg e21_6).symm.trans hf
      by_cases e21_7 : p1 = 7
      · have hf := (if_pos e21_7).symm.trans hf
        refine j_tabIn C (off := 103) (tgt := 124) dX7_count_21 (by rw [e21_7]; decide) (by rw [e21_7]; decide) (by rw [e21_7]; decide) (by decide) ?_
        refine j_loc [0, 1] rfl ?_
        exact k124  hf
      have hf := (if_neg e21_7).symm.trans hf
      by_cases e21_8 : p1 = 8
      · have hf := (if_pos e21_8).symm.trans hf
        refine j_tabIn C (off := 95) (tgt := 116) dX7_count_21 (by rw [e21_8]; decide) (by rw [e21_8]; decide) (by rw [e21_8]; decide) (by decide) ?_
        refine j_aload_n C dX7_count_116 rfl 0 rfl ?_
        refine j_get7 C 0 rfl 1 (by decide) in_X7_count_7 lk_X7_count_19 rfl dX7_count_117 ?_
        refine j_getN2 C 5 rfl 2 (by decide) in_X7_count_2 nw_X7_200 rfl dX7_count_120 ?_
        obtain rfl := Option.some.inj hf
        obtain rfl := Sum.inr.inj hy
        exact j_iret C hQ rfl dX7_count_123 (Nat.zero_le _) (Nat.zero_le _) ⟨rfl, rfl⟩
      have hf := (if_neg e21_8).symm.trans hf
      have t21_0 : p1.toInt ≠ 0 := fun h => e21_0 (Int32.toInt_inj.mp h)
      have t21_1 : p1.toInt ≠ 1 := fun h => e21_1 (Int32.toInt_inj.mp h)
      have t21_2 : p1.toInt ≠ 2 := fun h => e21_2 (Int32.toInt_inj.mp h)
      have t21_3 : p1.toInt ≠ 3 := fun h => e21_3 (Int32.toInt_inj.mp h)
      have t21_4 : p1.toInt ≠ 4 := fun h => e21_4 (Int32.toInt_inj.mp h)
      have t21_5 : p1.toInt ≠ 5 := fun h => e21_5 (Int32.toInt_inj.mp h)
      have t21_6 : p1.toInt ≠ 6 := fun h => e21_6 (Int32.toInt_inj.mp h)
      have t21_7 : p1.toInt ≠ 7 := fun h => e21_7 (Int32.toInt_inj.mp h)
      have t21_8 : p1.toInt ≠ 8 := fun h => e21_8 (Int32.toInt_inj.mp h)
      refine j_tabOut C (tgt := 124) dX7_count_21 (by omega) (by decide) ?_
      refine j_loc [0, 1] rfl ?_
      exact k124  hf
    · have hf := (if_neg e7).symm.trans hf
      obtain rfl := Option.some.inj hf
      exact nomatch hy

theorem tg_X7_ifKept_2 : ∀ w ∈ (vx_atS RX7 66 "java/lang/IllegalArgumentException" ["java/lang/RuntimeException", "java/lang/Exception"]).filter goodWord, w ∈ wsX7_ifKept := by decide +kernel
theorem wd_X7_ifKept_x2 : Cond.classLink RX7 62 "java/lang/IllegalArgumentException" ∈ wsX7_ifKept := by decide +kernel
theorem wd_X7_ifKept_y2 : Cond.initialized "java/lang/IllegalArgumentException" ∈ wsX7_ifKept := by decide +kernel
def f_X7_ifKept (p1 : Int32) (vD : Int32) (vL : Int32) (vN : (Nat → Int32)) (lD : Int32) (lS : (Nat → Int32)) (lF : (Nat → Int32)) (lG : (Nat → Int32)) (lR : (Nat → Int32)) : Option (Nat ⊕ (Int32 × Int32 × (Nat → Int32) × (Nat → Int32) × (Nat → Int32) × (Nat → Int32))) :=
  if (f_X7_isAxis p1) = 0 then some (.inl 2) else Option.bind (f_X7_roomBy p1 vD vL vN lD lS lF lG lR) (fun r19 => some (.inr (r19.1, r19.2.1, r19.2.2.1, r19.2.2.2.1, r19.2.2.2.2.1, r19.2.2.2.2.2)))
abbrev rm_X7_ifKept : Room := { frames := 6, cells := 1, slots := 6, locals := 137 }
theorem k_X7_ifKept : Cf yX7_ifKept wsX7_ifKept rm_X7_ifKept cX7_ifKept 2 (some .int) 1 := ⟨⟨_, rfl⟩, by decide +kernel, by decide +kernel, by decide +kernel⟩
set_option maxRecDepth 100000 in
set_option maxHeartbeats 4000000 in
theorem b_X7_ifKept (G : CG) (hl : (gL G).stackTraces = false) (h7 : Nat) (h5 : Nat) (h2 : Nat) (h6 : Nat) (h4 : Nat) (h0 : Nat) (h3 : Nat) (h1 : Nat) (qb : Nat) (qn : Nat) (qm : Nat) (a1 : Nat) (a2 : Nat) (a3 : Nat) (a4 : Nat) (vD : Int32) (vA : Int32) (vL : Int32) (vN : (Nat → Int32)) (vM : (Nat → Int32)) (lD : Int32) (lS : (Nat → Int32)) (lF : (Nat → Int32)) (lG : (Nat → Int32)) (lR : (Nat → Int32)) (nB : (Nat → Int32)) (p1 : Int32) (y : Nat ⊕ (Int32 × Int32 × (Nat → Int32) × (Nat → Int32) × (Nat → Int32) × (Nat → Int32))) (hf : f_X7_ifKept p1 vD vL vN lD lS lF lG lR = some y) : Ct G yX7_ifKept wsX7_ifKept rm_X7_ifKept [.ref h7, .int p1] [(h7, .inr (7, [.ref h5, .ref h2, .ref h6, .ref h4, .ref h0, .ref h3, .ref h1, .ref qb])), (qb, .inl (gI G, 512, .inl nB)), (h5, .inr (5, [.int vD, .int vA, .int vL, .ref qn, .ref qm])), (qn, .inl (gI G, 512, .inl vN)), (qm, .inl (gI G, 512, .inl vM)), (h4, .inr (4, [.int lD, .ref a1, .ref a2, .ref a3, .ref a4])), (a1, .inl (gI G, 8, .inl lS)), (a2, .inl (gI G, 8, .inl lF)), (a3, .inl (gI G, 8, .inl lG)), (a4, .inl (gI G, 8, .inl lR))] (finX y (fun u => (some (.int u.1))) [(h7, .inr (7, [.ref h5, .ref h2, .ref h6, .ref h4, .ref h0, .ref h3, .ref h1, .ref qb])), (qb, .inl (gI G, 512, .inl nB)), (h5, .inr (5, [.int vD, .int vA, .int vL, .ref qn, .ref qm])), (qn, .inl (gI G, 512, .inl vN)), (qm, .inl (gI G, 512, .inl vM)), (h4, .inr (4, [.int lD, .ref a1, .ref a2, .ref a3, .ref a4])), (a1, .inl (gI G, 8, .inl lS)), (a2, .inl (gI G, 8, .inl lF)), (a3, .inl (gI G, 8, .inl lG)), (a4, .inl (gI G, 8, .inl lR))] (fun u => [(h7, .inr (7, [.ref h5, .ref h2, .ref h6, .ref h4, .ref h0, .ref h3, .ref h1, .ref qb])), (qb, .inl (gI G, 512, .inl nB)), (h5, .inr (5, [.int vD, .int vA, .int vL, .ref qn, .ref qm])), (qn, .inl (gI G, 512, .inl vN)), (qm, .inl (gI G, 512, .inl vM)), (h4, .inr (4, [.int u.2.1, .ref a1, .ref a2, .ref a3, .ref a4])), (a1, .inl (gI G, 8, .inl u.2.2.1)), (a2, .inl (gI G, 8, .inl u.2.2.2.1)), (a3, .inl (gI G, 8, .inl u.2.2.2.2.1)), (a4, .inl (gI G, 8, .inl u.2.2.2.2.2))])) 1 6 := by
  refine Ct.of (cc := cX7_ifKept) (N := 2) (ret := (some .int)) RX7 (by decide) rfl rfl hl (Nat.le_of_ble_eq_true rfl) (lv := [(0, .ref h7), (1, .int p1)]) rfl (fun X hXG C hex hnm hQ => ?_)
  subst hXG
  unfold f_X7_ifKept at hf
  refine j_iload_n C dX7_ifKept_0 rfl 1 rfl ?_
  refine j_cS C (c_X7_isAxis X.1 hl p1) k_X7_isAxis gX7_ifKept_X7_isAxis (As := [.int p1]) (rest := []) (st' := [.int (f_X7_isAxis p1)]) (ws' := [(h7, .inr (7, [.ref h5, .ref h2, .ref h6, .ref h4, .ref h0, .ref h3, .ref h1, .ref qb])), (qb, .inl (gI X.1, 512, .inl nB)), (h5, .inr (5, [.int vD, .int vA, .int vL, .ref qn, .ref qm])), (qn, .inl (gI X.1, 512, .inl vN)), (qm, .inl (gI X.1, 512, .inl vM)), (h4, .inr (4, [.int lD, .ref a1, .ref a2, .ref a3, .ref a4])), (a1, .inl (gI X.1, 8, .inl lS)), (a2, .inl (gI X.1, 8, .inl lF)), (a3, .inl (gI X.1, 8, .inl lG)), (a4, .inl (gI X.1, 8, .inl lR))]) rfl rfl dX7_ifKept_1 [] [0, 1, 2, 3, 4, 5, 6, 7, 8, 9] [0, 1, 2, 3, 4, 5, 6, 7, 8, 9] rfl rfl rfl rfl rfl rfl ?_
  refine j_if_ne C (tgt := 17) dX7_ifKept_4 (by decide) (fun e4 => ?_) (fun e4 => ?_)
  · have hf := (if_neg e4).symm.trans hf
    refine j_aload_n C dX7_ifKept_17 rfl 0 rfl ?_
    refine j_iload_n C dX7_ifKept_18 rfl 1 rfl ?_
    obtain ⟨r19, hc19, hf⟩ := Option.bind_eq_some_iff.mp hf
    refine j_cV C (b_X7_roomBy X.1 hl h7 h5 h2 h6 h4 h0 h3 h1 qb qn qm a1 a2 a3 a4 vD vA vL vN vM lD lS lF lG lR nB p1 r19 hc19) k_X7_roomBy gX7_ifKept_X7_roomBy rfl (ci := 7) (q0 := 0) rfl rfl (As := [.int p1]) (rest := []) (st' := [.int r19.1]) (ws' := [(h7, .inr (7, [.ref h5, .ref h2, .ref h6, .ref h4, .ref h0, .ref h3, .ref h1, .ref qb])), (qb, .inl (gI X.1, 512, .inl nB)), (h5, .inr (5, [.int vD, .int vA, .int vL, .ref qn, .ref qm])), (qn, .inl (gI X.1, 512, .inl vN)), (qm, .inl (gI X.1, 512, .inl vM)), (h4, .inr (4, [.int r19.2.1, .ref a1, .ref a2, .ref a3, .ref a4])), (a1, .inl (gI X.1, 8, .inl r19.2.2.1)), (a2, .inl (gI X.1, 8, .inl r19.2.2.2.1)), (a3, .inl (gI X.1, 8, .inl r19.2.2.2.2.1)), (a4, .inl (gI X.1, 8, .inl r19.2.2.2.2.2))]) rfl rfl dX7_ifKept_19 [0, 1, 2, 3, 4, 5, 6, 7, 8, 9] [] [0, 1, 2, 3, 4, 5, 6, 7, 8, 9] rfl rfl rfl rfl rfl rfl ?_
    obtain rfl := Option.some.inj hf
    exact j_iret C hQ rfl dX7_ifKept_22 (Nat.zero_le _) (Nat.zero_le _) ⟨rfl, rfl⟩
  · have hf := (if_pos e4).symm.trans hf
    obtain rfl := Option.some.inj hf
    exact j_throw2 C hQ hex (is := 131) (text := "the axis is out of range") (by decide +kernel) tg_X7_ifKept_2 wd_X7_ifKept_x2 wd_X7_ifKept_y2 dX7_ifKept_7 dX7_ifKept_10 dX7_ifKept_11 dX7_ifKept_13 dX7_ifKept_16 rfl ⟨rfl, rfl⟩
abbrev rmn_X7_ifKept : Room := { frames := 6, cells := 0, slots := 0, locals := 137 }
theorem kn_X7_ifKept : Cf yX7_ifKept wsX7_ifKept rmn_X7_ifKept cX7_ifKept 2 (some .int) 1 := ⟨⟨_, rfl⟩, by decide +kernel, by decide +kernel, by decide +kernel⟩
set_option maxRecDepth 100000 in
set_option maxHeartbeats 4000000 in
theorem n_X7_ifKept (G : CG) (hl : (gL G).stackTraces = false) (h7 : Nat) (h5 : Nat) (h2 : Nat) (h6 : Nat) (h4 : Nat) (h0 : Nat) (h3 : Nat) (h1 : Nat) (qb : Nat) (qn : Nat) (qm : Nat) (a1 : Nat) (a2 : Nat) (a3 : Nat) (a4 : Nat) (vD : Int32) (vA : Int32) (vL : Int32) (vN : (Nat → Int32)) (vM : (Nat → Int32)) (lD : Int32) (lS : (Nat → Int32)) (lF : (Nat → Int32)) (lG : (Nat → Int32)) (lR : (Nat → Int32)) (nB : (Nat → Int32)) (p1 : Int32) (u : Int32 × Int32 × (Nat → Int32) × (Nat → Int32) × (Nat → Int32) × (Nat → Int32)) (y : Nat ⊕ (Int32 × Int32 × (Nat → Int32) × (Nat → Int32) × (Nat → Int32) × (Nat → Int32))) (hy : y = .inr u) (hf : f_X7_ifKept p1 vD vL vN lD lS lF lG lR = some y) : Ct G yX7_ifKept wsX7_ifKept rmn_X7_ifKept [.ref h7, .int p1] [(h7, .inr (7, [.ref h5, .ref h2, .ref h6, .ref h4, .ref h0, .ref h3, .ref h1, .ref qb])), (qb, .inl (gI G, 512, .inl nB)), (h5, .inr (5, [.int vD, .int vA, .int vL, .ref qn, .ref qm])), (qn, .inl (gI G, 512, .inl vN)), (qm, .inl (gI G, 512, .inl vM)), (h4, .inr (4, [.int lD, .ref a1, .ref a2, .ref a3, .ref a4])), (a1, .inl (gI G, 8, .inl lS)), (a2, .inl (gI G, 8, .inl lF)), (a3, .inl (gI G, 8, .inl lG)), (a4, .inl (gI G, 8, .inl lR))] (fin1 (some (.int u.1)) [(h7, .inr (7, [.ref h5, .ref h2, .ref h6, .ref h4, .ref h0, .ref h3, .ref h1, .ref qb])), (qb, .inl (gI G, 512, .inl nB)), (h5, .inr (5, [.int vD, .int vA, .int vL, .ref qn, .ref qm])), (qn, .inl (gI G, 512, .inl vN)), (qm, .inl (gI G, 512, .inl vM)), (h4, .inr (4, [.int u.2.1, .ref a1, .ref a2, .ref a3, .ref a4])), (a1, .inl (gI G, 8, .inl u.2.2.1)), (a2, .inl (gI G, 8, .inl u.2.2.2.1)), (a3, .inl (gI G, 8, .inl u.2.2.2.2.1)), (a4, .inl (gI G, 8, .inl u.2.2.2.2.2))]) 0 0 := by
  refine Ct.of (cc := cX7_ifKept) (N := 2) (ret := (some .int)) RX7 (by decide) rfl rfl hl (Nat.le_of_ble_eq_true rfl) (lv := [(0, .ref h7), (1, .int p1)]) rfl (fun X hXG C hex hnm hQ => ?_)
  subst hXG
  unfold f_X7_ifKept at hf
  refine j_iload_n C dX7_ifKept_0 rfl 1 rfl ?_
  refine j_cS C (c_X7_isAxis X.1 hl p1) k_X7_isAxis gX7_ifKept_X7_isAxis (As := [.int p1]) (rest := []) (st' := [.int (f_X7_isAxis p1)]) (ws' := [(h7, .inr (7, [.ref h5, .ref h2, .ref h6, .ref h4, .ref h0, .ref h3, .ref h1, .ref qb])), (qb, .inl (gI X.1, 512, .inl nB)), (h5, .inr (5, [.int vD, .int vA, .int vL, .ref qn, .ref qm])), (qn, .inl (gI X.1, 512, .inl vN)), (qm, .inl (gI X.1, 512, .inl vM)), (h4, .inr (4, [.int lD, .ref a1, .ref a2, .ref a3, .ref a4])), (a1, .inl (gI X.1, 8, .inl lS)), (a2, .inl (gI X.1, 8, .inl lF)), (a3, .inl (gI X.1, 8, .inl lG)), (a4, .inl (gI X.1, 8, .inl lR))]) rfl rfl dX7_ifKept_1 [] [0, 1, 2, 3, 4, 5, 6, 7, 8, 9] [0, 1, 2, 3, 4, 5, 6, 7, 8, 9] rfl rfl rfl rfl rfl rfl ?_
  refine j_if_ne C (tgt := 17) dX7_ifKept_4 (by decide) (fun e4 => ?_) (fun e4 => ?_)
  · have hf := (if_neg e4).symm.trans hf
    refine j_aload_n C dX7_ifKept_17 rfl 0 rfl ?_
    refine j_iload_n C dX7_ifKept_18 rfl 1 rfl ?_
    obtain ⟨r19, hc19, hf⟩ := Option.bind_eq_some_iff.mp hf
    refine j_cV C (b_X7_roomBy X.1 hl h7 h5 h2 h6 h4 h0 h3 h1 qb qn qm a1 a2 a3 a4 vD vA vL vN vM lD lS lF lG lR nB p1 r19 hc19) k_X7_roomBy gX7_ifKept_X7_roomBy rfl (ci := 7) (q0 := 0) rfl rfl (As := [.int p1]) (rest := []) (st' := [.int r19.1]) (ws' := [(h7, .inr (7, [.ref h5, .ref h2, .ref h6, .ref h4, .ref h0, .ref h3, .ref h1, .ref qb])), (qb, .inl (gI X.1, 512, .inl nB)), (h5, .inr (5, [.int vD, .int vA, .int vL, .ref qn, .ref qm])), (qn, .inl (gI X.1, 512, .inl vN)), (qm, .inl (gI X.1, 512, .inl vM)), (h4, .inr (4, [.int r19.2.1, .ref a1, .ref a2, .ref a3, .ref a4])), (a1, .inl (gI X.1, 8, .inl r19.2.2.1)), (a2, .inl (gI X.1, 8, .inl r19.2.2.2.1)), (a3, .inl (gI X.1, 8, .inl r19.2.2.2.2.1)), (a4, .inl (gI X.1, 8, .inl r19.2.2.2.2.2))]) rfl rfl dX7_ifKept_19 [0, 1, 2, 3, 4, 5, 6, 7, 8, 9] [] [0, 1, 2, 3, 4, 5, 6, 7, 8, 9] rfl rfl rfl rfl rfl rfl ?_
    obtain rfl := Option.some.inj hf
    obtain rfl := Sum.inr.inj hy
    exact j_iret C hQ rfl dX7_ifKept_22 (Nat.zero_le _) (Nat.zero_le _) ⟨rfl, rfl⟩
  · have hf := (if_pos e4).symm.trans hf
    obtain rfl := Option.some.inj hf
    exact nomatch hy

theorem lk_X7_ifPut_10 : Cond.fieldLink RX7 10 (TX7 0).1 (TX7 0).2.1 (TX7 0).2.2.1 ∈ wsX7_ifPut := by decide +kernel
theorem in_X7_ifPut_7 : ∀ w ∈ wsX70, w ∈ wsX7_ifPut := by decide +kernel
theorem lk_X7_ifPut_33 : Cond.fieldLink RX7 33 (TX7 3).1 (TX7 3).2.1 (TX7 3).2.2.1 ∈ wsX7_ifPut := by decide +kernel
theorem in_X7_ifPut_5 : ∀ w ∈ wsX50, w ∈ wsX7_ifPut := by decide +kernel
theorem tg_X7_ifPut_2 : ∀ w ∈ (vx_atS RX7 66 "java/lang/IllegalArgumentException" ["java/lang/RuntimeException", "java/lang/Exception"]).filter goodWord, w ∈ wsX7_ifPut := by decide +kernel
theorem wd_X7_ifPut_x2 : Cond.classLink RX7 62 "java/lang/IllegalArgumentException" ∈ wsX7_ifPut := by decide +kernel
theorem wd_X7_ifPut_y2 : Cond.initialized "java/lang/IllegalArgumentException" ∈ wsX7_ifPut := by decide +kernel
theorem tg_X7_ifPut_1 : ∀ w ∈ (vx_atS RX7 89 "java/lang/IndexOutOfBoundsException" ["java/lang/RuntimeException", "java/lang/Exception"]).filter goodWord, w ∈ wsX7_ifPut := by decide +kernel
theorem wd_X7_ifPut_x1 : Cond.classLink RX7 85 "java/lang/IndexOutOfBoundsException" ∈ wsX7_ifPut := by decide +kernel
theorem wd_X7_ifPut_y1 : Cond.initialized "java/lang/IndexOutOfBoundsException" ∈ wsX7_ifPut := by decide +kernel
def f_X7_ifPut (p1 : Int32) (p2 : Int32) (p3 : Int32) (p4 : Int32) (p5 : Int32) (vD : Int32) (vA : Int32) (vL : Int32) (vN : (Nat → Int32)) (lD : Int32) (lS : (Nat → Int32)) (lF : (Nat → Int32)) (lG : (Nat → Int32)) (lR : (Nat → Int32)) : Option (Nat ⊕ (Int32 × (Nat → Int32) × Int32 × (Nat → Int32) × (Nat → Int32) × (Nat → Int32) × (Nat → Int32))) :=
  if (f_X5_hasPoint p1 p2 p3 vD) = 0 then some (.inl 1) else if (f_X7_isNumber p4) = 0 then some (.inl 2) else if p5 < 0 then some (.inl 2) else if p5 ≤ 1 then Option.bind (f_X4_look vA vD (f_X5_write (f_X5_place p1 p2 p3 vD) p4 vN) lD lS lF lG lR) (fun r101 => if p5 = 0 then Option.bind (f_X4_roomOfAll vL r101.1 r101.2.2.1 r101.2.2.2.2) (fun r131 => some (.inr (r131, (f_X5_write (f_X5_place p1 p2 p3 vD) (f_X5_number (f_X5_place p1 p2 p3 vD) vN) (f_X5_write (f_X5_place p1 p2 p3 vD) p4 vN)), r101.1, r101.2.1, r101.2.2.1, r101.2.2.2.1, r101.2.2.2.2))) else Option.bind (f_X5_coordinate (f_X5_place p1 p2 p3 vD) vA vD) (fun r152 => some (.inr ((f_X4_form r152 vL r101.2.2.1), (f_X5_write (f_X5_place p1 p2 p3 vD) (f_X5_number (f_X5_place p1 p2 p3 vD) vN) (f_X5_write (f_X5_place p1 p2 p3 vD) p4 vN)), r101.1, r101.2.1, r101.2.2.1, r101.2.2.2.1, r101.2.2.2.2)))) else some (.inl 2)
abbrev rm_X7_ifPut : Room := { frames := 6, cells := 1, slots := 6, locals := 116 }
theorem k_X7_ifPut : Cf yX7_ifPut wsX7_ifPut rm_X7_ifPut cX7_ifPut 8 (some .int) 5 := ⟨⟨_, rfl⟩, by decide +kernel, by decide +kernel, by decide +kernel⟩
set_option maxRecDepth 100000 in
set_option maxHeartbeats 4000000 in
theorem b_X7_ifPut (G : CG) (hl : (gL G).stackTraces = false) (h7 : Nat) (h5 : Nat) (h2 : Nat) (h6 : Nat) (h4 : Nat) (h0 : Nat) (h3 : Nat) (h1 : Nat) (qb : Nat) (qn : Nat) (qm : Nat) (a1 : Nat) (a2 : Nat) (a3 : Nat) (a4 : Nat) (vD : Int32) (vA : Int32) (vL : Int32) (vN : (Nat → Int32)) (vM : (Nat → Int32)) (lD : Int32) (lS : (Nat → Int32)) (lF : (Nat → Int32)) (lG : (Nat → Int32)) (lR : (Nat → Int32)) (nB : (Nat → Int32)) (p1 : Int32) (p2 : Int32) (p3 : Int32) (p4 : Int32) (p5 : Int32) (y : Nat ⊕ (Int32 × (Nat → Int32) × Int32 × (Nat → Int32) × (Nat → Int32) × (Nat → Int32) × (Nat → Int32))) (hf : f_X7_ifPut p1 p2 p3 p4 p5 vD vA vL vN lD lS lF lG lR = some y) : Ct G yX7_ifPut wsX7_ifPut rm_X7_ifPut [.ref h7, .int p1, .int p2, .int p3, .int p4, .int p5] [(h7, .inr (7, [.ref h5, .ref h2, .ref h6, .ref h4, .ref h0, .ref h3, .ref h1, .ref qb])), (qb, .inl (gI G, 512, .inl nB)), (h5, .inr (5, [.int vD, .int vA, .int vL, .ref qn, .ref qm])), (qn, .inl (gI G, 512, .inl vN)), (qm, .inl (gI G, 512, .inl vM)), (h4, .inr (4, [.int lD, .ref a1, .ref a2, .ref a3, .ref a4])), (a1, .inl (gI G, 8, .inl lS)), (a2, .inl (gI G, 8, .inl lF)), (a3, .inl (gI G, 8, .inl lG)), (a4, .inl (gI G, 8, .inl lR))] (finX y (fun u => (some (.int u.1))) [(h7, .inr (7, [.ref h5, .ref h2, .ref h6, .ref h4, .ref h0, .ref h3, .ref h1, .ref qb])), (qb, .inl (gI G, 512, .inl nB)), (h5, .inr (5, [.int vD, .int vA, .int vL, .ref qn, .ref qm])), (qn, .inl (gI G, 512, .inl vN)), (qm, .inl (gI G, 512, .inl vM)), (h4, .inr (4, [.int lD, .ref a1, .ref a2, .ref a3, .ref a4])), (a1, .inl (gI G, 8, .inl lS)), (a2, .inl (gI G, 8, .inl lF)), (a3, .inl (gI G, 8, .inl lG)), (a4, .inl (gI G, 8, .inl lR))] (fun u => [(h7, .inr (7, [.ref h5, .ref h2, .ref h6, .ref h4, .ref h0, .ref h3, .ref h1, .ref qb])), (qb, .inl (gI G, 512, .inl nB)), (h5, .inr (5, [.int vD, .int vA, .int vL, .ref qn, .ref qm])), (qn, .inl (gI G, 512, .inl u.2.1)), (qm, .inl (gI G, 512, .inl vM)), (h4, .inr (4, [.int u.2.2.1, .ref a1, .ref a2, .ref a3, .ref a4])), (a1, .inl (gI G, 8, .inl u.2.2.2.1)), (a2, .inl (gI G, 8, .inl u.2.2.2.2.1)), (a3, .inl (gI G, 8, .inl u.2.2.2.2.2.1)), (a4, .inl (gI G, 8, .inl u.2.2.2.2.2.2))])) 1 6 := by
  refine Ct.of (cc := cX7_ifPut) (N := 8) (ret := (some .int)) RX7 (by decide) rfl rfl hl (Nat.le_of_ble_eq_true rfl) (lv := [(0, .ref h7), (1, .int p1), (2, .int p2), (3, .int p3), (4, .int p4), (5, .int p5)]) rfl (fun X hXG C hex hnm hQ => ?_)
  subst hXG
  unfold f_X7_ifPut at hf
  refine j_aload_n C dX7_ifPut_0 rfl 0 rfl ?_
  refine j_get7 C 0 rfl 0 (by decide) in_X7_ifPut_7 lk_X7_ifPut_10 rfl dX7_ifPut_1 ?_
  refine j_iload_n C dX7_ifPut_4 rfl 1 rfl ?_
  refine j_iload_n C dX7_ifPut_5 rfl 2 rfl ?_
  refine j_iload_n C dX7_ifPut_6 rfl 3 rfl ?_
  refine j_cV C (c_X5_hasPoint X.1 hl h5 qn qm vD vA vL vN vM p1 p2 p3) k_X5_hasPoint gX7_ifPut_X5_hasPoint rfl (ci := 5) (q0 := 0) rfl rfl (As := [.int p1, .int p2, .int p3]) (rest := []) (st' := [.int (f_X5_hasPoint p1 p2 p3 vD)]) (ws' := [(h7, .inr (7, [.ref h5, .ref h2, .ref h6, .ref h4, .ref h0, .ref h3, .ref h1, .ref qb])), (qb, .inl (gI X.1, 512, .inl nB)), (h5, .inr (5, [.int vD, .int vA, .int vL, .ref qn, .ref qm])), (qn, .inl (gI X.1, 512, .inl vN)), (qm, .inl (gI X.1, 512, .inl vM)), (h4, .inr (4, [.int lD, .ref a1, .ref a2, .ref a3, .ref a4])), (a1, .inl (gI X.1, 8, .inl lS)), (a2, .inl (gI X.1, 8, .inl lF)), (a3, .inl (gI X.1, 8, .inl lG)), (a4, .inl (gI X.1, 8, .inl lR))]) rfl rfl dX7_ifPut_7 [2, 3, 4] [0, 1, 5, 6, 7, 8, 9] [0, 1, 7, 8, 9, 2, 3, 4, 5, 6] rfl rfl rfl rfl rfl rfl ?_
  refine j_if_ne C (tgt := 23) dX7_ifPut_10 (by decide) (fun e10 => ?_) (fun e10 => ?_)
  · have hf := (if_neg e10).symm.trans hf
    refine j_iload C dX7_ifPut_23 4 rfl ?_
    refine j_cS C (c_X7_isNumber X.1 hl p4) k_X7_isNumber gX7_ifPut_X7_isNumber (As := [.int p4]) (rest := []) (st' := [.int (f_X7_isNumber p4)]) (ws' := [(h7, .inr (7, [.ref h5, .ref h2, .ref h6, .ref h4, .ref h0, .ref h3, .ref h1, .ref qb])), (qb, .inl (gI X.1, 512, .inl nB)), (h5, .inr (5, [.int vD, .int vA, .int vL, .ref qn, .ref qm])), (qn, .inl (gI X.1, 512, .inl vN)), (qm, .inl (gI X.1, 512, .inl vM)), (h4, .inr (4, [.int lD, .ref a1, .ref a2, .ref a3, .ref a4])), (a1, .inl (gI X.1, 8, .inl lS)), (a2, .inl (gI X.1, 8, .inl lF)), (a3, .inl (gI X.1, 8, .inl lG)), (a4, .inl (gI X.1, 8, .inl lR))]) rfl rfl dX7_ifPut_25 [] [0, 1, 2, 3, 4, 5, 6, 7, 8, 9] [0, 1, 2, 3, 4, 5, 6, 7, 8, 9] rfl rfl rfl rfl rfl rfl ?_
    refine j_if_eq C (tgt := 42) dX7_ifPut_28 (by decide) (fun e28 => ?_) (fun e28 => ?_)
    · have hf := (if_pos e28).symm.trans hf
      obtain rfl := Option.some.inj hf
      exact j_throw2 C hQ hex (is := 248) (text := "the number or what is asked is out of range") (by decide +kernel) tg_X7_ifPut_2 wd_X7_ifPut_x2 wd_X7_ifPut_y2 dX7_ifPut_42 dX7_ifPut_45 dX7_ifPut_46 dX7_ifPut_48 dX7_ifPut_51 rfl ⟨rfl, rfl⟩
    · have hf := (if_neg e28).symm.trans hf
      refine j_iload C dX7_ifPut_31 5 rfl ?_
      refine j_if_lt C (tgt := 42) dX7_ifPut_33 (by decide) (fun e33 => ?_) (fun e33 => ?_)
      · have hf := (if_pos e33).symm.trans hf
        obtain rfl := Option.some.inj hf
        exact j_throw2 C hQ hex (is := 248) (text := "the number or what is asked is out of range") (by decide +kernel) tg_X7_ifPut_2 wd_X7_ifPut_x2 wd_X7_ifPut_y2 dX7_ifPut_42 dX7_ifPut_45 dX7_ifPut_46 dX7_ifPut_48 dX7_ifPut_51 rfl ⟨rfl, rfl⟩
      · have hf := (if_neg e33).symm.trans hf
        refine j_iload C dX7_ifPut_36 5 rfl ?_
        refine j_iconst C (v := 1) dX7_ifPut_38 (by decide) ?_
        refine j_icmp_le C (tgt := 52) dX7_ifPut_39 (by decide) (fun e39 => ?_) (fun e39 => ?_)
        · have hf := (if_pos e39).symm.trans hf
          refine j_aload_n C dX7_ifPut_52 rfl 0 rfl ?_
          refine j_get7 C 0 rfl 0 (by decide) in_X7_ifPut_7 lk_X7_ifPut_10 rfl dX7_ifPut_53 ?_
          refine j_iload_n C dX7_ifPut_56 rfl 1 rfl ?_
          refine j_iload_n C dX7_ifPut_57 rfl 2 rfl ?_
          refine j_iload_n C dX7_ifPut_58 rfl 3 rfl ?_
          refine j_cV C (c_X5_place X.1 hl h5 qn qm vD vA vL vN vM p1 p2 p3) k_X5_place gX7_ifPut_X5_place rfl (ci := 5) (q0 := 0) rfl rfl (As := [.int p1, .int p2, .int p3]) (rest := []) (st' := [.int (f_X5_place p1 p2 p3 vD)]) (ws' := [(h7, .inr (7, [.ref h5, .ref h2, .ref h6, .ref h4, .ref h0, .ref h3, .ref h1, .ref qb])), (qb, .inl (gI X.1, 512, .inl nB)), (h5, .inr (5, [.int vD, .int vA, .int vL, .ref qn, .ref qm])), (qn, .inl (gI X.1, 512, .inl vN)), (qm, .inl (gI X.1, 512, .inl vM)), (h4, .inr (4, [.int lD, .ref a1, .ref a2, .ref a3, .ref a4])), (a1, .inl (gI X.1, 8, .inl lS)), (a2, .inl (gI X.1, 8, .inl lF)), (a3, .inl (gI X.1, 8, .inl lG)), (a4, .inl (gI X.1, 8, .inl lR))]) rfl rfl dX7_ifPut_59 [2, 3, 4] [0, 1, 5, 6, 7, 8, 9] [0, 1, 7, 8, 9, 2, 3, 4, 5, 6] rfl rfl rfl rfl rfl rfl ?_
          refine j_istore (lv' := [(6, .int (f_X5_place p1 p2 p3 vD)), (0, .ref h7), (1, .int p1), (2, .int p2), (3, .int p3), (4, .int p4), (5, .int p5)]) C dX7_ifPut_62 (by decide) rfl ?_
          refine j_aload_n C dX7_ifPut_64 rfl 1 rfl ?_
          refine j_get7 C 0 rfl 0 (by decide) in_X7_ifPut_7 lk_X7_ifPut_10 rfl dX7_ifPut_65 ?_
          refine j_iload C dX7_ifPut_68 0 rfl ?_
          refine j_cV C (c_X5_number X.1 hl h5 qn qm vD vA vL vN vM (f_X5_place p1 p2 p3 vD)) k_X5_number gX7_ifPut_X5_number rfl (ci := 5) (q0 := 0) rfl rfl (As := [.int (f_X5_place p1 p2 p3 vD)]) (rest := []) (st' := [.int (f_X5_number (f_X5_place p1 p2 p3 vD) vN)]) (ws' := [(h7, .inr (7, [.ref h5, .ref h2, .ref h6, .ref h4, .ref h0, .ref h3, .ref h1, .ref qb])), (qb, .inl (gI X.1, 512, .inl nB)), (h5, .inr (5, [.int vD, .int vA, .int vL, .ref qn, .ref qm])), (qn, .inl (gI X.1, 512, .inl vN)), (qm, .inl (gI X.1, 512, .inl vM)), (h4, .inr (4, [.int lD, .ref a1, .ref a2, .ref a3, .ref a4])), (a1, .inl (gI X.1, 8, .inl lS)), (a2, .inl (gI X.1, 8, .inl lF)), (a3, .inl (gI X.1, 8, .inl lG)), (a4, .inl (gI X.1, 8, .inl lR))]) rfl rfl dX7_ifPut_70 [2, 3, 4] [0, 1, 5, 6, 7, 8, 9] [0, 1, 7, 8, 9, 2, 3, 4, 5, 6] rfl rfl rfl rfl rfl rfl ?_
          refine j_istore (lv' := [(7, .int (f_X5_number (f_X5_place p1 p2 p3 vD) vN)), (6, .int (f_X5_place p1 p2 p3 vD)), (0, .ref h7), (1, .int p1), (2, .int p2), (3, .int p3), (4, .int p4), (5, .int p5)]) C dX7_ifPut_73 (by decide) rfl ?_
          refine j_aload_n C dX7_ifPut_75 rfl 2 rfl ?_
          refine j_get7 C 0 rfl 0 (by decide) in_X7_ifPut_7 lk_X7_ifPut_10 rfl dX7_ifPut_76 ?_
          refine j_iload C dX7_ifPut_79 1 rfl ?_
          refine j_iload C dX7_ifPut_81 6 rfl ?_
          refine j_cV C (c_X5_write X.1 hl h5 qn qm vD vA vL vN vM (f_X5_place p1 p2 p3 vD) p4) k_X5_write gX7_ifPut_X5_write rfl (ci := 5) (q0 := 0) rfl rfl (As := [.int (f_X5_place p1 p2 p3 vD), .int p4]) (rest := []) (st' := []) (ws' := [(h7, .inr (7, [.ref h5, .ref h2, .ref h6, .ref h4, .ref h0, .ref h3, .ref h1, .ref qb])), (qb, .inl (gI X.1, 512, .inl nB)), (h5, .inr (5, [.int vD, .int vA, .int vL, .ref qn, .ref qm])), (qn, .inl (gI X.1, 512, .inl (f_X5_write (f_X5_place p1 p2 p3 vD) p4 vN))), (qm, .inl (gI X.1, 512, .inl vM)), (h4, .inr (4, [.int lD, .ref a1, .ref a2, .ref a3, .ref a4])), (a1, .inl (gI X.1, 8, .inl lS)), (a2, .inl (gI X.1, 8, .inl lF)), (a3, .inl (gI X.1, 8, .inl lG)), (a4, .inl (gI X.1, 8, .inl lR))]) rfl rfl dX7_ifPut_83 [2, 3, 4] [0, 1, 5, 6, 7, 8, 9] [0, 1, 7, 8, 9, 2, 3, 4, 5, 6] rfl rfl rfl rfl rfl rfl ?_
          refine j_aload_n C dX7_ifPut_86 rfl 2 rfl ?_
          refine j_get7 C 0 rfl 3 (by decide) in_X7_ifPut_7 lk_X7_ifPut_33 rfl dX7_ifPut_87 ?_
          refine j_aload_n C dX7_ifPut_90 rfl 2 rfl ?_
          refine j_get7 C 0 rfl 0 (by decide) in_X7_ifPut_7 lk_X7_ifPut_10 rfl dX7_ifPut_91 ?_
          refine j_aload_n C dX7_ifPut_94 rfl 2 rfl ?_
          refine j_get7 C 0 rfl 0 (by decide) in_X7_ifPut_7 lk_X7_ifPut_10 rfl dX7_ifPut_95 ?_
          refine j_getN5 C 2 rfl 1 (by decide) in_X7_ifPut_5 nw_X7_155 rfl dX7_ifPut_98 ?_
          obtain ⟨r101, hc101, hf⟩ := Option.bind_eq_some_iff.mp hf
          refine j_cV C (b_X4_look X.1 hl h4 a1 a2 a3 a4 h5 qn qm vD vA vL (f_X5_write (f_X5_place p1 p2 p3 vD) p4 vN) vM lD lS lF lG lR vA r101 hc101) k_X4_look gX7_ifPut_X4_look rfl (ci := 4) (q0 := 0) rfl rfl (As := [.ref h5, .int vA]) (rest := []) (st' := []) (ws' := [(h7, .inr (7, [.ref h5, .ref h2, .ref h6, .ref h4, .ref h0, .ref h3, .ref h1, .ref qb])), (qb, .inl (gI X.1, 512, .inl nB)), (h5, .inr (5, [.int vD, .int vA, .int vL, .ref qn, .ref qm])), (qn, .inl (gI X.1, 512, .inl (f_X5_write (f_X5_place p1 p2 p3 vD) p4 vN))), (qm, .inl (gI X.1, 512, .inl vM)), (h4, .inr (4, [.int r101.1, .ref a1, .ref a2, .ref a3, .ref a4])), (a1, .inl (gI X.1, 8, .inl r101.2.1)), (a2, .inl (gI X.1, 8, .inl r101.2.2.1)), (a3, .inl (gI X.1, 8, .inl r101.2.2.2.1)), (a4, .inl (gI X.1, 8, .inl r101.2.2.2.2))]) rfl rfl dX7_ifPut_101 [5, 6, 7, 8, 9, 2, 3, 4] [0, 1] [0, 1, 7, 8, 9, 2, 3, 4, 5, 6] rfl rfl rfl rfl rfl rfl ?_
          refine j_aload_n C dX7_ifPut_104 rfl 2 rfl ?_
          refine j_get7 C 0 rfl 0 (by decide) in_X7_ifPut_7 lk_X7_ifPut_10 rfl dX7_ifPut_105 ?_
          refine j_iload C dX7_ifPut_108 1 rfl ?_
          refine j_iload C dX7_ifPut_110 0 rfl ?_
          refine j_cV C (c_X5_write X.1 hl h5 qn qm vD vA vL (f_X5_write (f_X5_place p1 p2 p3 vD) p4 vN) vM (f_X5_place p1 p2 p3 vD) (f_X5_number (f_X5_place p1 p2 p3 vD) vN)) k_X5_write gX7_ifPut_X5_write rfl (ci := 5) (q0 := 0) rfl rfl (As := [.int (f_X5_place p1 p2 p3 vD), .int (f_X5_number (f_X5_place p1 p2 p3 vD) vN)]) (rest := []) (st' := []) (ws' := [(h7, .inr (7, [.ref h5, .ref h2, .ref h6, .ref h4, .ref h0, .ref h3, .ref h1, .ref qb])), (qb, .inl (gI X.1, 512, .inl nB)), (h5, .inr (5, [.int vD, .int vA, .int vL, .ref qn, .ref qm])), (qn, .inl (gI X.1, 512, .inl (f_X5_write (f_X5_place p1 p2 p3 vD) (f_X5_number (f_X5_place p1 p2 p3 vD) vN) (f_X5_write (f_X5_place p1 p2 p3 vD) p4 vN)))), (qm, .inl (gI X.1, 512, .inl vM)), (h4, .inr (4, [.int r101.1, .ref a1, .ref a2, .ref a3, .ref a4])), (a1, .inl (gI X.1, 8, .inl r101.2.1)), (a2, .inl (gI X.1, 8, .inl r101.2.2.1)), (a3, .inl (gI X.1, 8, .inl r101.2.2.2.1)), (a4, .inl (gI X.1, 8, .inl r101.2.2.2.2))]) rfl rfl dX7_ifPut_112 [2, 3, 4] [0, 1, 5, 6, 7, 8, 9] [0, 1, 7, 8, 9, 2, 3, 4, 5, 6] rfl rfl rfl rfl rfl rfl ?_
          refine j_iload C dX7_ifPut_115 7 rfl ?_
          refine j_if_ne C (tgt := 135) dX7_ifPut_117 (by decide) (fun e117 => ?_) (fun e117 => ?_)
          · have hf := (if_neg e117).symm.trans hf
            refine j_aload_n C dX7_ifPut_135 rfl 2 rfl ?_
            refine j_get7 C 0 rfl 3 (by decide) in_X7_ifPut_7 lk_X7_ifPut_33 rfl dX7_ifPut_136 ?_
            refine j_aload_n C dX7_ifPut_139 rfl 2 rfl ?_
            refine j_get7 C 0 rfl 0 (by decide) in_X7_ifPut_7 lk_X7_ifPut_10 rfl dX7_ifPut_140 ?_
            refine j_iload C dX7_ifPut_143 1 rfl ?_
            refine j_aload_n C dX7_ifPut_145 rfl 2 rfl ?_
            refine j_get7 C 0 rfl 0 (by decide) in_X7_ifPut_7 lk_X7_ifPut_10 rfl dX7_ifPut_146 ?_
            refine j_getN5 C 2 rfl 1 (by decide) in_X7_ifPut_5 nw_X7_155 rfl dX7_ifPut_149 ?_
            obtain ⟨r152, hc152, hf⟩ := Option.bind_eq_some_iff.mp hf
            refine j_cV C (b_X5_coordinate X.1 hl h5 qn qm vD vA vL (f_X5_write (f_X5_place p1 p2 p3 vD) (f_X5_number (f_X5_place p1 p2 p3 vD) vN) (f_X5_write (f_X5_place p1 p2 p3 vD) p4 vN)) vM (f_X5_place p1 p2 p3 vD) vA r152 hc152) k_X5_coordinate gX7_ifPut_X5_coordinate rfl (ci := 5) (q0 := 0) rfl rfl (As := [.int (f_X5_place p1 p2 p3 vD), .int vA]) (rest := [.ref h4]) (st' := [.int r152, .ref h4]) (ws' := [(h7, .inr (7, [.ref h5, .ref h2, .ref h6, .ref h4, .ref h0, .ref h3, .ref h1, .ref qb])), (qb, .inl (gI X.1, 512, .inl nB)), (h5, .inr (5, [.int vD, .int vA, .int vL, .ref qn, .ref qm])), (qn, .inl (gI X.1, 512, .inl (f_X5_write (f_X5_place p1 p2 p3 vD) (f_X5_number (f_X5_place p1 p2 p3 vD) vN) (f_X5_write (f_X5_place p1 p2 p3 vD) p4 vN)))), (qm, .inl (gI X.1, 512, .inl vM)), (h4, .inr (4, [.int r101.1, .ref a1, .ref a2, .ref a3, .ref a4])), (a1, .inl (gI X.1, 8, .inl r101.2.1)), (a2, .inl (gI X.1, 8, .inl r101.2.2.1)), (a3, .inl (gI X.1, 8, .inl r101.2.2.2.1)), (a4, .inl (gI X.1, 8, .inl r101.2.2.2.2))]) rfl rfl dX7_ifPut_152 [2, 3, 4] [0, 1, 5, 6, 7, 8, 9] [0, 1, 7, 8, 9, 2, 3, 4, 5, 6] rfl rfl rfl rfl rfl rfl ?_
            refine j_aload_n C dX7_ifPut_155 rfl 2 rfl ?_
            refine j_get7 C 0 rfl 0 (by decide) in_X7_ifPut_7 lk_X7_ifPut_10 rfl dX7_ifPut_156 ?_
            refine j_getN5 C 2 rfl 2 (by decide) in_X7_ifPut_5 nw_X7_171 rfl dX7_ifPut_159 ?_
            refine j_cV C (c_X4_form X.1 hl h4 a1 a2 a3 a4 r101.1 r101.2.1 r101.2.2.1 r101.2.2.2.1 r101.2.2.2.2 r152 vL) k_X4_form gX7_ifPut_X4_form rfl (ci := 4) (q0 := 0) rfl rfl (As := [.int r152, .int vL]) (rest := []) (st' := [.int (f_X4_form r152 vL r101.2.2.1)]) (ws' := [(h7, .inr (7, [.ref h5, .ref h2, .ref h6, .ref h4, .ref h0, .ref h3, .ref h1, .ref qb])), (qb, .inl (gI X.1, 512, .inl nB)), (h5, .inr (5, [.int vD, .int vA, .int vL, .ref qn, .ref qm])), (qn, .inl (gI X.1, 512, .inl (f_X5_write (f_X5_place p1 p2 p3 vD) (f_X5_number (f_X5_place p1 p2 p3 vD) vN) (f_X5_write (f_X5_place p1 p2 p3 vD) p4 vN)))), (qm, .inl (gI X.1, 512, .inl vM)), (h4, .inr (4, [.int r101.1, .ref a1, .ref a2, .ref a3, .ref a4])), (a1, .inl (gI X.1, 8, .inl r101.2.1)), (a2, .inl (gI X.1, 8, .inl r101.2.2.1)), (a3, .inl (gI X.1, 8, .inl r101.2.2.2.1)), (a4, .inl (gI X.1, 8, .inl r101.2.2.2.2))]) rfl rfl dX7_ifPut_162 [5, 6, 7, 8, 9] [0, 1, 2, 3, 4] [0, 1, 2, 3, 4, 5, 6, 7, 8, 9] rfl rfl rfl rfl rfl rfl ?_
            obtain rfl := Option.some.inj hf
            exact j_iret C hQ rfl dX7_ifPut_165 (Nat.zero_le _) (Nat.zero_le _) ⟨rfl, rfl⟩
          · have hf := (if_pos e117).symm.trans hf
            refine j_aload_n C dX7_ifPut_120 rfl 2 rfl ?_
            refine j_get7 C 0 rfl 3 (by decide) in_X7_ifPut_7 lk_X7_ifPut_33 rfl dX7_ifPut_121 ?_
            refine j_aload_n C dX7_ifPut_124 rfl 2 rfl ?_
            refine j_get7 C 0 rfl 0 (by decide) in_X7_ifPut_7 lk_X7_ifPut_10 rfl dX7_ifPut_125 ?_
            refine j_getN5 C 2 rfl 2 (by decide) in_X7_ifPut_5 nw_X7_171 rfl dX7_ifPut_128 ?_
            obtain ⟨r131, hc131, hf⟩ := Option.bind_eq_some_iff.mp hf
            refine j_cV C (b_X4_roomOfAll X.1 hl h4 a1 a2 a3 a4 r101.1 r101.2.1 r101.2.2.1 r101.2.2.2.1 r101.2.2.2.2 vL r131 hc131) k_X4_roomOfAll gX7_ifPut_X4_roomOfAll rfl (ci := 4) (q0 := 0) rfl rfl (As := [.int vL]) (rest := []) (st' := [.int r131]) (ws' := [(h7, .inr (7, [.ref h5, .ref h2, .ref h6, .ref h4, .ref h0, .ref h3, .ref h1, .ref qb])), (qb, .inl (gI X.1, 512, .inl nB)), (h5, .inr (5, [.int vD, .int vA, .int vL, .ref qn, .ref qm])), (qn, .inl (gI X.1, 512, .inl (f_X5_write (f_X5_place p1 p2 p3 vD) (f_X5_number (f_X5_place p1 p2 p3 vD) vN) (f_X5_write (f_X5_place p1 p2 p3 vD) p4 vN)))), (qm, .inl (gI X.1, 512, .inl vM)), (h4, .inr (4, [.int r101.1, .ref a1, .ref a2, .ref a3, .ref a4])), (a1, .inl (gI X.1, 8, .inl r101.2.1)), (a2, .inl (gI X.1, 8, .inl r101.2.2.1)), (a3, .inl (gI X.1, 8, .inl r101.2.2.2.1)), (a4, .inl (gI X.1, 8, .inl r101.2.2.2.2))]) rfl rfl dX7_ifPut_131 [5, 6, 7, 8, 9] [0, 1, 2, 3, 4] [0, 1, 2, 3, 4, 5, 6, 7, 8, 9] rfl rfl rfl rfl rfl rfl ?_
            obtain rfl := Option.some.inj hf
            exact j_iret C hQ rfl dX7_ifPut_134 (Nat.zero_le _) (Nat.zero_le _) ⟨rfl, rfl⟩
        · have hf := (if_neg e39).symm.trans hf
          obtain rfl := Option.some.inj hf
          exact j_throw2 C hQ hex (is := 248) (text := "the number or what is asked is out of range") (by decide +kernel) tg_X7_ifPut_2 wd_X7_ifPut_x2 wd_X7_ifPut_y2 dX7_ifPut_42 dX7_ifPut_45 dX7_ifPut_46 dX7_ifPut_48 dX7_ifPut_51 rfl ⟨rfl, rfl⟩
  · have hf := (if_pos e10).symm.trans hf
    obtain rfl := Option.some.inj hf
    exact j_throw1 C hQ hex (is := 87) (text := "no such point") (by decide +kernel) tg_X7_ifPut_1 wd_X7_ifPut_x1 wd_X7_ifPut_y1 dX7_ifPut_13 dX7_ifPut_16 dX7_ifPut_17 dX7_ifPut_19 dX7_ifPut_22 rfl ⟨rfl, rfl⟩
abbrev rmn_X7_ifPut : Room := { frames := 6, cells := 0, slots := 0, locals := 116 }
theorem kn_X7_ifPut : Cf yX7_ifPut wsX7_ifPut rmn_X7_ifPut cX7_ifPut 8 (some .int) 5 := ⟨⟨_, rfl⟩, by decide +kernel, by decide +kernel, by decide +kernel⟩
set_option maxRecDepth 100000 in
set_option maxHeartbeats 4000000 in
theorem n_X7_ifPut (G : CG) (hl : (gL G).stackTraces = false) (h7 : Nat) (h5 : Nat) (h2 : Nat) (h6 : Nat) (h4 : Nat) (h0 : Nat) (h3 : Nat) (h1 : Nat) (qb : Nat) (qn : Nat) (qm : Nat) (a1 : Nat) (a2 : Nat) (a3 : Nat) (a4 : Nat) (vD : Int32) (vA : Int32) (vL : Int32) (vN : (Nat → Int32)) (vM : (Nat → Int32)) (lD : Int32) (lS : (Nat → Int32)) (lF : (Nat → Int32)) (lG : (Nat → Int32)) (lR : (Nat → Int32)) (nB : (Nat → Int32)) (p1 : Int32) (p2 : Int32) (p3 : Int32) (p4 : Int32) (p5 : Int32) (u : Int32 × (Nat → Int32) × Int32 × (Nat → Int32) × (Nat → Int32) × (Nat → Int32) × (Nat → Int32)) (y : Nat ⊕ (Int32 × (Nat → Int32) × Int32 × (Nat → Int32) × (Nat → Int32) × (Nat → Int32) × (Nat → Int32))) (hy : y = .inr u) (hf : f_X7_ifPut p1 p2 p3 p4 p5 vD vA vL vN lD lS lF lG lR = some y) : Ct G yX7_ifPut wsX7_ifPut rmn_X7_ifPut [.ref h7, .int p1, .int p2, .int p3, .int p4, .int p5] [(h7, .inr (7, [.ref h5, .ref h2, .ref h6, .ref h4, .ref h0, .ref h3, .ref h1, .ref qb])), (qb, .inl (gI G, 512, .inl nB)), (h5, .inr (5, [.int vD, .int vA, .int vL, .ref qn, .ref qm])), (qn, .inl (gI G, 512, .inl vN)), (qm, .inl (gI G, 512, .inl vM)), (h4, .inr (4, [.int lD, .ref a1, .ref a2, .ref a3, .ref a4])), (a1, .inl (gI G, 8, .inl lS)), (a2, .inl (gI G, 8, .inl lF)), (a3, .inl (gI G, 8, .inl lG)), (a4, .inl (gI G, 8, .inl lR))] (fin1 (some (.int u.1)) [(h7, .inr (7, [.ref h5, .ref h2, .ref h6, .ref h4, .ref h0, .ref h3, .ref h1, .ref qb])), (qb, .inl (gI G, 512, .inl nB)), (h5, .inr (5, [.int vD, .int vA, .int vL, .ref qn, .ref qm])), (qn, .inl (gI G, 512, .inl u.2.1)), (qm, .inl (gI G, 512, .inl vM)), (h4, .inr (4, [.int u.2.2.1, .ref a1, .ref a2, .ref a3, .ref a4])), (a1, .inl (gI G, 8, .inl u.2.2.2.1)), (a2, .inl (gI G, 8, .inl u.2.2.2.2.1)), (a3, .inl (gI G, 8, .inl u.2.2.2.2.2.1)), (a4, .inl (gI G, 8, .inl u.2.2.2.2.2.2))]) 0 0 := by
  refine Ct.of (cc := cX7_ifPut) (N := 8) (ret := (some .int)) RX7 (by decide) rfl rfl hl (Nat.le_of_ble_eq_true rfl) (lv := [(0, .ref h7), (1, .int p1), (2, .int p2), (3, .int p3), (4, .int p4), (5, .int p5)]) rfl (fun X hXG C hex hnm hQ => ?_)
  subst hXG
  unfold f_X7_ifPut at hf
  refine j_aload_n C dX7_ifPut_0 rfl 0 rfl ?_
  refine j_get7 C 0 rfl 0 (by decide) in_X7_ifPut_7 lk_X7_ifPut_10 rfl dX7_ifPut_1 ?_
  refine j_iload_n C dX7_ifPut_4 rfl 1 rfl ?_
  refine j_iload_n C dX7_ifPut_5 rfl 2 rfl ?_
  refine j_iload_n C dX7_ifPut_6 rfl 3 rfl ?_
  refine j_cV C (c_X5_hasPoint X.1 hl h5 qn qm vD vA vL vN vM p1 p2 p3) k_X5_hasPoint gX7_ifPut_X5_hasPoint rfl (ci := 5) (q0 := 0) rfl rfl (As := [.int p1, .int p2, .int p3]) (rest := []) (st' := [.int (f_X5_hasPoint p1 p2 p3 vD)]) (ws' := [(h7, .inr (7, [.ref h5, .ref h2, .ref h6, .ref h4, .ref h0, .ref h3, .ref h1, .ref qb])), (qb, .inl (gI X.1, 512, .inl nB)), (h5, .inr (5, [.int vD, .int vA, .int vL, .ref qn, .ref qm])), (qn, .inl (gI X.1, 512, .inl vN)), (qm, .inl (gI X.1, 512, .inl vM)), (h4, .inr (4, [.int lD, .ref a1, .ref a2, .ref a3, .ref a4])), (a1, .inl (gI X.1, 8, .inl lS)), (a2, .inl (gI X.1, 8, .inl lF)), (a3, .inl (gI X.1, 8, .inl lG)), (a4, .inl (gI X.1, 8, .inl lR))]) rfl rfl dX7_ifPut_7 [2, 3, 4] [0, 1, 5, 6, 7, 8, 9] [0, 1, 7, 8, 9, 2, 3, 4, 5, 6] rfl rfl rfl rfl rfl rfl ?_
  refine j_if_ne C (tgt := 23) dX7_ifPut_10 (by decide) (fun e10 => ?_) (fun e10 => ?_)
  · have hf := (if_neg e10).symm.trans hf
    refine j_iload C dX7_ifPut_23 4 rfl ?_
    refine j_cS C (c_X7_isNumber X.1 hl p4) k_X7_isNumber gX7_ifPut_X7_isNumber (As := [.int p4]) (rest := []) (st' := [.int (f_X7_isNumber p4)]) (ws' := [(h7, .inr (7, [.ref h5, .ref h2, .ref h6, .ref h4, .ref h0, .ref h3, .ref h1, .ref qb])), (qb, .inl (gI X.1, 512, .inl nB)), (h5, .inr (5, [.int vD, .int vA, .int vL, .ref qn, .ref qm])), (qn, .inl (gI X.1, 512, .inl vN)), (qm, .inl (gI X.1, 512, .inl vM)), (h4, .inr (4, [.int lD, .ref a1, .ref a2, .ref a3, .ref a4])), (a1, .inl (gI X.1, 8, .inl lS)), (a2, .inl (gI X.1, 8, .inl lF)), (a3, .inl (gI X.1, 8, .inl lG)), (a4, .inl (gI X.1, 8, .inl lR))]) rfl rfl dX7_ifPut_25 [] [0, 1, 2, 3, 4, 5, 6, 7, 8, 9] [0, 1, 2, 3, 4, 5, 6, 7, 8, 9] rfl rfl rfl rfl rfl rfl ?_
    refine j_if_eq C (tgt := 42) dX7_ifPut_28 (by decide) (fun e28 => ?_) (fun e28 => ?_)
    · have hf := (if_pos e28).symm.trans hf
      obtain rfl := Option.some.inj hf
      exact nomatch hy
    · have hf := (if_neg e28).symm.trans hf
      refine j_iload C dX7_ifPut_31 5 rfl ?_
      refine j_if_lt C (tgt := 42) dX7_ifPut_33 (by decide) (fun e33 => ?_) (fun e33 => ?_)
      · have hf := (if_pos e33).symm.trans hf
        obtain rfl := Option.some.inj hf
        exact nomatch hy
      · have hf := (if_neg e33).symm.trans hf
        refine j_iload C dX7_ifPut_36 5 rfl ?_
        refine j_iconst C (v := 1) dX7_ifPut_38 (by decide) ?_
        refine j_icmp_le C (tgt := 52) dX7_ifPut_39 (by decide) (fun e39 => ?_) (fun e39 => ?_)
        · have hf := (if_pos e39).symm.trans hf
          refine j_aload_n C dX7_ifPut_52 rfl 0 rfl ?_
          refine j_get7 C 0 rfl 0 (by decide) in_X7_ifPut_7 lk_X7_ifPut_10 rfl dX7_ifPut_53 ?_
          refine j_iload_n C dX7_ifPut_56 rfl 1 rfl ?_
          refine j_iload_n C dX7_ifPut_57 rfl 2 rfl ?_
          refine j_iload_n C dX7_ifPut_58 rfl 3 rfl ?_
          refine j_cV C (c_X5_place X.1 hl h5 qn qm vD vA vL vN vM p1 p2 p3) k_X5_place gX7_ifPut_X5_place rfl (ci := 5) (q0 := 0) rfl rfl (As := [.int p1, .int p2, .int p3]) (rest := []) (st' := [.int (f_X5_place p1 p2 p3 vD)]) (ws' := [(h7, .inr (7, [.ref h5, .ref h2, .ref h6, .ref h4, .ref h0, .ref h3, .ref h1, .ref qb])), (qb, .inl (gI X.1, 512, .inl nB)), (h5, .inr (5, [.int vD, .int vA, .int vL, .ref qn, .ref qm])), (qn, .inl (gI X.1, 512, .inl vN)), (qm, .inl (gI X.1, 512, .inl vM)), (h4, .inr (4, [.int lD, .ref a1, .ref a2, .ref a3, .ref a4])), (a1, .inl (gI X.1, 8, .inl lS)), (a2, .inl (gI X.1, 8, .inl lF)), (a3, .inl (gI X.1, 8, .inl lG)), (a4, .inl (gI X.1, 8, .inl lR))]) rfl rfl dX7_ifPut_59 [2, 3, 4] [0, 1, 5, 6, 7, 8, 9] [0, 1, 7, 8, 9, 2, 3, 4, 5, 6] rfl rfl rfl rfl rfl rfl ?_
          refine j_istore (lv' := [(6, .int (f_X5_place p1 p2 p3 vD)), (0, .ref h7), (1, .int p1), (2, .int p2), (3, .int p3), (4, .int p4), (5, .int p5)]) C dX7_ifPut_62 (by decide) rfl ?_
          refine j_aload_n C dX7_ifPut_64 rfl 1 rfl ?_
          refine j_get7 C 0 rfl 0 (by decide) in_X7_ifPut_7 lk_X7_ifPut_10 rfl dX7_ifPut_65 ?_
          refine j_iload C dX7_ifPut_68 0 rfl ?_
          refine j_cV C (c_X5_number X.1 hl h5 qn qm vD vA vL vN vM (f_X5_place p1 p2 p3 vD)) k_X5_number gX7_ifPut_X5_number rfl (ci := 5) (q0 := 0) rfl rfl (As := [.int (f_X5_place p1 p2 p3 vD)]) (rest := []) (st' := [.int (f_X5_number (f_X5_place p1 p2 p3 vD) vN)]) (ws' := [(h7, .inr (7, [.ref h5, .ref h2, .ref h6, .ref h4, .ref h0, .ref h3, .ref h1, .ref qb])), (qb, .inl (gI X.1, 512, .inl nB)), (h5, .inr (5, [.int vD, .int vA, .int vL, .ref qn, .ref qm])), (qn, .inl (gI X.1, 512, .inl vN)), (qm, .inl (gI X.1, 512, .inl vM)), (h4, .inr (4, [.int lD, .ref a1, .ref a2, .ref a3, .ref a4])), (a1, .inl (gI X.1, 8, .inl lS)), (a2, .inl (gI X.1, 8, .inl lF)), (a3, .inl (gI X.1, 8, .inl lG)), (a4, .inl (gI X.1, 8, .inl lR))]) rfl rfl dX7_ifPut_70 [2, 3, 4] [0, 1, 5, 6, 7, 8, 9] [0, 1, 7, 8, 9, 2, 3, 4, 5, 6] rfl rfl rfl rfl rfl rfl ?_
          refine j_istore (lv' := [(7, .int (f_X5_number (f_X5_place p1 p2 p3 vD) vN)), (6, .int (f_X5_place p1 p2 p3 vD)), (0, .ref h7), (1, .int p1), (2, .int p2), (3, .int p3), (4, .int p4), (5, .int p5)]) C dX7_ifPut_73 (by decide) rfl ?_
          refine j_aload_n C dX7_ifPut_75 rfl 2 rfl ?_
          refine j_get7 C 0 rfl 0 (by decide) in_X7_ifPut_7 lk_X7_ifPut_10 rfl dX7_ifPut_76 ?_
          refine j_iload C dX7_ifPut_79 1 rfl ?_
          refine j_iload C dX7_ifPut_81 6 rfl ?_
          refine j_cV C (c_X5_write X.1 hl h5 qn qm vD vA vL vN vM (f_X5_place p1 p2 p3 vD) p4) k_X5_write gX7_ifPut_X5_write rfl (ci := 5) (q0 := 0) rfl rfl (As := [.int (f_X5_place p1 p2 p3 vD), .int p4]) (rest := []) (st' := []) (ws' := [(h7, .inr (7, [.ref h5, .ref h2, .ref h6, .ref h4, .ref h0, .ref h3, .ref h1, .ref qb])), (qb, .inl (gI X.1, 512, .inl nB)), (h5, .inr (5, [.int vD, .int vA, .int vL, .ref qn, .ref qm])), (qn, .inl (gI X.1, 512, .inl (f_X5_write (f_X5_place p1 p2 p3 vD) p4 vN))), (qm, .inl (gI X.1, 512, .inl vM)), (h4, .inr (4, [.int lD, .ref a1, .ref a2, .ref a3, .ref a4])), (a1, .inl (gI X.1, 8, .inl lS)), (a2, .inl (gI X.1, 8, .inl lF)), (a3, .inl (gI X.1, 8, .inl lG)), (a4, .inl (gI X.1, 8, .inl lR))]) rfl rfl dX7_ifPut_83 [2, 3, 4] [0, 1, 5, 6, 7, 8, 9] [0, 1, 7, 8, 9, 2, 3, 4, 5, 6] rfl rfl rfl rfl rfl rfl ?_
          refine j_aload_n C dX7_ifPut_86 rfl 2 rfl ?_
          refine j_get7 C 0 rfl 3 (by decide) in_X7_ifPut_7 lk_X7_ifPut_33 rfl dX7_ifPut_87 ?_
          refine j_aload_n C dX7_ifPut_90 rfl 2 rfl ?_
          refine j_get7 C 0 rfl 0 (by decide) in_X7_ifPut_7 lk_X7_ifPut_10 rfl dX7_ifPut_91 ?_
          refine j_aload_n C dX7_ifPut_94 rfl 2 rfl ?_
          refine j_get7 C 0 rfl 0 (by decide) in_X7_ifPut_7 lk_X7_ifPut_10 rfl dX7_ifPut_95 ?_
          refine j_getN5 C 2 rfl 1 (by decide) in_X7_ifPut_5 nw_X7_155 rfl dX7_ifPut_98 ?_
          obtain ⟨r101, hc101, hf⟩ := Option.bind_eq_some_iff.mp hf
          refine j_cV C (b_X4_look X.1 hl h4 a1 a2 a3 a4 h5 qn qm vD vA vL (f_X5_write (f_X5_place p1 p2 p3 vD) p4 vN) vM lD lS lF lG lR vA r101 hc101) k_X4_look gX7_ifPut_X4_look rfl (ci := 4) (q0 := 0) rfl rfl (As := [.ref h5, .int vA]) (rest := []) (st' := []) (ws' := [(h7, .inr (7, [.ref h5, .ref h2, .ref h6, .ref h4, .ref h0, .ref h3, .ref h1, .ref qb])), (qb, .inl (gI X.1, 512, .inl nB)), (h5, .inr (5, [.int vD, .int vA, .int vL, .ref qn, .ref qm])), (qn, .inl (gI X.1, 512, .inl (f_X5_write (f_X5_place p1 p2 p3 vD) p4 vN))), (qm, .inl (gI X.1, 512, .inl vM)), (h4, .inr (4, [.int r101.1, .ref a1, .ref a2, .ref a3, .ref a4])), (a1, .inl (gI X.1, 8, .inl r101.2.1)), (a2, .inl (gI X.1, 8, .inl r101.2.2.1)), (a3, .inl (gI X.1, 8, .inl r101.2.2.2.1)), (a4, .inl (gI X.1, 8, .inl r101.2.2.2.2))]) rfl rfl dX7_ifPut_101 [5, 6, 7, 8, 9, 2, 3, 4] [0, 1] [0, 1, 7, 8, 9, 2, 3, 4, 5, 6] rfl rfl rfl rfl rfl rfl ?_
          refine j_aload_n C dX7_ifPut_104 rfl 2 rfl ?_
          refine j_get7 C 0 rfl 0 (by decide) in_X7_ifPut_7 lk_X7_ifPut_10 rfl dX7_ifPut_105 ?_
          refine j_iload C dX7_ifPut_108 1 rfl ?_
          refine j_iload C dX7_ifPut_110 0 rfl ?_
          refine j_cV C (c_X5_write X.1 hl h5 qn qm vD vA vL (f_X5_write (f_X5_place p1 p2 p3 vD) p4 vN) vM (f_X5_place p1 p2 p3 vD) (f_X5_number (f_X5_place p1 p2 p3 vD) vN)) k_X5_write gX7_ifPut_X5_write rfl (ci := 5) (q0 := 0) rfl rfl (As := [.int (f_X5_place p1 p2 p3 vD), .int (f_X5_number (f_X5_place p1 p2 p3 vD) vN)]) (rest := []) (st' := []) (ws' := [(h7, .inr (7, [.ref h5, .ref h2, .ref h6, .ref h4, .ref h0, .ref h3, .ref h1, .ref qb])), (qb, .inl (gI X.1, 512, .inl nB)), (h5, .inr (5, [.int vD, .int vA, .int vL, .ref qn, .ref qm])), (qn, .inl (gI X.1, 512, .inl (f_X5_write (f_X5_place p1 p2 p3 vD) (f_X5_number (f_X5_place p1 p2 p3 vD) vN) (f_X5_write (f_X5_place p1 p2 p3 vD) p4 vN)))), (qm, .inl (gI X.1, 512, .inl vM)), (h4, .inr (4, [.int r101.1, .ref a1, .ref a2, .ref a3, .ref a4])), (a1, .inl (gI X.1, 8, .inl r101.2.1)), (a2, .inl (gI X.1, 8, .inl r101.2.2.1)), (a3, .inl (gI X.1, 8, .inl r101.2.2.2.1)), (a4, .inl (gI X.1, 8, .inl r101.2.2.2.2))]) rfl rfl dX7_ifPut_112 [2, 3, 4] [0, 1, 5, 6, 7, 8, 9] [0, 1, 7, 8, 9, 2, 3, 4, 5, 6] rfl rfl rfl rfl rfl rfl ?_
          refine j_iload C dX7_ifPut_115 7 rfl ?_
          refine j_if_ne C (tgt := 135) dX7_ifPut_117 (by decide) (fun e117 => ?_) (fun e117 => ?_)
          · have hf := (if_neg e117).symm.trans hf
            refine j_aload_n C dX7_ifPut_135 rfl 2 rfl ?_
            refine j_get7 C 0 rfl 3 (by decide) in_X7_ifPut_7 lk_X7_ifPut_33 rfl dX7_ifPut_136 ?_
            refine j_aload_n C dX7_ifPut_139 rfl 2 rfl ?_
            refine j_get7 C 0 rfl 0 (by decide) in_X7_ifPut_7 lk_X7_ifPut_10 rfl dX7_ifPut_140 ?_
            refine j_iload C dX7_ifPut_143 1 rfl ?_
            refine j_aload_n C dX7_ifPut_145 rfl 2 rfl ?_
            refine j_get7 C 0 rfl 0 (by decide) in_X7_ifPut_7 lk_X7_ifPut_10 rfl dX7_ifPut_146 ?_
            refine j_getN5 C 2 rfl 1 (by decide) in_X7_ifPut_5 nw_X7_155 rfl dX7_ifPut_149 ?_
            obtain ⟨r152, hc152, hf⟩ := Option.bind_eq_some_iff.mp hf
            refine j_cV C (b_X5_coordinate X.1 hl h5 qn qm vD vA vL (f_X5_write (f_X5_place p1 p2 p3 vD) (f_X5_number (f_X5_place p1 p2 p3 vD) vN) (f_X5_write (f_X5_place p1 p2 p3 vD) p4 vN)) vM (f_X5_place p1 p2 p3 vD) vA r152 hc152) k_X5_coordinate gX7_ifPut_X5_coordinate rfl (ci := 5) (q0 := 0) rfl rfl (As := [.int (f_X5_place p1 p2 p3 vD), .int vA]) (rest := [.ref h4]) (st' := [.int r152, .ref h4]) (ws' := [(h7, .inr (7, [.ref h5, .ref h2, .ref h6, .ref h4, .ref h0, .ref h3, .ref h1, .ref qb])), (qb, .inl (gI X.1, 512, .inl nB)), (h5, .inr (5, [.int vD, .int vA, .int vL, .ref qn, .ref qm])), (qn, .inl (gI X.1, 512, .inl (f_X5_write (f_X5_place p1 p2 p3 vD) (f_X5_number (f_X5_place p1 p2 p3 vD) vN) (f_X5_write (f_X5_place p1 p2 p3 vD) p4 vN)))), (qm, .inl (gI X.1, 512, .inl vM)), (h4, .inr (4, [.int r101.1, .ref a1, .ref a2, .ref a3, .ref a4])), (a1, .inl (gI X.1, 8, .inl r101.2.1)), (a2, .inl (gI X.1, 8, .inl r101.2.2.1)), (a3, .inl (gI X.1, 8, .inl r101.2.2.2.1)), (a4, .inl (gI X.1, 8, .inl r101.2.2.2.2))]) rfl rfl dX7_ifPut_152 [2, 3, 4] [0, 1, 5, 6, 7, 8, 9] [0, 1, 7, 8, 9, 2, 3, 4, 5, 6] rfl rfl rfl rfl rfl rfl ?_
            refine j_aload_n C dX7_ifPut_155 rfl 2 rfl ?_
            refine j_get7 C 0 rfl 0 (by decide) in_X7_ifPut_7 lk_X7_ifPut_10 rfl dX7_ifPut_156 ?_
            refine j_getN5 C 2 rfl 2 (by decide) in_X7_ifPut_5 nw_X7_171 rfl dX7_ifPut_159 ?_
            refine j_cV C (c_X4_form X.1 hl h4 a1 a2 a3 a4 r101.1 r101.2.1 r101.2.2.1 r101.2.2.2.1 r101.2.2.2.2 r152 vL) k_X4_form gX7_ifPut_X4_form rfl (ci := 4) (q0 := 0) rfl rfl (As := [.int r152, .int vL]) (rest := []) (st' := [.int (f_X4_form r152 vL r101.2.2.1)]) (ws' := [(h7, .inr (7, [.ref h5, .ref h2, .ref h6, .ref h4, .ref h0, .ref h3, .ref h1, .ref qb])), (qb, .inl (gI X.1, 512, .inl nB)), (h5, .inr (5, [.int vD, .int vA, .int vL, .ref qn, .ref qm])), (qn, .inl (gI X.1, 512, .inl (f_X5_write (f_X5_place p1 p2 p3 vD) (f_X5_number (f_X5_place p1 p2 p3 vD) vN) (f_X5_write (f_X5_place p1 p2 p3 vD) p4 vN)))), (qm, .inl (gI X.1, 512, .inl vM)), (h4, .inr (4, [.int r101.1, .ref a1, .ref a2, .ref a3, .ref a4])), (a1, .inl (gI X.1, 8, .inl r101.2.1)), (a2, .inl (gI X.1, 8, .inl r101.2.2.1)), (a3, .inl (gI X.1, 8, .inl r101.2.2.2.1)), (a4, .inl (gI X.1, 8, .inl r101.2.2.2.2))]) rfl rfl dX7_ifPut_162 [5, 6, 7, 8, 9] [0, 1, 2, 3, 4] [0, 1, 2, 3, 4, 5, 6, 7, 8, 9] rfl rfl rfl rfl rfl rfl ?_
            obtain rfl := Option.some.inj hf
            obtain rfl := Sum.inr.inj hy
            exact j_iret C hQ rfl dX7_ifPut_165 (Nat.zero_le _) (Nat.zero_le _) ⟨rfl, rfl⟩
          · have hf := (if_pos e117).symm.trans hf
            refine j_aload_n C dX7_ifPut_120 rfl 2 rfl ?_
            refine j_get7 C 0 rfl 3 (by decide) in_X7_ifPut_7 lk_X7_ifPut_33 rfl dX7_ifPut_121 ?_
            refine j_aload_n C dX7_ifPut_124 rfl 2 rfl ?_
            refine j_get7 C 0 rfl 0 (by decide) in_X7_ifPut_7 lk_X7_ifPut_10 rfl dX7_ifPut_125 ?_
            refine j_getN5 C 2 rfl 2 (by decide) in_X7_ifPut_5 nw_X7_171 rfl dX7_ifPut_128 ?_
            obtain ⟨r131, hc131, hf⟩ := Option.bind_eq_some_iff.mp hf
            refine j_cV C (b_X4_roomOfAll X.1 hl h4 a1 a2 a3 a4 r101.1 r101.2.1 r101.2.2.1 r101.2.2.2.1 r101.2.2.2.2 vL r131 hc131) k_X4_roomOfAll gX7_ifPut_X4_roomOfAll rfl (ci := 4) (q0 := 0) rfl rfl (As := [.int vL]) (rest := []) (st' := [.int r131]) (ws' := [(h7, .inr (7, [.ref h5, .ref h2, .ref h6, .ref h4, .ref h0, .ref h3, .ref h1, .ref qb])), (qb, .inl (gI X.1, 512, .inl nB)), (h5, .inr (5, [.int vD, .int vA, .int vL, .ref qn, .ref qm])), (qn, .inl (gI X.1, 512, .inl (f_X5_write (f_X5_place p1 p2 p3 vD) (f_X5_number (f_X5_place p1 p2 p3 vD) vN) (f_X5_write (f_X5_place p1 p2 p3 vD) p4 vN)))), (qm, .inl (gI X.1, 512, .inl vM)), (h4, .inr (4, [.int r101.1, .ref a1, .ref a2, .ref a3, .ref a4])), (a1, .inl (gI X.1, 8, .inl r101.2.1)), (a2, .inl (gI X.1, 8, .inl r101.2.2.1)), (a3, .inl (gI X.1, 8, .inl r101.2.2.2.1)), (a4, .inl (gI X.1, 8, .inl r101.2.2.2.2))]) rfl rfl dX7_ifPut_131 [5, 6, 7, 8, 9] [0, 1, 2, 3, 4] [0, 1, 2, 3, 4, 5, 6, 7, 8, 9] rfl rfl rfl rfl rfl rfl ?_
            obtain rfl := Option.some.inj hf
            obtain rfl := Sum.inr.inj hy
            exact j_iret C hQ rfl dX7_ifPut_134 (Nat.zero_le _) (Nat.zero_le _) ⟨rfl, rfl⟩
        · have hf := (if_neg e39).symm.trans hf
          obtain rfl := Option.some.inj hf
          exact nomatch hy
  · have hf := (if_pos e10).symm.trans hf
    obtain rfl := Option.some.inj hf
    exact nomatch hy

theorem lk_X7_best_47 : Cond.fieldLink RX7 47 (TX7 5).1 (TX7 5).2.1 (TX7 5).2.2.1 ∈ wsX7_best := by decide +kernel
theorem in_X7_best_7 : ∀ w ∈ wsX70, w ∈ wsX7_best := by decide +kernel
theorem lk_X7_best_10 : Cond.fieldLink RX7 10 (TX7 0).1 (TX7 0).2.1 (TX7 0).2.2.1 ∈ wsX7_best := by decide +kernel
theorem lk_X7_best_33 : Cond.fieldLink RX7 33 (TX7 3).1 (TX7 3).2.1 (TX7 3).2.2.1 ∈ wsX7_best := by decide +kernel
theorem tg_X7_best_2 : ∀ w ∈ (vx_atS RX7 66 "java/lang/IllegalArgumentException" ["java/lang/RuntimeException", "java/lang/Exception"]).filter goodWord, w ∈ wsX7_best := by decide +kernel
theorem wd_X7_best_x2 : Cond.classLink RX7 62 "java/lang/IllegalArgumentException" ∈ wsX7_best := by decide +kernel
theorem wd_X7_best_y2 : Cond.initialized "java/lang/IllegalArgumentException" ∈ wsX7_best := by decide +kernel
def f_X7_best (p1 : Int32) (vD : Int32) (vN : (Nat → Int32)) (lD : Int32) (lS : (Nat → Int32)) (lF : (Nat → Int32)) (lG : (Nat → Int32)) (lR : (Nat → Int32)) (eA : Int32) (eM : Int32) : Option (Nat ⊕ (Int32 × Int32 × (Nat → Int32) × (Nat → Int32) × (Nat → Int32) × (Nat → Int32) × Int32 × Int32 × Int32)) :=
  if p1 < 0 then some (.inl 2) else if p1 ≤ 2 then Option.bind (f_X3_look vD vN lD lS lF lG lR eA eM) (fun r31 => some (.inr ((f_X3_told p1 r31.2.2.2.2.2.1 r31.2.2.2.2.2.2.1 r31.2.2.2.2.2.2.2), r31.1, r31.2.1, r31.2.2.1, r31.2.2.2.1, r31.2.2.2.2.1, r31.2.2.2.2.2.1, r31.2.2.2.2.2.2.1, r31.2.2.2.2.2.2.2))) else some (.inl 2)
abbrev rm_X7_best : Room := { frames := 6, cells := 1, slots := 6, locals := 141 }
theorem k_X7_best : Cf yX7_best wsX7_best rm_X7_best cX7_best 2 (some .int) 1 := ⟨⟨_, rfl⟩, by decide +kernel, by decide +kernel, by decide +kernel⟩
set_option maxRecDepth 100000 in
set_option maxHeartbeats 4000000 in
theorem b_X7_best (G : CG) (hl : (gL G).stackTraces = false) (h7 : Nat) (h5 : Nat) (h2 : Nat) (h6 : Nat) (h4 : Nat) (h0 : Nat) (h3 : Nat) (h1 : Nat) (qb : Nat) (qn : Nat) (qm : Nat) (a1 : Nat) (a2 : Nat) (a3 : Nat) (a4 : Nat) (vD : Int32) (vA : Int32) (vL : Int32) (vN : (Nat → Int32)) (vM : (Nat → Int32)) (lD : Int32) (lS : (Nat → Int32)) (lF : (Nat → Int32)) (lG : (Nat → Int32)) (lR : (Nat → Int32)) (eA : Int32) (eM : Int32) (eR : Int32) (nB : (Nat → Int32)) (p1 : Int32) (y : Nat ⊕ (Int32 × Int32 × (Nat → Int32) × (Nat → Int32) × (Nat → Int32) × (Nat → Int32) × Int32 × Int32 × Int32)) (hf : f_X7_best p1 vD vN lD lS lF lG lR eA eM = some y) : Ct G yX7_best wsX7_best rm_X7_best [.ref h7, .int p1] [(h7, .inr (7, [.ref h5, .ref h2, .ref h6, .ref h4, .ref h0, .ref h3, .ref h1, .ref qb])), (qb, .inl (gI G, 512, .inl nB)), (h5, .inr (5, [.int vD, .int vA, .int vL, .ref qn, .ref qm])), (qn, .inl (gI G, 512, .inl vN)), (qm, .inl (gI G, 512, .inl vM)), (h4, .inr (4, [.int lD, .ref a1, .ref a2, .ref a3, .ref a4])), (a1, .inl (gI G, 8, .inl lS)), (a2, .inl (gI G, 8, .inl lF)), (a3, .inl (gI G, 8, .inl lG)), (a4, .inl (gI G, 8, .inl lR)), (h3, .inr (3, [.int eA, .int eM, .int eR]))] (finX y (fun u => (some (.int u.1))) [(h7, .inr (7, [.ref h5, .ref h2, .ref h6, .ref h4, .ref h0, .ref h3, .ref h1, .ref qb])), (qb, .inl (gI G, 512, .inl nB)), (h5, .inr (5, [.int vD, .int vA, .int vL, .ref qn, .ref qm])), (qn, .inl (gI G, 512, .inl vN)), (qm, .inl (gI G, 512, .inl vM)), (h4, .inr (4, [.int lD, .ref a1, .ref a2, .ref a3, .ref a4])), (a1, .inl (gI G, 8, .inl lS)), (a2, .inl (gI G, 8, .inl lF)), (a3, .inl (gI G, 8, .inl lG)), (a4, .inl (gI G, 8, .inl lR)), (h3, .inr (3, [.int eA, .int eM, .int eR]))] (fun u => [(h7, .inr (7, [.ref h5, .ref h2, .ref h6, .ref h4, .ref h0, .ref h3, .ref h1, .ref qb])), (qb, .inl (gI G, 512, .inl nB)), (h5, .inr (5, [.int vD, .int vA, .int vL, .ref qn, .ref qm])), (qn, .inl (gI G, 512, .inl vN)), (qm, .inl (gI G, 512, .inl vM)), (h4, .inr (4, [.int u.2.1, .ref a1, .ref a2, .ref a3, .ref a4])), (a1, .inl (gI G, 8, .inl u.2.2.1)), (a2, .inl (gI G, 8, .inl u.2.2.2.1)), (a3, .inl (gI G, 8, .inl u.2.2.2.2.1)), (a4, .inl (gI G, 8, .inl u.2.2.2.2.2.1)), (h3, .inr (3, [.int u.2.2.2.2.2.2.1, .int u.2.2.2.2.2.2.2.1, .int u.2.2.2.2.2.2.2.2]))])) 1 6 := by
  refine Ct.of (cc := cX7_best) (N := 2) (ret := (some .int)) RX7 (by decide) rfl rfl hl (Nat.le_of_ble_eq_true rfl) (lv := [(0, .ref h7), (1, .int p1)]) rfl (fun X hXG C hex hnm hQ => ?_)
  subst hXG
  unfold f_X7_best at hf
  refine j_iload_n C dX7_best_0 rfl 1 rfl ?_
  refine j_if_lt C (tgt := 9) dX7_best_1 (by decide) (fun e1 => ?_) (fun e1 => ?_)
  · have hf := (if_pos e1).symm.trans hf
    obtain rfl := Option.some.inj hf
    exact j_throw2 C hQ hex (is := 232) (text := "what is asked is out of range") (by decide +kernel) tg_X7_best_2 wd_X7_best_x2 wd_X7_best_y2 dX7_best_9 dX7_best_12 dX7_best_13 dX7_best_15 dX7_best_18 rfl ⟨rfl, rfl⟩
  · have hf := (if_neg e1).symm.trans hf
    refine j_iload_n C dX7_best_4 rfl 1 rfl ?_
    refine j_iconst C (v := 2) dX7_best_5 (by decide) ?_
    refine j_icmp_le C (tgt := 19) dX7_best_6 (by decide) (fun e6 => ?_) (fun e6 => ?_)
    · have hf := (if_pos e6).symm.trans hf
      refine j_aload_n C dX7_best_19 rfl 0 rfl ?_
      refine j_get7 C 0 rfl 5 (by decide) in_X7_best_7 lk_X7_best_47 rfl dX7_best_20 ?_
      refine j_aload_n C dX7_best_23 rfl 0 rfl ?_
      refine j_get7 C 0 rfl 0 (by decide) in_X7_best_7 lk_X7_best_10 rfl dX7_best_24 ?_
      refine j_aload_n C dX7_best_27 rfl 0 rfl ?_
      refine j_get7 C 0 rfl 3 (by decide) in_X7_best_7 lk_X7_best_33 rfl dX7_best_28 ?_
      obtain ⟨r31, hc31, hf⟩ := Option.bind_eq_some_iff.mp hf
      refine j_cV C (b_X3_look X.1 hl h3 h5 qn qm h4 a1 a2 a3 a4 vD vA vL vN vM lD lS lF lG lR eA eM eR r31 hc31) k_X3_look gX7_best_X3_look rfl (ci := 3) (q0 := 0) rfl rfl (As := [.ref h5, .ref h4]) (rest := []) (st' := []) (ws' := [(h7, .inr (7, [.ref h5, .ref h2, .ref h6, .ref h4, .ref h0, .ref h3, .ref h1, .ref qb])), (qb, .inl (gI X.1, 512, .inl nB)), (h5, .inr (5, [.int vD, .int vA, .int vL, .ref qn, .ref qm])), (qn, .inl (gI X.1, 512, .inl vN)), (qm, .inl (gI X.1, 512, .inl vM)), (h4, .inr (4, [.int r31.1, .ref a1, .ref a2, .ref a3, .ref a4])), (a1, .inl (gI X.1, 8, .inl r31.2.1)), (a2, .inl (gI X.1, 8, .inl r31.2.2.1)), (a3, .inl (gI X.1, 8, .inl r31.2.2.2.1)), (a4, .inl (gI X.1, 8, .inl r31.2.2.2.2.1)), (h3, .inr (3, [.int r31.2.2.2.2.2.1, .int r31.2.2.2.2.2.2.1, .int r31.2.2.2.2.2.2.2]))]) rfl rfl dX7_best_31 [10, 2, 3, 4, 5, 6, 7, 8, 9] [0, 1] [0, 1, 3, 4, 5, 6, 7, 8, 9, 10, 2] rfl rfl rfl rfl rfl rfl ?_
      refine j_aload_n C dX7_best_34 rfl 0 rfl ?_
      refine j_get7 C 0 rfl 5 (by decide) in_X7_best_7 lk_X7_best_47 rfl dX7_best_35 ?_
      refine j_iload_n C dX7_best_38 rfl 1 rfl ?_
      refine j_cV C (c_X3_told X.1 hl h3 r31.2.2.2.2.2.1 r31.2.2.2.2.2.2.1 r31.2.2.2.2.2.2.2 p1) k_X3_told gX7_best_X3_told rfl (ci := 3) (q0 := 0) rfl rfl (As := [.int p1]) (rest := []) (st' := [.int (f_X3_told p1 r31.2.2.2.2.2.1 r31.2.2.2.2.2.2.1 r31.2.2.2.2.2.2.2)]) (ws' := [(h7, .inr (7, [.ref h5, .ref h2, .ref h6, .ref h4, .ref h0, .ref h3, .ref h1, .ref qb])), (qb, .inl (gI X.1, 512, .inl nB)), (h5, .inr (5, [.int vD, .int vA, .int vL, .ref qn, .ref qm])), (qn, .inl (gI X.1, 512, .inl vN)), (qm, .inl (gI X.1, 512, .inl vM)), (h4, .inr (4, [.int r31.1, .ref a1, .ref a2, .ref a3, .ref a4])), (a1, .inl (gI X.1, 8, .inl r31.2.1)), (a2, .inl (gI X.1, 8, .inl r31.2.2.1)), (a3, .inl (gI X.1, 8, .inl r31.2.2.2.1)), (a4, .inl (gI X.1, 8, .inl r31.2.2.2.2.1)), (h3, .inr (3, [.int r31.2.2.2.2.2.1, .int r31.2.2.2.2.2.2.1, .int r31.2.2.2.2.2.2.2]))]) rfl rfl dX7_best_39 [10] [0, 1, 2, 3, 4, 5, 6, 7, 8, 9] [0, 1, 2, 3, 4, 5, 6, 7, 8, 9, 10] rfl rfl rfl rfl rfl rfl ?_
      obtain rfl := Option.some.inj hf
      exact j_iret C hQ rfl dX7_best_42 (Nat.zero_le _) (Nat.zero_le _) ⟨rfl, rfl⟩
    · have hf := (if_neg e6).symm.trans hf
      obtain rfl := Option.some.inj hf
      exact j_throw2 C hQ hex (is := 232) (text := "what is asked is out of range") (by decide +kernel) tg_X7_best_2 wd_X7_best_x2 wd_X7_best_y2 dX7_best_9 dX7_best_12 dX7_best_13 dX7_best_15 dX7_best_18 rfl ⟨rfl, rfl⟩

theorem lk_X7_heaviest_54 : Cond.fieldLink RX7 54 (TX7 6).1 (TX7 6).2.1 (TX7 6).2.2.1 ∈ wsX7_heaviest := by decide +kernel
theorem in_X7_heaviest_7 : ∀ w ∈ wsX70, w ∈ wsX7_heaviest := by decide +kernel
theorem lk_X7_heaviest_10 : Cond.fieldLink RX7 10 (TX7 0).1 (TX7 0).2.1 (TX7 0).2.2.1 ∈ wsX7_heaviest := by decide +kernel
theorem tg_X7_heaviest_2 : ∀ w ∈ (vx_atS RX7 66 "java/lang/IllegalArgumentException" ["java/lang/RuntimeException", "java/lang/Exception"]).filter goodWord, w ∈ wsX7_heaviest := by decide +kernel
theorem wd_X7_heaviest_x2 : Cond.classLink RX7 62 "java/lang/IllegalArgumentException" ∈ wsX7_heaviest := by decide +kernel
theorem wd_X7_heaviest_y2 : Cond.initialized "java/lang/IllegalArgumentException" ∈ wsX7_heaviest := by decide +kernel
def f_X7_heaviest (p1 : Int32) (vD : Int32) (vN : (Nat → Int32)) (hA : Int32) (hF : Int32) (hL : Int32) : Option (Nat ⊕ (Int32 × Int32 × Int32 × Int32 × Int32)) :=
  if p1 < 0 then some (.inl 2) else if p1 ≤ 3 then Option.bind (f_X1_look vD vN hA hF hL) (fun r27 => some (.inr ((f_X1_told p1 r27.1 r27.2.1 r27.2.2.1 r27.2.2.2), r27.1, r27.2.1, r27.2.2.1, r27.2.2.2))) else some (.inl 2)
abbrev rm_X7_heaviest : Room := { frames := 6, cells := 1, slots := 6, locals := 112 }
theorem k_X7_heaviest : Cf yX7_heaviest wsX7_heaviest rm_X7_heaviest cX7_heaviest 2 (some .int) 1 := ⟨⟨_, rfl⟩, by decide +kernel, by decide +kernel, by decide +kernel⟩
set_option maxRecDepth 100000 in
set_option maxHeartbeats 4000000 in
theorem b_X7_heaviest (G : CG) (hl : (gL G).stackTraces = false) (h7 : Nat) (h5 : Nat) (h2 : Nat) (h6 : Nat) (h4 : Nat) (h0 : Nat) (h3 : Nat) (h1 : Nat) (qb : Nat) (qn : Nat) (qm : Nat) (vD : Int32) (vA : Int32) (vL : Int32) (vN : (Nat → Int32)) (vM : (Nat → Int32)) (hA : Int32) (hF : Int32) (hL : Int32) (hS : Int32) (nB : (Nat → Int32)) (p1 : Int32) (y : Nat ⊕ (Int32 × Int32 × Int32 × Int32 × Int32)) (hf : f_X7_heaviest p1 vD vN hA hF hL = some y) : Ct G yX7_heaviest wsX7_heaviest rm_X7_heaviest [.ref h7, .int p1] [(h7, .inr (7, [.ref h5, .ref h2, .ref h6, .ref h4, .ref h0, .ref h3, .ref h1, .ref qb])), (qb, .inl (gI G, 512, .inl nB)), (h5, .inr (5, [.int vD, .int vA, .int vL, .ref qn, .ref qm])), (qn, .inl (gI G, 512, .inl vN)), (qm, .inl (gI G, 512, .inl vM)), (h1, .inr (1, [.int hA, .int hF, .int hL, .int hS]))] (finX y (fun u => (some (.int u.1))) [(h7, .inr (7, [.ref h5, .ref h2, .ref h6, .ref h4, .ref h0, .ref h3, .ref h1, .ref qb])), (qb, .inl (gI G, 512, .inl nB)), (h5, .inr (5, [.int vD, .int vA, .int vL, .ref qn, .ref qm])), (qn, .inl (gI G, 512, .inl vN)), (qm, .inl (gI G, 512, .inl vM)), (h1, .inr (1, [.int hA, .int hF, .int hL, .int hS]))] (fun u => [(h7, .inr (7, [.ref h5, .ref h2, .ref h6, .ref h4, .ref h0, .ref h3, .ref h1, .ref qb])), (qb, .inl (gI G, 512, .inl nB)), (h5, .inr (5, [.int vD, .int vA, .int vL, .ref qn, .ref qm])), (qn, .inl (gI G, 512, .inl vN)), (qm, .inl (gI G, 512, .inl vM)), (h1, .inr (1, [.int u.2.1, .int u.2.2.1, .int u.2.2.2.1, .int u.2.2.2.2]))])) 1 6 := by
  refine Ct.of (cc := cX7_heaviest) (N := 2) (ret := (some .int)) RX7 (by decide) rfl rfl hl (Nat.le_of_ble_eq_true rfl) (lv := [(0, .ref h7), (1, .int p1)]) rfl (fun X hXG C hex hnm hQ => ?_)
  subst hXG
  unfold f_X7_heaviest at hf
  refine j_iload_n C dX7_heaviest_0 rfl 1 rfl ?_
  refine j_if_lt C (tgt := 9) dX7_heaviest_1 (by decide) (fun e1 => ?_) (fun e1 => ?_)
  · have hf := (if_pos e1).symm.trans hf
    obtain rfl := Option.some.inj hf
    exact j_throw2 C hQ hex (is := 232) (text := "what is asked is out of range") (by decide +kernel) tg_X7_heaviest_2 wd_X7_heaviest_x2 wd_X7_heaviest_y2 dX7_heaviest_9 dX7_heaviest_12 dX7_heaviest_13 dX7_heaviest_15 dX7_heaviest_18 rfl ⟨rfl, rfl⟩
  · have hf := (if_neg e1).symm.trans hf
    refine j_iload_n C dX7_heaviest_4 rfl 1 rfl ?_
    refine j_iconst C (v := 3) dX7_heaviest_5 (by decide) ?_
    refine j_icmp_le C (tgt := 19) dX7_heaviest_6 (by decide) (fun e6 => ?_) (fun e6 => ?_)
    · have hf := (if_pos e6).symm.trans hf
      refine j_aload_n C dX7_heaviest_19 rfl 0 rfl ?_
      refine j_get7 C 0 rfl 6 (by decide) in_X7_heaviest_7 lk_X7_heaviest_54 rfl dX7_heaviest_20 ?_
      refine j_aload_n C dX7_heaviest_23 rfl 0 rfl ?_
      refine j_get7 C 0 rfl 0 (by decide) in_X7_heaviest_7 lk_X7_heaviest_10 rfl dX7_heaviest_24 ?_
      obtain ⟨r27, hc27, hf⟩ := Option.bind_eq_some_iff.mp hf
      refine j_cV C (b_X1_look X.1 hl h1 h5 qn qm vD vA vL vN vM hA hF hL hS r27 hc27) k_X1_look gX7_heaviest_X1_look rfl (ci := 1) (q0 := 0) rfl rfl (As := [.ref h5]) (rest := []) (st' := []) (ws' := [(h7, .inr (7, [.ref h5, .ref h2, .ref h6, .ref h4, .ref h0, .ref h3, .ref h1, .ref qb])), (qb, .inl (gI X.1, 512, .inl nB)), (h5, .inr (5, [.int vD, .int vA, .int vL, .ref qn, .ref qm])), (qn, .inl (gI X.1, 512, .inl vN)), (qm, .inl (gI X.1, 512, .inl vM)), (h1, .inr (1, [.int r27.1, .int r27.2.1, .int r27.2.2.1, .int r27.2.2.2]))]) rfl rfl dX7_heaviest_27 [5, 2, 3, 4] [0, 1] [0, 1, 3, 4, 5, 2] rfl rfl rfl rfl rfl rfl ?_
      refine j_aload_n C dX7_heaviest_30 rfl 0 rfl ?_
      refine j_get7 C 0 rfl 6 (by decide) in_X7_heaviest_7 lk_X7_heaviest_54 rfl dX7_heaviest_31 ?_
      refine j_iload_n C dX7_heaviest_34 rfl 1 rfl ?_
      refine j_cV C (c_X1_told X.1 hl h1 r27.1 r27.2.1 r27.2.2.1 r27.2.2.2 p1) k_X1_told gX7_heaviest_X1_told rfl (ci := 1) (q0 := 0) rfl rfl (As := [.int p1]) (rest := []) (st' := [.int (f_X1_told p1 r27.1 r27.2.1 r27.2.2.1 r27.2.2.2)]) (ws' := [(h7, .inr (7, [.ref h5, .ref h2, .ref h6, .ref h4, .ref h0, .ref h3, .ref h1, .ref qb])), (qb, .inl (gI X.1, 512, .inl nB)), (h5, .inr (5, [.int vD, .int vA, .int vL, .ref qn, .ref qm])), (qn, .inl (gI X.1, 512, .inl vN)), (qm, .inl (gI X.1, 512, .inl vM)), (h1, .inr (1, [.int r27.1, .int r27.2.1, .int r27.2.2.1, .int r27.2.2.2]))]) rfl rfl dX7_heaviest_35 [5] [0, 1, 2, 3, 4] [0, 1, 2, 3, 4, 5] rfl rfl rfl rfl rfl rfl ?_
      obtain rfl := Option.some.inj hf
      exact j_iret C hQ rfl dX7_heaviest_38 (Nat.zero_le _) (Nat.zero_le _) ⟨rfl, rfl⟩
    · have hf := (if_neg e6).symm.trans hf
      obtain rfl := Option.some.inj hf
      exact j_throw2 C hQ hex (is := 232) (text := "what is asked is out of range") (by decide +kernel) tg_X7_heaviest_2 wd_X7_heaviest_x2 wd_X7_heaviest_y2 dX7_heaviest_9 dX7_heaviest_12 dX7_heaviest_13 dX7_heaviest_15 dX7_heaviest_18 rfl ⟨rfl, rfl⟩

end
