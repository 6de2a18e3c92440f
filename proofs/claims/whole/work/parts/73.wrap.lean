noncomputable section
section JWW
theorem rng_R (w : va_W) (x : Nat × va_E) : [w.length].map (fun i => (w ++ [x])[i]?) = [x].map some := by
  show [(w ++ [x])[w.length]?] = [some x]
  rw [List.getElem?_append_right (Nat.le_refl _), Nat.sub_self]
  rfl
theorem rng_hnd (n : Nat) : (va_nd (List.range n) && va_nd [n] && [n].all (fun i => !(List.range n).contains i)) = true := by
  rw [rng_nd _ List.nodup_range]
  simp [va_nd]
theorem vin0 : vp_in 0 1 := show ¬ ((0 : Int32) < 0 ∨ 1 ≤ (0 : Int32).toNatClampNeg) by decide
abbrev rm_L_begin : Room := { frames := 7, cells := 1, slots := 6, locals := 133 }
theorem k_L_begin : CfW yL_begin wsL_begin cL_begin 4 (some .int) [(0, 9, 12, 13)] 3 := ⟨⟨_, rfl⟩, by decide +kernel, by decide +kernel, by decide +kernel⟩
theorem r_L_begin (G : CG) (hl : (gL G).stackTraces = false) (h7 qu : Nat) (p1 : Int32) (W0 W1 : va_W) (fs : List Value) (uO : Nat → Int64) (r : Int32) (hrv : W0[0]? = some (h7, .inr (7, fs))) (hc : Ct G yX7_begin wsX7_begin rm_X7_begin [.ref h7, .int p1] W0 (fin1 (some (.int r)) W1) 1 6) : Ct G yL_begin wsL_begin rm_L_begin [.ref h7, .int p1, .ref qu] (W0 ++ [(qu, .inl (gJ G, 1, .inr (.inl uO)))]) (fin1 (some (.int 0)) ((qu, .inl (gJ G, 1, .inr (.inl (vp_updL uO 0 r.toInt64)))) :: W1)) 1 6 := by
  refine Ct.ofH (cc := cL_begin) (N := 4) (ret := some .int) (hh := [(0, 9, 12, 13)]) RL (by decide) rfl rfl hl (Nat.le_of_ble_eq_true rfl) (lv := [(0, .ref h7), (1, .int p1), (2, .ref qu)]) rfl (fun X hXG C hTab hQ => ?_)
  subst hXG
  refine j_aload_n C dL_begin_0 rfl 2 rfl ?_
  refine j_iconst C (v := 0) dL_begin_1 (by decide) ?_
  refine j_aload_n C dL_begin_2 rfl 0 rfl ?_
  refine j_iload_n C dL_begin_3 rfl 1 rfl ?_
  refine j_callV C hc fin1_ne k_X7_begin gL_begin_X7_begin rfl (ci := 7) (q0 := 0) (T := TX7) (Nn := 8) rfl hrv (As := [.int p1]) (rest := [.int 0, .ref qu]) rfl rfl dL_begin_4 (List.range W0.length) [W0.length] (rng_C _ _) (rng_R _ _) (rng_hnd _) ⟨Nat.le_of_ble_eq_true rfl, Nat.le_of_ble_eq_true rfl, rfl, rfl, Nat.le_of_ble_eq_true rfl, Nat.le_of_ble_eq_true rfl⟩ (Nat.le_of_ble_eq_true rfl) (fun v w1 hf => ?_)
  obtain ⟨hv, rfl⟩ := hf
  cases hv
  show Jt X ((qu, .inl (gJ X.1, 1, .inr (.inl uO))) :: w1) 1 6 7 _ [.int r, .int 0, .ref qu]
  refine j_i2l C dL_begin_7 ?_
  refine j_last (ws' := (qu, .inl (gJ X.1, 1, .inr (.inl (vp_updL uO 0 r.toInt64)))) :: w1) C 0 rfl vin0 rfl dL_begin_8 ?_
  refine j_goto C (tgt := 15) dL_begin_9 (by decide) ?_
  refine j_iconst C (v := 0) dL_begin_15 (by decide) ?_
  exact j_iret C hQ rfl dL_begin_16 (Nat.le_of_ble_eq_true rfl) (Nat.le_of_ble_eq_true rfl) ⟨rfl, rfl⟩
theorem tA_L_begin (G : CG) (hl : (gL G).stackTraces = false) (h7 qu : Nat) (p1 : Int32) (W0 W1 : va_W) (fs : List Value) (uO : Nat → Int64) (r : Int32) (hrv : W0[0]? = some (h7, .inr (7, fs))) (hc : Ct G yX7_begin wsX7_begin rm_X7_begin [.ref h7, .int p1] W0 (finT "java/lang/IllegalArgumentException" W0) 1 6) : Ct G yL_begin wsL_begin rm_L_begin [.ref h7, .int p1, .ref qu] (W0 ++ [(qu, .inl (gJ G, 1, .inr (.inl uO)))]) (fin1 (some (.int 1)) ((qu, .inl (gJ G, 1, .inr (.inl uO))) :: W0)) 1 6 := by
  refine Ct.ofH (cc := cL_begin) (N := 4) (ret := some .int) (hh := [(0, 9, 12, 13)]) RL (by decide) rfl rfl hl (Nat.le_of_ble_eq_true rfl) (lv := [(0, .ref h7), (1, .int p1), (2, .ref qu)]) rfl (fun X hXG C hTab hQ => ?_)
  subst hXG
  refine j_aload_n C dL_begin_0 rfl 2 rfl ?_
  refine j_iconst C (v := 0) dL_begin_1 (by decide) ?_
  refine j_aload_n C dL_begin_2 rfl 0 rfl ?_
  refine j_iload_n C dL_begin_3 rfl 1 rfl ?_
  refine j_cVT C hTab hc k_X7_begin gL_begin_X7_begin rfl (ci := 7) (q0 := 0) (T := TX7) (Nn := 8) rfl hrv (As := [.int p1]) (rest := [.int 0, .ref qu]) rfl rfl dL_begin_4 (List.range W0.length) [W0.length] (rng_C _ _) (rng_R _ _) (rng_hnd _) rfl rfl [] ⟨0, 9, 12, 13⟩ [] rfl (fun _ h => nomatch h) (by decide) (by decide) (by decide +kernel) (by decide +kernel) (fun q => ?_)
  show Jt X ((qu, .inl (gJ X.1, 1, .inr (.inl uO))) :: W0) 1 6 12 _ [.ref q]
  refine j_astore_n (lv' := [(3, .ref q), (0, .ref h7), (1, .int p1), (2, .ref qu)]) C dL_begin_12 rfl (by decide) rfl ?_
  refine j_iconst C (v := 1) dL_begin_13 (by decide) ?_
  exact j_iret C hQ rfl dL_begin_14 (Nat.le_of_ble_eq_true rfl) (Nat.le_of_ble_eq_true rfl) ⟨rfl, rfl⟩
abbrev rm_L_put : Room := { frames := 7, cells := 1, slots := 6, locals := 138 }
theorem k_L_put : CfW yL_put wsL_put cL_put 7 (some .int) [(0, 14, 17, 19), (0, 14, 21, 13)] 6 := ⟨⟨_, rfl⟩, by decide +kernel, by decide +kernel, by decide +kernel⟩
theorem r_L_put (G : CG) (hl : (gL G).stackTraces = false) (h7 qu : Nat) (p1 p2 p3 p4 : Int32) (W0 W1 : va_W) (fs : List Value) (uO : Nat → Int64) (r : Int32) (hrv : W0[0]? = some (h7, .inr (7, fs))) (hc : Ct G yX7_put wsX7_put rm_X7_put [.ref h7, .int p1, .int p2, .int p3, .int p4] W0 (fin1 (some (.int r)) W1) 1 6) : Ct G yL_put wsL_put rm_L_put [.ref h7, .int p1, .int p2, .int p3, .int p4, .ref qu] (W0 ++ [(qu, .inl (gJ G, 1, .inr (.inl uO)))]) (fin1 (some (.int 0)) ((qu, .inl (gJ G, 1, .inr (.inl (vp_updL uO 0 r.toInt64)))) :: W1)) 1 6 := by
  refine Ct.ofH (cc := cL_put) (N := 7) (ret := some .int) (hh := [(0, 14, 17, 19), (0, 14, 21, 13)]) RL (by decide) rfl rfl hl (Nat.le_of_ble_eq_true rfl) (lv := [(0, .ref h7), (1, .int p1), (2, .int p2), (3, .int p3), (4, .int p4), (5, .ref qu)]) rfl (fun X hXG C hTab hQ => ?_)
  subst hXG
  refine j_aload C dL_put_0 5 rfl ?_
  refine j_iconst C (v := 0) dL_put_2 (by decide) ?_
  refine j_aload_n C dL_put_3 rfl 0 rfl ?_
  refine j_iload_n C dL_put_4 rfl 1 rfl ?_
  refine j_iload_n C dL_put_5 rfl 2 rfl ?_
  refine j_iload_n C dL_put_6 rfl 3 rfl ?_
  refine j_iload C dL_put_7 4 rfl ?_
  refine j_callV C hc fin1_ne k_X7_put gL_put_X7_put rfl (ci := 7) (q0 := 0) (T := TX7) (Nn := 8) rfl hrv (As := [.int p1, .int p2, .int p3, .int p4]) (rest := [.int 0, .ref qu]) rfl rfl dL_put_9 (List.range W0.length) [W0.length] (rng_C _ _) (rng_R _ _) (rng_hnd _) ⟨Nat.le_of_ble_eq_true rfl, Nat.le_of_ble_eq_true rfl, rfl, rfl, Nat.le_of_ble_eq_true rfl, Nat.le_of_ble_eq_true rfl⟩ (Nat.le_of_ble_eq_true rfl) (fun v w1 hf => ?_)
  obtain ⟨hv, rfl⟩ := hf
  cases hv
  show Jt X ((qu, .inl (gJ X.1, 1, .inr (.inl uO))) :: w1) 1 6 12 _ [.int r, .int 0, .ref qu]
  refine j_i2l C dL_put_12 ?_
  refine j_last (ws' := (qu, .inl (gJ X.1, 1, .inr (.inl (vp_updL uO 0 r.toInt64)))) :: w1) C 0 rfl vin0 rfl dL_put_13 ?_
  refine j_goto C (tgt := 25) dL_put_14 (by decide) ?_
  refine j_iconst C (v := 0) dL_put_25 (by decide) ?_
  exact j_iret C hQ rfl dL_put_26 (Nat.le_of_ble_eq_true rfl) (Nat.le_of_ble_eq_true rfl) ⟨rfl, rfl⟩
theorem tI_L_put (G : CG) (hl : (gL G).stackTraces = false) (h7 qu : Nat) (p1 p2 p3 p4 : Int32) (W0 W1 : va_W) (fs : List Value) (uO : Nat → Int64) (r : Int32) (hrv : W0[0]? = some (h7, .inr (7, fs))) (hc : Ct G yX7_put wsX7_put rm_X7_put [.ref h7, .int p1, .int p2, .int p3, .int p4] W0 (finT "java/lang/IndexOutOfBoundsException" W0) 1 6) : Ct G yL_put wsL_put rm_L_put [.ref h7, .int p1, .int p2, .int p3, .int p4, .ref qu] (W0 ++ [(qu, .inl (gJ G, 1, .inr (.inl uO)))]) (fin1 (some (.int 1)) ((qu, .inl (gJ G, 1, .inr (.inl uO))) :: W0)) 1 6 := by
  refine Ct.ofH (cc := cL_put) (N := 7) (ret := some .int) (hh := [(0, 14, 17, 19), (0, 14, 21, 13)]) RL (by decide) rfl rfl hl (Nat.le_of_ble_eq_true rfl) (lv := [(0, .ref h7), (1, .int p1), (2, .int p2), (3, .int p3), (4, .int p4), (5, .ref qu)]) rfl (fun X hXG C hTab hQ => ?_)
  subst hXG
  refine j_aload C dL_put_0 5 rfl ?_
  refine j_iconst C (v := 0) dL_put_2 (by decide) ?_
  refine j_aload_n C dL_put_3 rfl 0 rfl ?_
  refine j_iload_n C dL_put_4 rfl 1 rfl ?_
  refine j_iload_n C dL_put_5 rfl 2 rfl ?_
  refine j_iload_n C dL_put_6 rfl 3 rfl ?_
  refine j_iload C dL_put_7 4 rfl ?_
  refine j_cVT C hTab hc k_X7_put gL_put_X7_put rfl (ci := 7) (q0 := 0) (T := TX7) (Nn := 8) rfl hrv (As := [.int p1, .int p2, .int p3, .int p4]) (rest := [.int 0, .ref qu]) rfl rfl dL_put_9 (List.range W0.length) [W0.length] (rng_C _ _) (rng_R _ _) (rng_hnd _) rfl rfl [] ⟨0, 14, 17, 19⟩ [⟨0, 14, 21, 13⟩] rfl (fun _ h => nomatch h) (by decide) (by decide) (by decide +kernel) (by decide +kernel) (fun q => ?_)
  show Jt X ((qu, .inl (gJ X.1, 1, .inr (.inl uO))) :: W0) 1 6 17 _ [.ref q]
  refine j_astore (lv' := [(6, .ref q), (0, .ref h7), (1, .int p1), (2, .int p2), (3, .int p3), (4, .int p4), (5, .ref qu)]) C dL_put_17 (by decide) rfl ?_
  refine j_iconst C (v := 1) dL_put_19 (by decide) ?_
  exact j_iret C hQ rfl dL_put_20 (Nat.le_of_ble_eq_true rfl) (Nat.le_of_ble_eq_true rfl) ⟨rfl, rfl⟩
theorem tA_L_put (G : CG) (hl : (gL G).stackTraces = false) (h7 qu : Nat) (p1 p2 p3 p4 : Int32) (W0 W1 : va_W) (fs : List Value) (uO : Nat → Int64) (r : Int32) (hrv : W0[0]? = some (h7, .inr (7, fs))) (hc : Ct G yX7_put wsX7_put rm_X7_put [.ref h7, .int p1, .int p2, .int p3, .int p4] W0 (finT "java/lang/IllegalArgumentException" W0) 1 6) : Ct G yL_put wsL_put rm_L_put [.ref h7, .int p1, .int p2, .int p3, .int p4, .ref qu] (W0 ++ [(qu, .inl (gJ G, 1, .inr (.inl uO)))]) (fin1 (some (.int 2)) ((qu, .inl (gJ G, 1, .inr (.inl uO))) :: W0)) 1 6 := by
  refine Ct.ofH (cc := cL_put) (N := 7) (ret := some .int) (hh := [(0, 14, 17, 19), (0, 14, 21, 13)]) RL (by decide) rfl rfl hl (Nat.le_of_ble_eq_true rfl) (lv := [(0, .ref h7), (1, .int p1), (2, .int p2), (3, .int p3), (4, .int p4), (5, .ref qu)]) rfl (fun X hXG C hTab hQ => ?_)
  subst hXG
  refine j_aload C dL_put_0 5 rfl ?_
  refine j_iconst C (v := 0) dL_put_2 (by decide) ?_
  refine j_aload_n C dL_put_3 rfl 0 rfl ?_
  refine j_iload_n C dL_put_4 rfl 1 rfl ?_
  refine j_iload_n C dL_put_5 rfl 2 rfl ?_
  refine j_iload_n C dL_put_6 rfl 3 rfl ?_
  refine j_iload C dL_put_7 4 rfl ?_
  refine j_cVT C hTab hc k_X7_put gL_put_X7_put rfl (ci := 7) (q0 := 0) (T := TX7) (Nn := 8) rfl hrv (As := [.int p1, .int p2, .int p3, .int p4]) (rest := [.int 0, .ref qu]) rfl rfl dL_put_9 (List.range W0.length) [W0.length] (rng_C _ _) (rng_R _ _) (rng_hnd _) rfl rfl [⟨0, 14, 17, 19⟩] ⟨0, 14, 21, 13⟩ [] rfl (List.forall_mem_cons.mpr ⟨⟨by decide, "java/lang/IndexOutOfBoundsException", by decide +kernel, by decide +kernel⟩, (fun _ h => nomatch h)⟩) (by decide) (by decide) (by decide +kernel) (by decide +kernel) (fun q => ?_)
  show Jt X ((qu, .inl (gJ X.1, 1, .inr (.inl uO))) :: W0) 1 6 21 _ [.ref q]
  refine j_astore (lv' := [(6, .ref q), (0, .ref h7), (1, .int p1), (2, .int p2), (3, .int p3), (4, .int p4), (5, .ref qu)]) C dL_put_21 (by decide) rfl ?_
  refine j_iconst C (v := 2) dL_put_23 (by decide) ?_
  exact j_iret C hQ rfl dL_put_24 (Nat.le_of_ble_eq_true rfl) (Nat.le_of_ble_eq_true rfl) ⟨rfl, rfl⟩
abbrev rm_L_add : Room := { frames := 7, cells := 1, slots := 6, locals := 139 }
theorem k_L_add : CfW yL_add wsL_add cL_add 8 (some .int) [(0, 16, 19, 19), (0, 16, 23, 13), (0, 16, 27, 25)] 7 := ⟨⟨_, rfl⟩, by decide +kernel, by decide +kernel, by decide +kernel⟩
theorem r_L_add (G : CG) (hl : (gL G).stackTraces = false) (h7 qu : Nat) (p1 p2 p3 p4 p5 : Int32) (W0 W1 : va_W) (fs : List Value) (uO : Nat → Int64) (r : Int32) (hrv : W0[0]? = some (h7, .inr (7, fs))) (hc : Ct G yX7_add wsX7_add rm_X7_add [.ref h7, .int p1, .int p2, .int p3, .int p4, .int p5] W0 (fin1 (some (.int r)) W1) 1 6) : Ct G yL_add wsL_add rm_L_add [.ref h7, .int p1, .int p2, .int p3, .int p4, .int p5, .ref qu] (W0 ++ [(qu, .inl (gJ G, 1, .inr (.inl uO)))]) (fin1 (some (.int 0)) ((qu, .inl (gJ G, 1, .inr (.inl (vp_updL uO 0 r.toInt64)))) :: W1)) 1 6 := by
  refine Ct.ofH (cc := cL_add) (N := 8) (ret := some .int) (hh := [(0, 16, 19, 19), (0, 16, 23, 13), (0, 16, 27, 25)]) RL (by decide) rfl rfl hl (Nat.le_of_ble_eq_true rfl) (lv := [(0, .ref h7), (1, .int p1), (2, .int p2), (3, .int p3), (4, .int p4), (5, .int p5), (6, .ref qu)]) rfl (fun X hXG C hTab hQ => ?_)
  subst hXG
  refine j_aload C dL_add_0 6 rfl ?_
  refine j_iconst C (v := 0) dL_add_2 (by decide) ?_
  refine j_aload_n C dL_add_3 rfl 0 rfl ?_
  refine j_iload_n C dL_add_4 rfl 1 rfl ?_
  refine j_iload_n C dL_add_5 rfl 2 rfl ?_
  refine j_iload_n C dL_add_6 rfl 3 rfl ?_
  refine j_iload C dL_add_7 4 rfl ?_
  refine j_iload C dL_add_9 5 rfl ?_
  refine j_callV C hc fin1_ne k_X7_add gL_add_X7_add rfl (ci := 7) (q0 := 0) (T := TX7) (Nn := 8) rfl hrv (As := [.int p1, .int p2, .int p3, .int p4, .int p5]) (rest := [.int 0, .ref qu]) rfl rfl dL_add_11 (List.range W0.length) [W0.length] (rng_C _ _) (rng_R _ _) (rng_hnd _) ⟨Nat.le_of_ble_eq_true rfl, Nat.le_of_ble_eq_true rfl, rfl, rfl, Nat.le_of_ble_eq_true rfl, Nat.le_of_ble_eq_true rfl⟩ (Nat.le_of_ble_eq_true rfl) (fun v w1 hf => ?_)
  obtain ⟨hv, rfl⟩ := hf
  cases hv
  show Jt X ((qu, .inl (gJ X.1, 1, .inr (.inl uO))) :: w1) 1 6 14 _ [.int r, .int 0, .ref qu]
  refine j_i2l C dL_add_14 ?_
  refine j_last (ws' := (qu, .inl (gJ X.1, 1, .inr (.inl (vp_updL uO 0 r.toInt64)))) :: w1) C 0 rfl vin0 rfl dL_add_15 ?_
  refine j_goto C (tgt := 31) dL_add_16 (by decide) ?_
  refine j_iconst C (v := 0) dL_add_31 (by decide) ?_
  exact j_iret C hQ rfl dL_add_32 (Nat.le_of_ble_eq_true rfl) (Nat.le_of_ble_eq_true rfl) ⟨rfl, rfl⟩
theorem tI_L_add (G : CG) (hl : (gL G).stackTraces = false) (h7 qu : Nat) (p1 p2 p3 p4 p5 : Int32) (W0 W1 : va_W) (fs : List Value) (uO : Nat → Int64) (r : Int32) (hrv : W0[0]? = some (h7, .inr (7, fs))) (hc : Ct G yX7_add wsX7_add rm_X7_add [.ref h7, .int p1, .int p2, .int p3, .int p4, .int p5] W0 (finT "java/lang/IndexOutOfBoundsException" W0) 1 6) : Ct G yL_add wsL_add rm_L_add [.ref h7, .int p1, .int p2, .int p3, .int p4, .int p5, .ref qu] (W0 ++ [(qu, .inl (gJ G, 1, .inr (.inl uO)))]) (fin1 (some (.int 1)) ((qu, .inl (gJ G, 1, .inr (.inl uO))) :: W0)) 1 6 := by
  refine Ct.ofH (cc := cL_add) (N := 8) (ret := some .int) (hh := [(0, 16, 19, 19), (0, 16, 23, 13), (0, 16, 27, 25)]) RL (by decide) rfl rfl hl (Nat.le_of_ble_eq_true rfl) (lv := [(0, .ref h7), (1, .int p1), (2, .int p2), (3, .int p3), (4, .int p4), (5, .int p5), (6, .ref qu)]) rfl (fun X hXG C hTab hQ => ?_)
  subst hXG
  refine j_aload C dL_add_0 6 rfl ?_
  refine j_iconst C (v := 0) dL_add_2 (by decide) ?_
  refine j_aload_n C dL_add_3 rfl 0 rfl ?_
  refine j_iload_n C dL_add_4 rfl 1 rfl ?_
  refine j_iload_n C dL_add_5 rfl 2 rfl ?_
  refine j_iload_n C dL_add_6 rfl 3 rfl ?_
  refine j_iload C dL_add_7 4 rfl ?_
  refine j_iload C dL_add_9 5 rfl ?_
  refine j_cVT C hTab hc k_X7_add gL_add_X7_add rfl (ci := 7) (q0 := 0) (T := TX7) (Nn := 8) rfl hrv (As := [.int p1, .int p2, .int p3, .int p4, .int p5]) (rest := [.int 0, .ref qu]) rfl rfl dL_add_11 (List.range W0.length) [W0.length] (rng_C _ _) (rng_R _ _) (rng_hnd _) rfl rfl [] ⟨0, 16, 19, 19⟩ [⟨0, 16, 23, 13⟩, ⟨0, 16, 27, 25⟩] rfl (fun _ h => nomatch h) (by decide) (by decide) (by decide +kernel) (by decide +kernel) (fun q => ?_)
  show Jt X ((qu, .inl (gJ X.1, 1, .inr (.inl uO))) :: W0) 1 6 19 _ [.ref q]
  refine j_astore (lv' := [(7, .ref q), (0, .ref h7), (1, .int p1), (2, .int p2), (3, .int p3), (4, .int p4), (5, .int p5), (6, .ref qu)]) C dL_add_19 (by decide) rfl ?_
  refine j_iconst C (v := 1) dL_add_21 (by decide) ?_
  exact j_iret C hQ rfl dL_add_22 (Nat.le_of_ble_eq_true rfl) (Nat.le_of_ble_eq_true rfl) ⟨rfl, rfl⟩
theorem tA_L_add (G : CG) (hl : (gL G).stackTraces = false) (h7 qu : Nat) (p1 p2 p3 p4 p5 : Int32) (W0 W1 : va_W) (fs : List Value) (uO : Nat → Int64) (r : Int32) (hrv : W0[0]? = some (h7, .inr (7, fs))) (hc : Ct G yX7_add wsX7_add rm_X7_add [.ref h7, .int p1, .int p2, .int p3, .int p4, .int p5] W0 (finT "java/lang/IllegalArgumentException" W0) 1 6) : Ct G yL_add wsL_add rm_L_add [.ref h7, .int p1, .int p2, .int p3, .int p4, .int p5, .ref qu] (W0 ++ [(qu, .inl (gJ G, 1, .inr (.inl uO)))]) (fin1 (some (.int 2)) ((qu, .inl (gJ G, 1, .inr (.inl uO))) :: W0)) 1 6 := by
  refine Ct.ofH (cc := cL_add) (N := 8) (ret := some .int) (hh := [(0, 16, 19, 19), (0, 16, 23, 13), (0, 16, 27, 25)]) RL (by decide) rfl rfl hl (Nat.le_of_ble_eq_true rfl) (lv := [(0, .ref h7), (1, .int p1), (2, .int p2), (3, .int p3), (4, .int p4), (5, .int p5), (6, .ref qu)]) rfl (fun X hXG C hTab hQ => ?_)
  subst hXG
  refine j_aload C dL_add_0 6 rfl ?_
  refine j_iconst C (v := 0) dL_add_2 (by decide) ?_
  refine j_aload_n C dL_add_3 rfl 0 rfl ?_
  refine j_iload_n C dL_add_4 rfl 1 rfl ?_
  refine j_iload_n C dL_add_5 rfl 2 rfl ?_
  refine j_iload_n C dL_add_6 rfl 3 rfl ?_
  refine j_iload C dL_add_7 4 rfl ?_
  refine j_iload C dL_add_9 5 rfl ?_
  refine j_cVT C hTab hc k_X7_add gL_add_X7_add rfl (ci := 7) (q0 := 0) (T := TX7) (Nn := 8) rfl hrv (As := [.int p1, .int p2, .int p3, .int p4, .int p5]) (rest := [.int 0, .ref qu]) rfl rfl dL_add_11 (List.range W0.length) [W0.length] (rng_C _ _) (rng_R _ _) (rng_hnd _) rfl rfl [⟨0, 16, 19, 19⟩] ⟨0, 16, 23, 13⟩ [⟨0, 16, 27, 25⟩] rfl (List.forall_mem_cons.mpr ⟨⟨by decide, "java/lang/IndexOutOfBoundsException", by decide +kernel, by decide +kernel⟩, (fun _ h => nomatch h)⟩) (by decide) (by decide) (by decide +kernel) (by decide +kernel) (fun q => ?_)
  show Jt X ((qu, .inl (gJ X.1, 1, .inr (.inl uO))) :: W0) 1 6 23 _ [.ref q]
  refine j_astore (lv' := [(7, .ref q), (0, .ref h7), (1, .int p1), (2, .int p2), (3, .int p3), (4, .int p4), (5, .int p5), (6, .ref qu)]) C dL_add_23 (by decide) rfl ?_
  refine j_iconst C (v := 2) dL_add_25 (by decide) ?_
  exact j_iret C hQ rfl dL_add_26 (Nat.le_of_ble_eq_true rfl) (Nat.le_of_ble_eq_true rfl) ⟨rfl, rfl⟩
theorem tS_L_add (G : CG) (hl : (gL G).stackTraces = false) (h7 qu : Nat) (p1 p2 p3 p4 p5 : Int32) (W0 W1 : va_W) (fs : List Value) (uO : Nat → Int64) (r : Int32) (hrv : W0[0]? = some (h7, .inr (7, fs))) (hc : Ct G yX7_add wsX7_add rm_X7_add [.ref h7, .int p1, .int p2, .int p3, .int p4, .int p5] W0 (finT "java/lang/IllegalStateException" W0) 1 6) : Ct G yL_add wsL_add rm_L_add [.ref h7, .int p1, .int p2, .int p3, .int p4, .int p5, .ref qu] (W0 ++ [(qu, .inl (gJ G, 1, .inr (.inl uO)))]) (fin1 (some (.int 3)) ((qu, .inl (gJ G, 1, .inr (.inl uO))) :: W0)) 1 6 := by
  refine Ct.ofH (cc := cL_add) (N := 8) (ret := some .int) (hh := [(0, 16, 19, 19), (0, 16, 23, 13), (0, 16, 27, 25)]) RL (by decide) rfl rfl hl (Nat.le_of_ble_eq_true rfl) (lv := [(0, .ref h7), (1, .int p1), (2, .int p2), (3, .int p3), (4, .int p4), (5, .int p5), (6, .ref qu)]) rfl (fun X hXG C hTab hQ => ?_)
  subst hXG
  refine j_aload C dL_add_0 6 rfl ?_
  refine j_iconst C (v := 0) dL_add_2 (by decide) ?_
  refine j_aload_n C dL_add_3 rfl 0 rfl ?_
  refine j_iload_n C dL_add_4 rfl 1 rfl ?_
  refine j_iload_n C dL_add_5 rfl 2 rfl ?_
  refine j_iload_n C dL_add_6 rfl 3 rfl ?_
  refine j_iload C dL_add_7 4 rfl ?_
  refine j_iload C dL_add_9 5 rfl ?_
  refine j_cVT C hTab hc k_X7_add gL_add_X7_add rfl (ci := 7) (q0 := 0) (T := TX7) (Nn := 8) rfl hrv (As := [.int p1, .int p2, .int p3, .int p4, .int p5]) (rest := [.int 0, .ref qu]) rfl rfl dL_add_11 (List.range W0.length) [W0.length] (rng_C _ _) (rng_R _ _) (rng_hnd _) rfl rfl [⟨0, 16, 19, 19⟩, ⟨0, 16, 23, 13⟩] ⟨0, 16, 27, 25⟩ [] rfl (List.forall_mem_cons.mpr ⟨⟨by decide, "java/lang/IndexOutOfBoundsException", by decide +kernel, by decide +kernel⟩, (List.forall_mem_cons.mpr ⟨⟨by decide, "java/lang/IllegalArgumentException", by decide +kernel, by decide +kernel⟩, (fun _ h => nomatch h)⟩)⟩) (by decide) (by decide) (by decide +kernel) (by decide +kernel) (fun q => ?_)
  show Jt X ((qu, .inl (gJ X.1, 1, .inr (.inl uO))) :: W0) 1 6 27 _ [.ref q]
  refine j_astore (lv' := [(7, .ref q), (0, .ref h7), (1, .int p1), (2, .int p2), (3, .int p3), (4, .int p4), (5, .int p5), (6, .ref qu)]) C dL_add_27 (by decide) rfl ?_
  refine j_iconst C (v := 3) dL_add_29 (by decide) ?_
  exact j_iret C hQ rfl dL_add_30 (Nat.le_of_ble_eq_true rfl) (Nat.le_of_ble_eq_true rfl) ⟨rfl, rfl⟩
abbrev rm_L_wipe : Room := { frames := 7, cells := 1, slots := 6, locals := 134 }
theorem k_L_wipe : CfW yL_wipe wsL_wipe cL_wipe 5 (some .int) [(0, 10, 13, 19), (0, 10, 17, 13)] 4 := ⟨⟨_, rfl⟩, by decide +kernel, by decide +kernel, by decide +kernel⟩
theorem r_L_wipe (G : CG) (hl : (gL G).stackTraces = false) (h7 qu : Nat) (p1 p2 : Int32) (W0 W1 : va_W) (fs : List Value) (uO : Nat → Int64) (r : Int32) (hrv : W0[0]? = some (h7, .inr (7, fs))) (hc : Ct G yX7_wipe wsX7_wipe rm_X7_wipe [.ref h7, .int p1, .int p2] W0 (fin1 (some (.int r)) W1) 1 6) : Ct G yL_wipe wsL_wipe rm_L_wipe [.ref h7, .int p1, .int p2, .ref qu] (W0 ++ [(qu, .inl (gJ G, 1, .inr (.inl uO)))]) (fin1 (some (.int 0)) ((qu, .inl (gJ G, 1, .inr (.inl (vp_updL uO 0 r.toInt64)))) :: W1)) 1 6 := by
  refine Ct.ofH (cc := cL_wipe) (N := 5) (ret := some .int) (hh := [(0, 10, 13, 19), (0, 10, 17, 13)]) RL (by decide) rfl rfl hl (Nat.le_of_ble_eq_true rfl) (lv := [(0, .ref h7), (1, .int p1), (2, .int p2), (3, .ref qu)]) rfl (fun X hXG C hTab hQ => ?_)
  subst hXG
  refine j_aload_n C dL_wipe_0 rfl 3 rfl ?_
  refine j_iconst C (v := 0) dL_wipe_1 (by decide) ?_
  refine j_aload_n C dL_wipe_2 rfl 0 rfl ?_
  refine j_iload_n C dL_wipe_3 rfl 1 rfl ?_
  refine j_iload_n C dL_wipe_4 rfl 2 rfl ?_
  refine j_callV C hc fin1_ne k_X7_wipe gL_wipe_X7_wipe rfl (ci := 7) (q0 := 0) (T := TX7) (Nn := 8) rfl hrv (As := [.int p1, .int p2]) (rest := [.int 0, .ref qu]) rfl rfl dL_wipe_5 (List.range W0.length) [W0.length] (rng_C _ _) (rng_R _ _) (rng_hnd _) ⟨Nat.le_of_ble_eq_true rfl, Nat.le_of_ble_eq_true rfl, rfl, rfl, Nat.le_of_ble_eq_true rfl, Nat.le_of_ble_eq_true rfl⟩ (Nat.le_of_ble_eq_true rfl) (fun v w1 hf => ?_)
  obtain ⟨hv, rfl⟩ := hf
  cases hv
  show Jt X ((qu, .inl (gJ X.1, 1, .inr (.inl uO))) :: w1) 1 6 8 _ [.int r, .int 0, .ref qu]
  refine j_i2l C dL_wipe_8 ?_
  refine j_last (ws' := (qu, .inl (gJ X.1, 1, .inr (.inl (vp_updL uO 0 r.toInt64)))) :: w1) C 0 rfl vin0 rfl dL_wipe_9 ?_
  refine j_goto C (tgt := 21) dL_wipe_10 (by decide) ?_
  refine j_iconst C (v := 0) dL_wipe_21 (by decide) ?_
  exact j_iret C hQ rfl dL_wipe_22 (Nat.le_of_ble_eq_true rfl) (Nat.le_of_ble_eq_true rfl) ⟨rfl, rfl⟩
theorem tI_L_wipe (G : CG) (hl : (gL G).stackTraces = false) (h7 qu : Nat) (p1 p2 : Int32) (W0 W1 : va_W) (fs : List Value) (uO : Nat → Int64) (r : Int32) (hrv : W0[0]? = some (h7, .inr (7, fs))) (hc : Ct G yX7_wipe wsX7_wipe rm_X7_wipe [.ref h7, .int p1, .int p2] W0 (finT "java/lang/IndexOutOfBoundsException" W0) 1 6) : Ct G yL_wipe wsL_wipe rm_L_wipe [.ref h7, .int p1, .int p2, .ref qu] (W0 ++ [(qu, .inl (gJ G, 1, .inr (.inl uO)))]) (fin1 (some (.int 1)) ((qu, .inl (gJ G, 1, .inr (.inl uO))) :: W0)) 1 6 := by
  refine Ct.ofH (cc := cL_wipe) (N := 5) (ret := some .int) (hh := [(0, 10, 13, 19), (0, 10, 17, 13)]) RL (by decide) rfl rfl hl (Nat.le_of_ble_eq_true rfl) (lv := [(0, .ref h7), (1, .int p1), (2, .int p2), (3, .ref qu)]) rfl (fun X hXG C hTab hQ => ?_)
  subst hXG
  refine j_aload_n C dL_wipe_0 rfl 3 rfl ?_
  refine j_iconst C (v := 0) dL_wipe_1 (by decide) ?_
  refine j_aload_n C dL_wipe_2 rfl 0 rfl ?_
  refine j_iload_n C dL_wipe_3 rfl 1 rfl ?_
  refine j_iload_n C dL_wipe_4 rfl 2 rfl ?_
  refine j_cVT C hTab hc k_X7_wipe gL_wipe_X7_wipe rfl (ci := 7) (q0 := 0) (T := TX7) (Nn := 8) rfl hrv (As := [.int p1, .int p2]) (rest := [.int 0, .ref qu]) rfl rfl dL_wipe_5 (List.range W0.length) [W0.length] (rng_C _ _) (rng_R _ _) (rng_hnd _) rfl rfl [] ⟨0, 10, 13, 19⟩ [⟨0, 10, 17, 13⟩] rfl (fun _ h => nomatch h) (by decide) (by decide) (by decide +kernel) (by decide +kernel) (fun q => ?_)
  show Jt X ((qu, .inl (gJ X.1, 1, .inr (.inl uO))) :: W0) 1 6 13 _ [.ref q]
  refine j_astore (lv' := [(4, .ref q), (0, .ref h7), (1, .int p1), (2, .int p2), (3, .ref qu)]) C dL_wipe_13 (by decide) rfl ?_
  refine j_iconst C (v := 1) dL_wipe_15 (by decide) ?_
  exact j_iret C hQ rfl dL_wipe_16 (Nat.le_of_ble_eq_true rfl) (Nat.le_of_ble_eq_true rfl) ⟨rfl, rfl⟩
theorem tA_L_wipe (G : CG) (hl : (gL G).stackTraces = false) (h7 qu : Nat) (p1 p2 : Int32) (W0 W1 : va_W) (fs : List Value) (uO : Nat → Int64) (r : Int32) (hrv : W0[0]? = some (h7, .inr (7, fs))) (hc : Ct G yX7_wipe wsX7_wipe rm_X7_wipe [.ref h7, .int p1, .int p2] W0 (finT "java/lang/IllegalArgumentException" W0) 1 6) : Ct G yL_wipe wsL_wipe rm_L_wipe [.ref h7, .int p1, .int p2, .ref qu] (W0 ++ [(qu, .inl (gJ G, 1, .inr (.inl uO)))]) (fin1 (some (.int 2)) ((qu, .inl (gJ G, 1, .inr (.inl uO))) :: W0)) 1 6 := by
  refine Ct.ofH (cc := cL_wipe) (N := 5) (ret := some .int) (hh := [(0, 10, 13, 19), (0, 10, 17, 13)]) RL (by decide) rfl rfl hl (Nat.le_of_ble_eq_true rfl) (lv := [(0, .ref h7), (1, .int p1), (2, .int p2), (3, .ref qu)]) rfl (fun X hXG C hTab hQ => ?_)
  subst hXG
  refine j_aload_n C dL_wipe_0 rfl 3 rfl ?_
  refine j_iconst C (v := 0) dL_wipe_1 (by decide) ?_
  refine j_aload_n C dL_wipe_2 rfl 0 rfl ?_
  refine j_iload_n C dL_wipe_3 rfl 1 rfl ?_
  refine j_iload_n C dL_wipe_4 rfl 2 rfl ?_
  refine j_cVT C hTab hc k_X7_wipe gL_wipe_X7_wipe rfl (ci := 7) (q0 := 0) (T := TX7) (Nn := 8) rfl hrv (As := [.int p1, .int p2]) (rest := [.int 0, .ref qu]) rfl rfl dL_wipe_5 (List.range W0.length) [W0.length] (rng_C _ _) (rng_R _ _) (rng_hnd _) rfl rfl [⟨0, 10, 13, 19⟩] ⟨0, 10, 17, 13⟩ [] rfl (List.forall_mem_cons.mpr ⟨⟨by decide, "java/lang/IndexOutOfBoundsException", by decide +kernel, by decide +kernel⟩, (fun _ h => nomatch h)⟩) (by decide) (by decide) (by decide +kernel) (by decide +kernel) (fun q => ?_)
  show Jt X ((qu, .inl (gJ X.1, 1, .inr (.inl uO))) :: W0) 1 6 17 _ [.ref q]
  refine j_astore (lv' := [(4, .ref q), (0, .ref h7), (1, .int p1), (2, .int p2), (3, .ref qu)]) C dL_wipe_17 (by decide) rfl ?_
  refine j_iconst C (v := 2) dL_wipe_19 (by decide) ?_
  exact j_iret C hQ rfl dL_wipe_20 (Nat.le_of_ble_eq_true rfl) (Nat.le_of_ble_eq_true rfl) ⟨rfl, rfl⟩
abbrev rm_L_shift : Room := { frames := 7, cells := 1, slots := 6, locals := 136 }
theorem k_L_shift : CfW yL_shift wsL_shift cL_shift 4 (some .int) [(0, 9, 12, 13)] 3 := ⟨⟨_, rfl⟩, by decide +kernel, by decide +kernel, by decide +kernel⟩
theorem r_L_shift (G : CG) (hl : (gL G).stackTraces = false) (h7 qu : Nat) (p1 : Int32) (W0 W1 : va_W) (fs : List Value) (uO : Nat → Int64) (r : Int32) (hrv : W0[0]? = some (h7, .inr (7, fs))) (hc : Ct G yX7_shift wsX7_shift rm_X7_shift [.ref h7, .int p1] W0 (fin1 (some (.int r)) W1) 1 6) : Ct G yL_shift wsL_shift rm_L_shift [.ref h7, .int p1, .ref qu] (W0 ++ [(qu, .inl (gJ G, 1, .inr (.inl uO)))]) (fin1 (some (.int 0)) ((qu, .inl (gJ G, 1, .inr (.inl (vp_updL uO 0 r.toInt64)))) :: W1)) 1 6 := by
  refine Ct.ofH (cc := cL_shift) (N := 4) (ret := some .int) (hh := [(0, 9, 12, 13)]) RL (by decide) rfl rfl hl (Nat.le_of_ble_eq_true rfl) (lv := [(0, .ref h7), (1, .int p1), (2, .ref qu)]) rfl (fun X hXG C hTab hQ => ?_)
  subst hXG
  refine j_aload_n C dL_shift_0 rfl 2 rfl ?_
  refine j_iconst C (v := 0) dL_shift_1 (by decide) ?_
  refine j_aload_n C dL_shift_2 rfl 0 rfl ?_
  refine j_iload_n C dL_shift_3 rfl 1 rfl ?_
  refine j_callV C hc fin1_ne k_X7_shift gL_shift_X7_shift rfl (ci := 7) (q0 := 0) (T := TX7) (Nn := 8) rfl hrv (As := [.int p1]) (rest := [.int 0, .ref qu]) rfl rfl dL_shift_4 (List.range W0.length) [W0.length] (rng_C _ _) (rng_R _ _) (rng_hnd _) ⟨Nat.le_of_ble_eq_true rfl, Nat.le_of_ble_eq_true rfl, rfl, rfl, Nat.le_of_ble_eq_true rfl, Nat.le_of_ble_eq_true rfl⟩ (Nat.le_of_ble_eq_true rfl) (fun v w1 hf => ?_)
  obtain ⟨hv, rfl⟩ := hf
  cases hv
  show Jt X ((qu, .inl (gJ X.1, 1, .inr (.inl uO))) :: w1) 1 6 7 _ [.int r, .int 0, .ref qu]
  refine j_i2l C dL_shift_7 ?_
  refine j_last (ws' := (qu, .inl (gJ X.1, 1, .inr (.inl (vp_updL uO 0 r.toInt64)))) :: w1) C 0 rfl vin0 rfl dL_shift_8 ?_
  refine j_goto C (tgt := 15) dL_shift_9 (by decide) ?_
  refine j_iconst C (v := 0) dL_shift_15 (by decide) ?_
  exact j_iret C hQ rfl dL_shift_16 (Nat.le_of_ble_eq_true rfl) (Nat.le_of_ble_eq_true rfl) ⟨rfl, rfl⟩
theorem tA_L_shift (G : CG) (hl : (gL G).stackTraces = false) (h7 qu : Nat) (p1 : Int32) (W0 W1 : va_W) (fs : List Value) (uO : Nat → Int64) (r : Int32) (hrv : W0[0]? = some (h7, .inr (7, fs))) (hc : Ct G yX7_shift wsX7_shift rm_X7_shift [.ref h7, .int p1] W0 (finT "java/lang/IllegalArgumentException" W0) 1 6) : Ct G yL_shift wsL_shift rm_L_shift [.ref h7, .int p1, .ref qu] (W0 ++ [(qu, .inl (gJ G, 1, .inr (.inl uO)))]) (fin1 (some (.int 1)) ((qu, .inl (gJ G, 1, .inr (.inl uO))) :: W0)) 1 6 := by
  refine Ct.ofH (cc := cL_shift) (N := 4) (ret := some .int) (hh := [(0, 9, 12, 13)]) RL (by decide) rfl rfl hl (Nat.le_of_ble_eq_true rfl) (lv := [(0, .ref h7), (1, .int p1), (2, .ref qu)]) rfl (fun X hXG C hTab hQ => ?_)
  subst hXG
  refine j_aload_n C dL_shift_0 rfl 2 rfl ?_
  refine j_iconst C (v := 0) dL_shift_1 (by decide) ?_
  refine j_aload_n C dL_shift_2 rfl 0 rfl ?_
  refine j_iload_n C dL_shift_3 rfl 1 rfl ?_
  refine j_cVT C hTab hc k_X7_shift gL_shift_X7_shift rfl (ci := 7) (q0 := 0) (T := TX7) (Nn := 8) rfl hrv (As := [.int p1]) (rest := [.int 0, .ref qu]) rfl rfl dL_shift_4 (List.range W0.length) [W0.length] (rng_C _ _) (rng_R _ _) (rng_hnd _) rfl rfl [] ⟨0, 9, 12, 13⟩ [] rfl (fun _ h => nomatch h) (by decide) (by decide) (by decide +kernel) (by decide +kernel) (fun q => ?_)
  show Jt X ((qu, .inl (gJ X.1, 1, .inr (.inl uO))) :: W0) 1 6 12 _ [.ref q]
  refine j_astore_n (lv' := [(3, .ref q), (0, .ref h7), (1, .int p1), (2, .ref qu)]) C dL_shift_12 rfl (by decide) rfl ?_
  refine j_iconst C (v := 1) dL_shift_13 (by decide) ?_
  exact j_iret C hQ rfl dL_shift_14 (Nat.le_of_ble_eq_true rfl) (Nat.le_of_ble_eq_true rfl) ⟨rfl, rfl⟩
abbrev rm_L_keep : Room := { frames := 7, cells := 1, slots := 6, locals := 158 }
theorem k_L_keep : CfW yL_keep wsL_keep cL_keep 4 (some .int) [(0, 9, 12, 13)] 3 := ⟨⟨_, rfl⟩, by decide +kernel, by decide +kernel, by decide +kernel⟩
theorem r_L_keep (G : CG) (hl : (gL G).stackTraces = false) (h7 qu : Nat) (p1 : Int32) (W0 W1 : va_W) (fs : List Value) (uO : Nat → Int64) (r : Int32) (hrv : W0[0]? = some (h7, .inr (7, fs))) (hc : Ct G yX7_keep wsX7_keep rm_X7_keep [.ref h7, .int p1] W0 (fin1 (some (.int r)) W1) 1 6) : Ct G yL_keep wsL_keep rm_L_keep [.ref h7, .int p1, .ref qu] (W0 ++ [(qu, .inl (gJ G, 1, .inr (.inl uO)))]) (fin1 (some (.int 0)) ((qu, .inl (gJ G, 1, .inr (.inl (vp_updL uO 0 r.toInt64)))) :: W1)) 1 6 := by
  refine Ct.ofH (cc := cL_keep) (N := 4) (ret := some .int) (hh := [(0, 9, 12, 13)]) RL (by decide) rfl rfl hl (Nat.le_of_ble_eq_true rfl) (lv := [(0, .ref h7), (1, .int p1), (2, .ref qu)]) rfl (fun X hXG C hTab hQ => ?_)
  subst hXG
  refine j_aload_n C dL_keep_0 rfl 2 rfl ?_
  refine j_iconst C (v := 0) dL_keep_1 (by decide) ?_
  refine j_aload_n C dL_keep_2 rfl 0 rfl ?_
  refine j_iload_n C dL_keep_3 rfl 1 rfl ?_
  refine j_callV C hc fin1_ne k_X7_keep gL_keep_X7_keep rfl (ci := 7) (q0 := 0) (T := TX7) (Nn := 8) rfl hrv (As := [.int p1]) (rest := [.int 0, .ref qu]) rfl rfl dL_keep_4 (List.range W0.length) [W0.length] (rng_C _ _) (rng_R _ _) (rng_hnd _) ⟨Nat.le_of_ble_eq_true rfl, Nat.le_of_ble_eq_true rfl, rfl, rfl, Nat.le_of_ble_eq_true rfl, Nat.le_of_ble_eq_true rfl⟩ (Nat.le_of_ble_eq_true rfl) (fun v w1 hf => ?_)
  obtain ⟨hv, rfl⟩ := hf
  cases hv
  show Jt X ((qu, .inl (gJ X.1, 1, .inr (.inl uO))) :: w1) 1 6 7 _ [.int r, .int 0, .ref qu]
  refine j_i2l C dL_keep_7 ?_
  refine j_last (ws' := (qu, .inl (gJ X.1, 1, .inr (.inl (vp_updL uO 0 r.toInt64)))) :: w1) C 0 rfl vin0 rfl dL_keep_8 ?_
  refine j_goto C (tgt := 15) dL_keep_9 (by decide) ?_
  refine j_iconst C (v := 0) dL_keep_15 (by decide) ?_
  exact j_iret C hQ rfl dL_keep_16 (Nat.le_of_ble_eq_true rfl) (Nat.le_of_ble_eq_true rfl) ⟨rfl, rfl⟩
theorem tA_L_keep (G : CG) (hl : (gL G).stackTraces = false) (h7 qu : Nat) (p1 : Int32) (W0 W1 : va_W) (fs : List Value) (uO : Nat → Int64) (r : Int32) (hrv : W0[0]? = some (h7, .inr (7, fs))) (hc : Ct G yX7_keep wsX7_keep rm_X7_keep [.ref h7, .int p1] W0 (finT "java/lang/IllegalArgumentException" W0) 1 6) : Ct G yL_keep wsL_keep rm_L_keep [.ref h7, .int p1, .ref qu] (W0 ++ [(qu, .inl (gJ G, 1, .inr (.inl uO)))]) (fin1 (some (.int 1)) ((qu, .inl (gJ G, 1, .inr (.inl uO))) :: W0)) 1 6 := by
  refine Ct.ofH (cc := cL_keep) (N := 4) (ret := some .int) (hh := [(0, 9, 12, 13)]) RL (by decide) rfl rfl hl (Nat.le_of_ble_eq_true rfl) (lv := [(0, .ref h7), (1, .int p1), (2, .ref qu)]) rfl (fun X hXG C hTab hQ => ?_)
  subst hXG
  refine j_aload_n C dL_keep_0 rfl 2 rfl ?_
  refine j_iconst C (v := 0) dL_keep_1 (by decide) ?_
  refine j_aload_n C dL_keep_2 rfl 0 rfl ?_
  refine j_iload_n C dL_keep_3 rfl 1 rfl ?_
  refine j_cVT C hTab hc k_X7_keep gL_keep_X7_keep rfl (ci := 7) (q0 := 0) (T := TX7) (Nn := 8) rfl hrv (As := [.int p1]) (rest := [.int 0, .ref qu]) rfl rfl dL_keep_4 (List.range W0.length) [W0.length] (rng_C _ _) (rng_R _ _) (rng_hnd _) rfl rfl [] ⟨0, 9, 12, 13⟩ [] rfl (fun _ h => nomatch h) (by decide) (by decide) (by decide +kernel) (by decide +kernel) (fun q => ?_)
  show Jt X ((qu, .inl (gJ X.1, 1, .inr (.inl uO))) :: W0) 1 6 12 _ [.ref q]
  refine j_astore_n (lv' := [(3, .ref q), (0, .ref h7), (1, .int p1), (2, .ref qu)]) C dL_keep_12 rfl (by decide) rfl ?_
  refine j_iconst C (v := 1) dL_keep_13 (by decide) ?_
  exact j_iret C hQ rfl dL_keep_14 (Nat.le_of_ble_eq_true rfl) (Nat.le_of_ble_eq_true rfl) ⟨rfl, rfl⟩
abbrev rm_L_set : Room := { frames := 7, cells := 1, slots := 6, locals := 134 }
theorem k_L_set : CfW yL_set wsL_set cL_set 4 (some .int) [(0, 9, 12, 13)] 3 := ⟨⟨_, rfl⟩, by decide +kernel, by decide +kernel, by decide +kernel⟩
theorem r_L_set (G : CG) (hl : (gL G).stackTraces = false) (h7 qu : Nat) (p1 : Int32) (W0 W1 : va_W) (fs : List Value) (uO : Nat → Int64) (r : Int32) (hrv : W0[0]? = some (h7, .inr (7, fs))) (hc : Ct G yX7_set wsX7_set rm_X7_set [.ref h7, .int p1] W0 (fin1 (some (.int r)) W1) 1 6) : Ct G yL_set wsL_set rm_L_set [.ref h7, .int p1, .ref qu] (W0 ++ [(qu, .inl (gJ G, 1, .inr (.inl uO)))]) (fin1 (some (.int 0)) ((qu, .inl (gJ G, 1, .inr (.inl (vp_updL uO 0 r.toInt64)))) :: W1)) 1 6 := by
  refine Ct.ofH (cc := cL_set) (N := 4) (ret := some .int) (hh := [(0, 9, 12, 13)]) RL (by decide) rfl rfl hl (Nat.le_of_ble_eq_true rfl) (lv := [(0, .ref h7), (1, .int p1), (2, .ref qu)]) rfl (fun X hXG C hTab hQ => ?_)
  subst hXG
  refine j_aload_n C dL_set_0 rfl 2 rfl ?_
  refine j_iconst C (v := 0) dL_set_1 (by decide) ?_
  refine j_aload_n C dL_set_2 rfl 0 rfl ?_
  refine j_iload_n C dL_set_3 rfl 1 rfl ?_
  refine j_callV C hc fin1_ne k_X7_set gL_set_X7_set rfl (ci := 7) (q0 := 0) (T := TX7) (Nn := 8) rfl hrv (As := [.int p1]) (rest := [.int 0, .ref qu]) rfl rfl dL_set_4 (List.range W0.length) [W0.length] (rng_C _ _) (rng_R _ _) (rng_hnd _) ⟨Nat.le_of_ble_eq_true rfl, Nat.le_of_ble_eq_true rfl, rfl, rfl, Nat.le_of_ble_eq_true rfl, Nat.le_of_ble_eq_true rfl⟩ (Nat.le_of_ble_eq_true rfl) (fun v w1 hf => ?_)
  obtain ⟨hv, rfl⟩ := hf
  cases hv
  show Jt X ((qu, .inl (gJ X.1, 1, .inr (.inl uO))) :: w1) 1 6 7 _ [.int r, .int 0, .ref qu]
  refine j_i2l C dL_set_7 ?_
  refine j_last (ws' := (qu, .inl (gJ X.1, 1, .inr (.inl (vp_updL uO 0 r.toInt64)))) :: w1) C 0 rfl vin0 rfl dL_set_8 ?_
  refine j_goto C (tgt := 15) dL_set_9 (by decide) ?_
  refine j_iconst C (v := 0) dL_set_15 (by decide) ?_
  exact j_iret C hQ rfl dL_set_16 (Nat.le_of_ble_eq_true rfl) (Nat.le_of_ble_eq_true rfl) ⟨rfl, rfl⟩
theorem tA_L_set (G : CG) (hl : (gL G).stackTraces = false) (h7 qu : Nat) (p1 : Int32) (W0 W1 : va_W) (fs : List Value) (uO : Nat → Int64) (r : Int32) (hrv : W0[0]? = some (h7, .inr (7, fs))) (hc : Ct G yX7_set wsX7_set rm_X7_set [.ref h7, .int p1] W0 (finT "java/lang/IllegalArgumentException" W0) 1 6) : Ct G yL_set wsL_set rm_L_set [.ref h7, .int p1, .ref qu] (W0 ++ [(qu, .inl (gJ G, 1, .inr (.inl uO)))]) (fin1 (some (.int 1)) ((qu, .inl (gJ G, 1, .inr (.inl uO))) :: W0)) 1 6 := by
  refine Ct.ofH (cc := cL_set) (N := 4) (ret := some .int) (hh := [(0, 9, 12, 13)]) RL (by decide) rfl rfl hl (Nat.le_of_ble_eq_true rfl) (lv := [(0, .ref h7), (1, .int p1), (2, .ref qu)]) rfl (fun X hXG C hTab hQ => ?_)
  subst hXG
  refine j_aload_n C dL_set_0 rfl 2 rfl ?_
  refine j_iconst C (v := 0) dL_set_1 (by decide) ?_
  refine j_aload_n C dL_set_2 rfl 0 rfl ?_
  refine j_iload_n C dL_set_3 rfl 1 rfl ?_
  refine j_cVT C hTab hc k_X7_set gL_set_X7_set rfl (ci := 7) (q0 := 0) (T := TX7) (Nn := 8) rfl hrv (As := [.int p1]) (rest := [.int 0, .ref qu]) rfl rfl dL_set_4 (List.range W0.length) [W0.length] (rng_C _ _) (rng_R _ _) (rng_hnd _) rfl rfl [] ⟨0, 9, 12, 13⟩ [] rfl (fun _ h => nomatch h) (by decide) (by decide) (by decide +kernel) (by decide +kernel) (fun q => ?_)
  show Jt X ((qu, .inl (gJ X.1, 1, .inr (.inl uO))) :: W0) 1 6 12 _ [.ref q]
  refine j_astore_n (lv' := [(3, .ref q), (0, .ref h7), (1, .int p1), (2, .ref qu)]) C dL_set_12 rfl (by decide) rfl ?_
  refine j_iconst C (v := 1) dL_set_13 (by decide) ?_
  exact j_iret C hQ rfl dL_set_14 (Nat.le_of_ble_eq_true rfl) (Nat.le_of_ble_eq_true rfl) ⟨rfl, rfl⟩
abbrev rm_L_append : Room := { frames := 7, cells := 1, slots := 6, locals := 111 }
theorem k_L_append : CfW yL_append wsL_append cL_append 4 (some .int) [(0, 9, 12, 13), (0, 9, 15, 25)] 3 := ⟨⟨_, rfl⟩, by decide +kernel, by decide +kernel, by decide +kernel⟩
theorem r_L_append (G : CG) (hl : (gL G).stackTraces = false) (h7 qu : Nat) (p1 : Int32) (W0 W1 : va_W) (fs : List Value) (uO : Nat → Int64) (r : Int32) (hrv : W0[0]? = some (h7, .inr (7, fs))) (hc : Ct G yX7_append wsX7_append rm_X7_append [.ref h7, .int p1] W0 (fin1 (some (.int r)) W1) 1 6) : Ct G yL_append wsL_append rm_L_append [.ref h7, .int p1, .ref qu] (W0 ++ [(qu, .inl (gJ G, 1, .inr (.inl uO)))]) (fin1 (some (.int 0)) ((qu, .inl (gJ G, 1, .inr (.inl (vp_updL uO 0 r.toInt64)))) :: W1)) 1 6 := by
  refine Ct.ofH (cc := cL_append) (N := 4) (ret := some .int) (hh := [(0, 9, 12, 13), (0, 9, 15, 25)]) RL (by decide) rfl rfl hl (Nat.le_of_ble_eq_true rfl) (lv := [(0, .ref h7), (1, .int p1), (2, .ref qu)]) rfl (fun X hXG C hTab hQ => ?_)
  subst hXG
  refine j_aload_n C dL_append_0 rfl 2 rfl ?_
  refine j_iconst C (v := 0) dL_append_1 (by decide) ?_
  refine j_aload_n C dL_append_2 rfl 0 rfl ?_
  refine j_iload_n C dL_append_3 rfl 1 rfl ?_
  refine j_callV C hc fin1_ne k_X7_append gL_append_X7_append rfl (ci := 7) (q0 := 0) (T := TX7) (Nn := 8) rfl hrv (As := [.int p1]) (rest := [.int 0, .ref qu]) rfl rfl dL_append_4 (List.range W0.length) [W0.length] (rng_C _ _) (rng_R _ _) (rng_hnd _) ⟨Nat.le_of_ble_eq_true rfl, Nat.le_of_ble_eq_true rfl, rfl, rfl, Nat.le_of_ble_eq_true rfl, Nat.le_of_ble_eq_true rfl⟩ (Nat.le_of_ble_eq_true rfl) (fun v w1 hf => ?_)
  obtain ⟨hv, rfl⟩ := hf
  cases hv
  show Jt X ((qu, .inl (gJ X.1, 1, .inr (.inl uO))) :: w1) 1 6 7 _ [.int r, .int 0, .ref qu]
  refine j_i2l C dL_append_7 ?_
  refine j_last (ws' := (qu, .inl (gJ X.1, 1, .inr (.inl (vp_updL uO 0 r.toInt64)))) :: w1) C 0 rfl vin0 rfl dL_append_8 ?_
  refine j_goto C (tgt := 18) dL_append_9 (by decide) ?_
  refine j_iconst C (v := 0) dL_append_18 (by decide) ?_
  exact j_iret C hQ rfl dL_append_19 (Nat.le_of_ble_eq_true rfl) (Nat.le_of_ble_eq_true rfl) ⟨rfl, rfl⟩
theorem tA_L_append (G : CG) (hl : (gL G).stackTraces = false) (h7 qu : Nat) (p1 : Int32) (W0 W1 : va_W) (fs : List Value) (uO : Nat → Int64) (r : Int32) (hrv : W0[0]? = some (h7, .inr (7, fs))) (hc : Ct G yX7_append wsX7_append rm_X7_append [.ref h7, .int p1] W0 (finT "java/lang/IllegalArgumentException" W0) 1 6) : Ct G yL_append wsL_append rm_L_append [.ref h7, .int p1, .ref qu] (W0 ++ [(qu, .inl (gJ G, 1, .inr (.inl uO)))]) (fin1 (some (.int 1)) ((qu, .inl (gJ G, 1, .inr (.inl uO))) :: W0)) 1 6 := by
  refine Ct.ofH (cc := cL_append) (N := 4) (ret := some .int) (hh := [(0, 9, 12, 13), (0, 9, 15, 25)]) RL (by decide) rfl rfl hl (Nat.le_of_ble_eq_true rfl) (lv := [(0, .ref h7), (1, .int p1), (2, .ref qu)]) rfl (fun X hXG C hTab hQ => ?_)
  subst hXG
  refine j_aload_n C dL_append_0 rfl 2 rfl ?_
  refine j_iconst C (v := 0) dL_append_1 (by decide) ?_
  refine j_aload_n C dL_append_2 rfl 0 rfl ?_
  refine j_iload_n C dL_append_3 rfl 1 rfl ?_
  refine j_cVT C hTab hc k_X7_append gL_append_X7_append rfl (ci := 7) (q0 := 0) (T := TX7) (Nn := 8) rfl hrv (As := [.int p1]) (rest := [.int 0, .ref qu]) rfl rfl dL_append_4 (List.range W0.length) [W0.length] (rng_C _ _) (rng_R _ _) (rng_hnd _) rfl rfl [] ⟨0, 9, 12, 13⟩ [⟨0, 9, 15, 25⟩] rfl (fun _ h => nomatch h) (by decide) (by decide) (by decide +kernel) (by decide +kernel) (fun q => ?_)
  show Jt X ((qu, .inl (gJ X.1, 1, .inr (.inl uO))) :: W0) 1 6 12 _ [.ref q]
  refine j_astore_n (lv' := [(3, .ref q), (0, .ref h7), (1, .int p1), (2, .ref qu)]) C dL_append_12 rfl (by decide) rfl ?_
  refine j_iconst C (v := 1) dL_append_13 (by decide) ?_
  exact j_iret C hQ rfl dL_append_14 (Nat.le_of_ble_eq_true rfl) (Nat.le_of_ble_eq_true rfl) ⟨rfl, rfl⟩
theorem tS_L_append (G : CG) (hl : (gL G).stackTraces = false) (h7 qu : Nat) (p1 : Int32) (W0 W1 : va_W) (fs : List Value) (uO : Nat → Int64) (r : Int32) (hrv : W0[0]? = some (h7, .inr (7, fs))) (hc : Ct G yX7_append wsX7_append rm_X7_append [.ref h7, .int p1] W0 (finT "java/lang/IllegalStateException" W0) 1 6) : Ct G yL_append wsL_append rm_L_append [.ref h7, .int p1, .ref qu] (W0 ++ [(qu, .inl (gJ G, 1, .inr (.inl uO)))]) (fin1 (some (.int 2)) ((qu, .inl (gJ G, 1, .inr (.inl uO))) :: W0)) 1 6 := by
  refine Ct.ofH (cc := cL_append) (N := 4) (ret := some .int) (hh := [(0, 9, 12, 13), (0, 9, 15, 25)]) RL (by decide) rfl rfl hl (Nat.le_of_ble_eq_true rfl) (lv := [(0, .ref h7), (1, .int p1), (2, .ref qu)]) rfl (fun X hXG C hTab hQ => ?_)
  subst hXG
  refine j_aload_n C dL_append_0 rfl 2 rfl ?_
  refine j_iconst C (v := 0) dL_append_1 (by decide) ?_
  refine j_aload_n C dL_append_2 rfl 0 rfl ?_
  refine j_iload_n C dL_append_3 rfl 1 rfl ?_
  refine j_cVT C hTab hc k_X7_append gL_append_X7_append rfl (ci := 7) (q0 := 0) (T := TX7) (Nn := 8) rfl hrv (As := [.int p1]) (rest := [.int 0, .ref qu]) rfl rfl dL_append_4 (List.range W0.length) [W0.length] (rng_C _ _) (rng_R _ _) (rng_hnd _) rfl rfl [⟨0, 9, 12, 13⟩] ⟨0, 9, 15, 25⟩ [] rfl (List.forall_mem_cons.mpr ⟨⟨by decide, "java/lang/IllegalArgumentException", by decide +kernel, by decide +kernel⟩, (fun _ h => nomatch h)⟩) (by decide) (by decide) (by decide +kernel) (by decide +kernel) (fun q => ?_)
  show Jt X ((qu, .inl (gJ X.1, 1, .inr (.inl uO))) :: W0) 1 6 15 _ [.ref q]
  refine j_astore_n (lv' := [(3, .ref q), (0, .ref h7), (1, .int p1), (2, .ref qu)]) C dL_append_15 rfl (by decide) rfl ?_
  refine j_iconst C (v := 2) dL_append_16 (by decide) ?_
  exact j_iret C hQ rfl dL_append_17 (Nat.le_of_ble_eq_true rfl) (Nat.le_of_ble_eq_true rfl) ⟨rfl, rfl⟩
abbrev rm_L_read : Room := { frames := 7, cells := 1, slots := 6, locals := 135 }
theorem k_L_read : CfW yL_read wsL_read cL_read 3 (some .int) [(0, 8, 11, 13)] 2 := ⟨⟨_, rfl⟩, by decide +kernel, by decide +kernel, by decide +kernel⟩
theorem r_L_read (G : CG) (hl : (gL G).stackTraces = false) (h7 qu : Nat) (W0 W1 : va_W) (fs : List Value) (uO : Nat → Int64) (r : Int32) (hrv : W0[0]? = some (h7, .inr (7, fs))) (hc : Ct G yX7_read wsX7_read rm_X7_read [.ref h7] W0 (fin1 (some (.int r)) W1) 1 6) : Ct G yL_read wsL_read rm_L_read [.ref h7, .ref qu] (W0 ++ [(qu, .inl (gJ G, 1, .inr (.inl uO)))]) (fin1 (some (.int 0)) ((qu, .inl (gJ G, 1, .inr (.inl (vp_updL uO 0 r.toInt64)))) :: W1)) 1 6 := by
  refine Ct.ofH (cc := cL_read) (N := 3) (ret := some .int) (hh := [(0, 8, 11, 13)]) RL (by decide) rfl rfl hl (Nat.le_of_ble_eq_true rfl) (lv := [(0, .ref h7), (1, .ref qu)]) rfl (fun X hXG C hTab hQ => ?_)
  subst hXG
  refine j_aload_n C dL_read_0 rfl 1 rfl ?_
  refine j_iconst C (v := 0) dL_read_1 (by decide) ?_
  refine j_aload_n C dL_read_2 rfl 0 rfl ?_
  refine j_callV C hc fin1_ne k_X7_read gL_read_X7_read rfl (ci := 7) (q0 := 0) (T := TX7) (Nn := 8) rfl hrv (As := []) (rest := [.int 0, .ref qu]) rfl rfl dL_read_3 (List.range W0.length) [W0.length] (rng_C _ _) (rng_R _ _) (rng_hnd _) ⟨Nat.le_of_ble_eq_true rfl, Nat.le_of_ble_eq_true rfl, rfl, rfl, Nat.le_of_ble_eq_true rfl, Nat.le_of_ble_eq_true rfl⟩ (Nat.le_of_ble_eq_true rfl) (fun v w1 hf => ?_)
  obtain ⟨hv, rfl⟩ := hf
  cases hv
  show Jt X ((qu, .inl (gJ X.1, 1, .inr (.inl uO))) :: w1) 1 6 6 _ [.int r, .int 0, .ref qu]
  refine j_i2l C dL_read_6 ?_
  refine j_last (ws' := (qu, .inl (gJ X.1, 1, .inr (.inl (vp_updL uO 0 r.toInt64)))) :: w1) C 0 rfl vin0 rfl dL_read_7 ?_
  refine j_goto C (tgt := 14) dL_read_8 (by decide) ?_
  refine j_iconst C (v := 0) dL_read_14 (by decide) ?_
  exact j_iret C hQ rfl dL_read_15 (Nat.le_of_ble_eq_true rfl) (Nat.le_of_ble_eq_true rfl) ⟨rfl, rfl⟩
theorem tA_L_read (G : CG) (hl : (gL G).stackTraces = false) (h7 qu : Nat) (W0 W1 : va_W) (fs : List Value) (uO : Nat → Int64) (r : Int32) (hrv : W0[0]? = some (h7, .inr (7, fs))) (hc : Ct G yX7_read wsX7_read rm_X7_read [.ref h7] W0 (finT "java/lang/IllegalArgumentException" W0) 1 6) : Ct G yL_read wsL_read rm_L_read [.ref h7, .ref qu] (W0 ++ [(qu, .inl (gJ G, 1, .inr (.inl uO)))]) (fin1 (some (.int 1)) ((qu, .inl (gJ G, 1, .inr (.inl uO))) :: W0)) 1 6 := by
  refine Ct.ofH (cc := cL_read) (N := 3) (ret := some .int) (hh := [(0, 8, 11, 13)]) RL (by decide) rfl rfl hl (Nat.le_of_ble_eq_true rfl) (lv := [(0, .ref h7), (1, .ref qu)]) rfl (fun X hXG C hTab hQ => ?_)
  subst hXG
  refine j_aload_n C dL_read_0 rfl 1 rfl ?_
  refine j_iconst C (v := 0) dL_read_1 (by decide) ?_
  refine j_aload_n C dL_read_2 rfl 0 rfl ?_
  refine j_cVT C hTab hc k_X7_read gL_read_X7_read rfl (ci := 7) (q0 := 0) (T := TX7) (Nn := 8) rfl hrv (As := []) (rest := [.int 0, .ref qu]) rfl rfl dL_read_3 (List.range W0.length) [W0.length] (rng_C _ _) (rng_R _ _) (rng_hnd _) rfl rfl [] ⟨0, 8, 11, 13⟩ [] rfl (fun _ h => nomatch h) (by decide) (by decide) (by decide +kernel) (by decide +kernel) (fun q => ?_)
  show Jt X ((qu, .inl (gJ X.1, 1, .inr (.inl uO))) :: W0) 1 6 11 _ [.ref q]
  refine j_astore_n (lv' := [(2, .ref q), (0, .ref h7), (1, .ref qu)]) C dL_read_11 rfl (by decide) rfl ?_
  refine j_iconst C (v := 1) dL_read_12 (by decide) ?_
  exact j_iret C hQ rfl dL_read_13 (Nat.le_of_ble_eq_true rfl) (Nat.le_of_ble_eq_true rfl) ⟨rfl, rfl⟩
abbrev rm_L_undo : Room := { frames := 7, cells := 1, slots := 6, locals := 120 }
theorem k_L_undo : CfW yL_undo wsL_undo cL_undo 3 (some .int) [(0, 8, 11, 25)] 2 := ⟨⟨_, rfl⟩, by decide +kernel, by decide +kernel, by decide +kernel⟩
theorem r_L_undo (G : CG) (hl : (gL G).stackTraces = false) (h7 qu : Nat) (W0 W1 : va_W) (fs : List Value) (uO : Nat → Int64) (r : Int32) (hrv : W0[0]? = some (h7, .inr (7, fs))) (hc : Ct G yX7_undo wsX7_undo rm_X7_undo [.ref h7] W0 (fin1 (some (.int r)) W1) 1 6) : Ct G yL_undo wsL_undo rm_L_undo [.ref h7, .ref qu] (W0 ++ [(qu, .inl (gJ G, 1, .inr (.inl uO)))]) (fin1 (some (.int 0)) ((qu, .inl (gJ G, 1, .inr (.inl (vp_updL uO 0 r.toInt64)))) :: W1)) 1 6 := by
  refine Ct.ofH (cc := cL_undo) (N := 3) (ret := some .int) (hh := [(0, 8, 11, 25)]) RL (by decide) rfl rfl hl (Nat.le_of_ble_eq_true rfl) (lv := [(0, .ref h7), (1, .ref qu)]) rfl (fun X hXG C hTab hQ => ?_)
  subst hXG
  refine j_aload_n C dL_undo_0 rfl 1 rfl ?_
  refine j_iconst C (v := 0) dL_undo_1 (by decide) ?_
  refine j_aload_n C dL_undo_2 rfl 0 rfl ?_
  refine j_callV C hc fin1_ne k_X7_undo gL_undo_X7_undo rfl (ci := 7) (q0 := 0) (T := TX7) (Nn := 8) rfl hrv (As := []) (rest := [.int 0, .ref qu]) rfl rfl dL_undo_3 (List.range W0.length) [W0.length] (rng_C _ _) (rng_R _ _) (rng_hnd _) ⟨Nat.le_of_ble_eq_true rfl, Nat.le_of_ble_eq_true rfl, rfl, rfl, Nat.le_of_ble_eq_true rfl, Nat.le_of_ble_eq_true rfl⟩ (Nat.le_of_ble_eq_true rfl) (fun v w1 hf => ?_)
  obtain ⟨hv, rfl⟩ := hf
  cases hv
  show Jt X ((qu, .inl (gJ X.1, 1, .inr (.inl uO))) :: w1) 1 6 6 _ [.int r, .int 0, .ref qu]
  refine j_i2l C dL_undo_6 ?_
  refine j_last (ws' := (qu, .inl (gJ X.1, 1, .inr (.inl (vp_updL uO 0 r.toInt64)))) :: w1) C 0 rfl vin0 rfl dL_undo_7 ?_
  refine j_goto C (tgt := 14) dL_undo_8 (by decide) ?_
  refine j_iconst C (v := 0) dL_undo_14 (by decide) ?_
  exact j_iret C hQ rfl dL_undo_15 (Nat.le_of_ble_eq_true rfl) (Nat.le_of_ble_eq_true rfl) ⟨rfl, rfl⟩
theorem tS_L_undo (G : CG) (hl : (gL G).stackTraces = false) (h7 qu : Nat) (W0 W1 : va_W) (fs : List Value) (uO : Nat → Int64) (r : Int32) (hrv : W0[0]? = some (h7, .inr (7, fs))) (hc : Ct G yX7_undo wsX7_undo rm_X7_undo [.ref h7] W0 (finT "java/lang/IllegalStateException" W0) 1 6) : Ct G yL_undo wsL_undo rm_L_undo [.ref h7, .ref qu] (W0 ++ [(qu, .inl (gJ G, 1, .inr (.inl uO)))]) (fin1 (some (.int 1)) ((qu, .inl (gJ G, 1, .inr (.inl uO))) :: W0)) 1 6 := by
  refine Ct.ofH (cc := cL_undo) (N := 3) (ret := some .int) (hh := [(0, 8, 11, 25)]) RL (by decide) rfl rfl hl (Nat.le_of_ble_eq_true rfl) (lv := [(0, .ref h7), (1, .ref qu)]) rfl (fun X hXG C hTab hQ => ?_)
  subst hXG
  refine j_aload_n C dL_undo_0 rfl 1 rfl ?_
  refine j_iconst C (v := 0) dL_undo_1 (by decide) ?_
  refine j_aload_n C dL_undo_2 rfl 0 rfl ?_
  refine j_cVT C hTab hc k_X7_undo gL_undo_X7_undo rfl (ci := 7) (q0 := 0) (T := TX7) (Nn := 8) rfl hrv (As := []) (rest := [.int 0, .ref qu]) rfl rfl dL_undo_3 (List.range W0.length) [W0.length] (rng_C _ _) (rng_R _ _) (rng_hnd _) rfl rfl [] ⟨0, 8, 11, 25⟩ [] rfl (fun _ h => nomatch h) (by decide) (by decide) (by decide +kernel) (by decide +kernel) (fun q => ?_)
  show Jt X ((qu, .inl (gJ X.1, 1, .inr (.inl uO))) :: W0) 1 6 11 _ [.ref q]
  refine j_astore_n (lv' := [(2, .ref q), (0, .ref h7), (1, .ref qu)]) C dL_undo_11 rfl (by decide) rfl ?_
  refine j_iconst C (v := 1) dL_undo_12 (by decide) ?_
  exact j_iret C hQ rfl dL_undo_13 (Nat.le_of_ble_eq_true rfl) (Nat.le_of_ble_eq_true rfl) ⟨rfl, rfl⟩
abbrev rm_L_at : Room := { frames := 7, cells := 1, slots := 6, locals := 113 }
theorem k_L_at : CfW yL_at wsL_at cL_at 6 (some .int) [(0, 12, 15, 19)] 5 := ⟨⟨_, rfl⟩, by decide +kernel, by decide +kernel, by decide +kernel⟩
theorem r_L_at (G : CG) (hl : (gL G).stackTraces = false) (h7 qu : Nat) (p1 p2 p3 : Int32) (W0 W1 : va_W) (fs : List Value) (uO : Nat → Int64) (r : Int32) (hrv : W0[0]? = some (h7, .inr (7, fs))) (hc : Ct G yX7_at wsX7_at rm_X7_at [.ref h7, .int p1, .int p2, .int p3] W0 (fin1 (some (.int r)) W1) 1 6) : Ct G yL_at wsL_at rm_L_at [.ref h7, .int p1, .int p2, .int p3, .ref qu] (W0 ++ [(qu, .inl (gJ G, 1, .inr (.inl uO)))]) (fin1 (some (.int 0)) ((qu, .inl (gJ G, 1, .inr (.inl (vp_updL uO 0 r.toInt64)))) :: W1)) 1 6 := by
  refine Ct.ofH (cc := cL_at) (N := 6) (ret := some .int) (hh := [(0, 12, 15, 19)]) RL (by decide) rfl rfl hl (Nat.le_of_ble_eq_true rfl) (lv := [(0, .ref h7), (1, .int p1), (2, .int p2), (3, .int p3), (4, .ref qu)]) rfl (fun X hXG C hTab hQ => ?_)
  subst hXG
  refine j_aload C dL_at_0 4 rfl ?_
  refine j_iconst C (v := 0) dL_at_2 (by decide) ?_
  refine j_aload_n C dL_at_3 rfl 0 rfl ?_
  refine j_iload_n C dL_at_4 rfl 1 rfl ?_
  refine j_iload_n C dL_at_5 rfl 2 rfl ?_
  refine j_iload_n C dL_at_6 rfl 3 rfl ?_
  refine j_callV C hc fin1_ne k_X7_at gL_at_X7_at rfl (ci := 7) (q0 := 0) (T := TX7) (Nn := 8) rfl hrv (As := [.int p1, .int p2, .int p3]) (rest := [.int 0, .ref qu]) rfl rfl dL_at_7 (List.range W0.length) [W0.length] (rng_C _ _) (rng_R _ _) (rng_hnd _) ⟨Nat.le_of_ble_eq_true rfl, Nat.le_of_ble_eq_true rfl, rfl, rfl, Nat.le_of_ble_eq_true rfl, Nat.le_of_ble_eq_true rfl⟩ (Nat.le_of_ble_eq_true rfl) (fun v w1 hf => ?_)
  obtain ⟨hv, rfl⟩ := hf
  cases hv
  show Jt X ((qu, .inl (gJ X.1, 1, .inr (.inl uO))) :: w1) 1 6 10 _ [.int r, .int 0, .ref qu]
  refine j_i2l C dL_at_10 ?_
  refine j_last (ws' := (qu, .inl (gJ X.1, 1, .inr (.inl (vp_updL uO 0 r.toInt64)))) :: w1) C 0 rfl vin0 rfl dL_at_11 ?_
  refine j_goto C (tgt := 19) dL_at_12 (by decide) ?_
  refine j_iconst C (v := 0) dL_at_19 (by decide) ?_
  exact j_iret C hQ rfl dL_at_20 (Nat.le_of_ble_eq_true rfl) (Nat.le_of_ble_eq_true rfl) ⟨rfl, rfl⟩
theorem tI_L_at (G : CG) (hl : (gL G).stackTraces = false) (h7 qu : Nat) (p1 p2 p3 : Int32) (W0 W1 : va_W) (fs : List Value) (uO : Nat → Int64) (r : Int32) (hrv : W0[0]? = some (h7, .inr (7, fs))) (hc : Ct G yX7_at wsX7_at rm_X7_at [.ref h7, .int p1, .int p2, .int p3] W0 (finT "java/lang/IndexOutOfBoundsException" W0) 1 6) : Ct G yL_at wsL_at rm_L_at [.ref h7, .int p1, .int p2, .int p3, .ref qu] (W0 ++ [(qu, .inl (gJ G, 1, .inr (.inl uO)))]) (fin1 (some (.int 1)) ((qu, .inl (gJ G, 1, .inr (.inl uO))) :: W0)) 1 6 := by
  refine Ct.ofH (cc := cL_at) (N := 6) (ret := some .int) (hh := [(0, 12, 15, 19)]) RL (by decide) rfl rfl hl (Nat.le_of_ble_eq_true rfl) (lv := [(0, .ref h7), (1, .int p1), (2, .int p2), (3, .int p3), (4, .ref qu)]) rfl (fun X hXG C hTab hQ => ?_)
  subst hXG
  refine j_aload C dL_at_0 4 rfl ?_
  refine j_iconst C (v := 0) dL_at_2 (by decide) ?_
  refine j_aload_n C dL_at_3 rfl 0 rfl ?_
  refine j_iload_n C dL_at_4 rfl 1 rfl ?_
  refine j_iload_n C dL_at_5 rfl 2 rfl ?_
  refine j_iload_n C dL_at_6 rfl 3 rfl ?_
  refine j_cVT C hTab hc k_X7_at gL_at_X7_at rfl (ci := 7) (q0 := 0) (T := TX7) (Nn := 8) rfl hrv (As := [.int p1, .int p2, .int p3]) (rest := [.int 0, .ref qu]) rfl rfl dL_at_7 (List.range W0.length) [W0.length] (rng_C _ _) (rng_R _ _) (rng_hnd _) rfl rfl [] ⟨0, 12, 15, 19⟩ [] rfl (fun _ h => nomatch h) (by decide) (by decide) (by decide +kernel) (by decide +kernel) (fun q => ?_)
  show Jt X ((qu, .inl (gJ X.1, 1, .inr (.inl uO))) :: W0) 1 6 15 _ [.ref q]
  refine j_astore (lv' := [(5, .ref q), (0, .ref h7), (1, .int p1), (2, .int p2), (3, .int p3), (4, .ref qu)]) C dL_at_15 (by decide) rfl ?_
  refine j_iconst C (v := 1) dL_at_17 (by decide) ?_
  exact j_iret C hQ rfl dL_at_18 (Nat.le_of_ble_eq_true rfl) (Nat.le_of_ble_eq_true rfl) ⟨rfl, rfl⟩
abbrev rm_L_line : Room := { frames := 7, cells := 1, slots := 6, locals := 113 }
theorem k_L_line : CfW yL_line wsL_line cL_line 6 (some .int) [(0, 12, 15, 19), (0, 12, 19, 13)] 5 := ⟨⟨_, rfl⟩, by decide +kernel, by decide +kernel, by decide +kernel⟩
theorem r_L_line (G : CG) (hl : (gL G).stackTraces = false) (h7 qu : Nat) (p1 p2 p3 : Int32) (W0 W1 : va_W) (fs : List Value) (uO : Nat → Int64) (r : Int32) (hrv : W0[0]? = some (h7, .inr (7, fs))) (hc : Ct G yX7_line wsX7_line rm_X7_line [.ref h7, .int p1, .int p2, .int p3] W0 (fin1 (some (.int r)) W1) 1 6) : Ct G yL_line wsL_line rm_L_line [.ref h7, .int p1, .int p2, .int p3, .ref qu] (W0 ++ [(qu, .inl (gJ G, 1, .inr (.inl uO)))]) (fin1 (some (.int 0)) ((qu, .inl (gJ G, 1, .inr (.inl (vp_updL uO 0 r.toInt64)))) :: W1)) 1 6 := by
  refine Ct.ofH (cc := cL_line) (N := 6) (ret := some .int) (hh := [(0, 12, 15, 19), (0, 12, 19, 13)]) RL (by decide) rfl rfl hl (Nat.le_of_ble_eq_true rfl) (lv := [(0, .ref h7), (1, .int p1), (2, .int p2), (3, .int p3), (4, .ref qu)]) rfl (fun X hXG C hTab hQ => ?_)
  subst hXG
  refine j_aload C dL_line_0 4 rfl ?_
  refine j_iconst C (v := 0) dL_line_2 (by decide) ?_
  refine j_aload_n C dL_line_3 rfl 0 rfl ?_
  refine j_iload_n C dL_line_4 rfl 1 rfl ?_
  refine j_iload_n C dL_line_5 rfl 2 rfl ?_
  refine j_iload_n C dL_line_6 rfl 3 rfl ?_
  refine j_callV C hc fin1_ne k_X7_line gL_line_X7_line rfl (ci := 7) (q0 := 0) (T := TX7) (Nn := 8) rfl hrv (As := [.int p1, .int p2, .int p3]) (rest := [.int 0, .ref qu]) rfl rfl dL_line_7 (List.range W0.length) [W0.length] (rng_C _ _) (rng_R _ _) (rng_hnd _) ⟨Nat.le_of_ble_eq_true rfl, Nat.le_of_ble_eq_true rfl, rfl, rfl, Nat.le_of_ble_eq_true rfl, Nat.le_of_ble_eq_true rfl⟩ (Nat.le_of_ble_eq_true rfl) (fun v w1 hf => ?_)
  obtain ⟨hv, rfl⟩ := hf
  cases hv
  show Jt X ((qu, .inl (gJ X.1, 1, .inr (.inl uO))) :: w1) 1 6 10 _ [.int r, .int 0, .ref qu]
  refine j_i2l C dL_line_10 ?_
  refine j_last (ws' := (qu, .inl (gJ X.1, 1, .inr (.inl (vp_updL uO 0 r.toInt64)))) :: w1) C 0 rfl vin0 rfl dL_line_11 ?_
  refine j_goto C (tgt := 23) dL_line_12 (by decide) ?_
  refine j_iconst C (v := 0) dL_line_23 (by decide) ?_
  exact j_iret C hQ rfl dL_line_24 (Nat.le_of_ble_eq_true rfl) (Nat.le_of_ble_eq_true rfl) ⟨rfl, rfl⟩
theorem tI_L_line (G : CG) (hl : (gL G).stackTraces = false) (h7 qu : Nat) (p1 p2 p3 : Int32) (W0 W1 : va_W) (fs : List Value) (uO : Nat → Int64) (r : Int32) (hrv : W0[0]? = some (h7, .inr (7, fs))) (hc : Ct G yX7_line wsX7_line rm_X7_line [.ref h7, .int p1, .int p2, .int p3] W0 (finT "java/lang/IndexOutOfBoundsException" W0) 1 6) : Ct G yL_line wsL_line rm_L_line [.ref h7, .int p1, .int p2, .int p3, .ref qu] (W0 ++ [(qu, .inl (gJ G, 1, .inr (.inl uO)))]) (fin1 (some (.int 1)) ((qu, .inl (gJ G, 1, .inr (.inl uO))) :: W0)) 1 6 := by
  refine Ct.ofH (cc := cL_line) (N := 6) (ret := some .int) (hh := [(0, 12, 15, 19), (0, 12, 19, 13)]) RL (by decide) rfl rfl hl (Nat.le_of_ble_eq_true rfl) (lv := [(0, .ref h7), (1, .int p1), (2, .int p2), (3, .int p3), (4, .ref qu)]) rfl (fun X hXG C hTab hQ => ?_)
  subst hXG
  refine j_aload C dL_line_0 4 rfl ?_
  refine j_iconst C (v := 0) dL_line_2 (by decide) ?_
  refine j_aload_n C dL_line_3 rfl 0 rfl ?_
  refine j_iload_n C dL_line_4 rfl 1 rfl ?_
  refine j_iload_n C dL_line_5 rfl 2 rfl ?_
  refine j_iload_n C dL_line_6 rfl 3 rfl ?_
  refine j_cVT C hTab hc k_X7_line gL_line_X7_line rfl (ci := 7) (q0 := 0) (T := TX7) (Nn := 8) rfl hrv (As := [.int p1, .int p2, .int p3]) (rest := [.int 0, .ref qu]) rfl rfl dL_line_7 (List.range W0.length) [W0.length] (rng_C _ _) (rng_R _ _) (rng_hnd _) rfl rfl [] ⟨0, 12, 15, 19⟩ [⟨0, 12, 19, 13⟩] rfl (fun _ h => nomatch h) (by decide) (by decide) (by decide +kernel) (by decide +kernel) (fun q => ?_)
  show Jt X ((qu, .inl (gJ X.1, 1, .inr (.inl uO))) :: W0) 1 6 15 _ [.ref q]
  refine j_astore (lv' := [(5, .ref q), (0, .ref h7), (1, .int p1), (2, .int p2), (3, .int p3), (4, .ref qu)]) C dL_line_15 (by decide) rfl ?_
  refine j_iconst C (v := 1) dL_line_17 (by decide) ?_
  exact j_iret C hQ rfl dL_line_18 (Nat.le_of_ble_eq_true rfl) (Nat.le_of_ble_eq_true rfl) ⟨rfl, rfl⟩
theorem tA_L_line (G : CG) (hl : (gL G).stackTraces = false) (h7 qu : Nat) (p1 p2 p3 : Int32) (W0 W1 : va_W) (fs : List Value) (uO : Nat → Int64) (r : Int32) (hrv : W0[0]? = some (h7, .inr (7, fs))) (hc : Ct G yX7_line wsX7_line rm_X7_line [.ref h7, .int p1, .int p2, .int p3] W0 (finT "java/lang/IllegalArgumentException" W0) 1 6) : Ct G yL_line wsL_line rm_L_line [.ref h7, .int p1, .int p2, .int p3, .ref qu] (W0 ++ [(qu, .inl (gJ G, 1, .inr (.inl uO)))]) (fin1 (some (.int 2)) ((qu, .inl (gJ G, 1, .inr (.inl uO))) :: W0)) 1 6 := by
  refine Ct.ofH (cc := cL_line) (N := 6) (ret := some .int) (hh := [(0, 12, 15, 19), (0, 12, 19, 13)]) RL (by decide) rfl rfl hl (Nat.le_of_ble_eq_true rfl) (lv := [(0, .ref h7), (1, .int p1), (2, .int p2), (3, .int p3), (4, .ref qu)]) rfl (fun X hXG C hTab hQ => ?_)
  subst hXG
  refine j_aload C dL_line_0 4 rfl ?_
  refine j_iconst C (v := 0) dL_line_2 (by decide) ?_
  refine j_aload_n C dL_line_3 rfl 0 rfl ?_
  refine j_iload_n C dL_line_4 rfl 1 rfl ?_
  refine j_iload_n C dL_line_5 rfl 2 rfl ?_
  refine j_iload_n C dL_line_6 rfl 3 rfl ?_
  refine j_cVT C hTab hc k_X7_line gL_line_X7_line rfl (ci := 7) (q0 := 0) (T := TX7) (Nn := 8) rfl hrv (As := [.int p1, .int p2, .int p3]) (rest := [.int 0, .ref qu]) rfl rfl dL_line_7 (List.range W0.length) [W0.length] (rng_C _ _) (rng_R _ _) (rng_hnd _) rfl rfl [⟨0, 12, 15, 19⟩] ⟨0, 12, 19, 13⟩ [] rfl (List.forall_mem_cons.mpr ⟨⟨by decide, "java/lang/IndexOutOfBoundsException", by decide +kernel, by decide +kernel⟩, (fun _ h => nomatch h)⟩) (by decide) (by decide) (by decide +kernel) (by decide +kernel) (fun q => ?_)
  show Jt X ((qu, .inl (gJ X.1, 1, .inr (.inl uO))) :: W0) 1 6 19 _ [.ref q]
  refine j_astore (lv' := [(5, .ref q), (0, .ref h7), (1, .int p1), (2, .int p2), (3, .int p3), (4, .ref qu)]) C dL_line_19 (by decide) rfl ?_
  refine j_iconst C (v := 2) dL_line_21 (by decide) ?_
  exact j_iret C hQ rfl dL_line_22 (Nat.le_of_ble_eq_true rfl) (Nat.le_of_ble_eq_true rfl) ⟨rfl, rfl⟩
abbrev rm_L_slice : Room := { frames := 7, cells := 1, slots := 6, locals := 128 }
theorem k_L_slice : CfW yL_slice wsL_slice cL_slice 6 (some .int) [(0, 12, 15, 19), (0, 12, 19, 13)] 5 := ⟨⟨_, rfl⟩, by decide +kernel, by decide +kernel, by decide +kernel⟩
theorem r_L_slice (G : CG) (hl : (gL G).stackTraces = false) (h7 qu : Nat) (p1 p2 p3 : Int32) (W0 W1 : va_W) (fs : List Value) (uO : Nat → Int64) (r : Int32) (hrv : W0[0]? = some (h7, .inr (7, fs))) (hc : Ct G yX7_slice wsX7_slice rm_X7_slice [.ref h7, .int p1, .int p2, .int p3] W0 (fin1 (some (.int r)) W1) 1 6) : Ct G yL_slice wsL_slice rm_L_slice [.ref h7, .int p1, .int p2, .int p3, .ref qu] (W0 ++ [(qu, .inl (gJ G, 1, .inr (.inl uO)))]) (fin1 (some (.int 0)) ((qu, .inl (gJ G, 1, .inr (.inl (vp_updL uO 0 r.toInt64)))) :: W1)) 1 6 := by
  refine Ct.ofH (cc := cL_slice) (N := 6) (ret := some .int) (hh := [(0, 12, 15, 19), (0, 12, 19, 13)]) RL (by decide) rfl rfl hl (Nat.le_of_ble_eq_true rfl) (lv := [(0, .ref h7), (1, .int p1), (2, .int p2), (3, .int p3), (4, .ref qu)]) rfl (fun X hXG C hTab hQ => ?_)
  subst hXG
  refine j_aload C dL_slice_0 4 rfl ?_
  refine j_iconst C (v := 0) dL_slice_2 (by decide) ?_
  refine j_aload_n C dL_slice_3 rfl 0 rfl ?_
  refine j_iload_n C dL_slice_4 rfl 1 rfl ?_
  refine j_iload_n C dL_slice_5 rfl 2 rfl ?_
  refine j_iload_n C dL_slice_6 rfl 3 rfl ?_
  refine j_callV C hc fin1_ne k_X7_slice gL_slice_X7_slice rfl (ci := 7) (q0 := 0) (T := TX7) (Nn := 8) rfl hrv (As := [.int p1, .int p2, .int p3]) (rest := [.int 0, .ref qu]) rfl rfl dL_slice_7 (List.range W0.length) [W0.length] (rng_C _ _) (rng_R _ _) (rng_hnd _) ⟨Nat.le_of_ble_eq_true rfl, Nat.le_of_ble_eq_true rfl, rfl, rfl, Nat.le_of_ble_eq_true rfl, Nat.le_of_ble_eq_true rfl⟩ (Nat.le_of_ble_eq_true rfl) (fun v w1 hf => ?_)
  obtain ⟨hv, rfl⟩ := hf
  cases hv
  show Jt X ((qu, .inl (gJ X.1, 1, .inr (.inl uO))) :: w1) 1 6 10 _ [.int r, .int 0, .ref qu]
  refine j_i2l C dL_slice_10 ?_
  refine j_last (ws' := (qu, .inl (gJ X.1, 1, .inr (.inl (vp_updL uO 0 r.toInt64)))) :: w1) C 0 rfl vin0 rfl dL_slice_11 ?_
  refine j_goto C (tgt := 23) dL_slice_12 (by decide) ?_
  refine j_iconst C (v := 0) dL_slice_23 (by decide) ?_
  exact j_iret C hQ rfl dL_slice_24 (Nat.le_of_ble_eq_true rfl) (Nat.le_of_ble_eq_true rfl) ⟨rfl, rfl⟩
theorem tI_L_slice (G : CG) (hl : (gL G).stackTraces = false) (h7 qu : Nat) (p1 p2 p3 : Int32) (W0 W1 : va_W) (fs : List Value) (uO : Nat → Int64) (r : Int32) (hrv : W0[0]? = some (h7, .inr (7, fs))) (hc : Ct G yX7_slice wsX7_slice rm_X7_slice [.ref h7, .int p1, .int p2, .int p3] W0 (finT "java/lang/IndexOutOfBoundsException" W0) 1 6) : Ct G yL_slice wsL_slice rm_L_slice [.ref h7, .int p1, .int p2, .int p3, .ref qu] (W0 ++ [(qu, .inl (gJ G, 1, .inr (.inl uO)))]) (fin1 (some (.int 1)) ((qu, .inl (gJ G, 1, .inr (.inl uO))) :: W0)) 1 6 := by
  refine Ct.ofH (cc := cL_slice) (N := 6) (ret := some .int) (hh := [(0, 12, 15, 19), (0, 12, 19, 13)]) RL (by decide) rfl rfl hl (Nat.le_of_ble_eq_true rfl) (lv := [(0, .ref h7), (1, .int p1), (2, .int p2), (3, .int p3), (4, .ref qu)]) rfl (fun X hXG C hTab hQ => ?_)
  subst hXG
  refine j_aload C dL_slice_0 4 rfl ?_
  refine j_iconst C (v := 0) dL_slice_2 (by decide) ?_
  refine j_aload_n C dL_slice_3 rfl 0 rfl ?_
  refine j_iload_n C dL_slice_4 rfl 1 rfl ?_
  refine j_iload_n C dL_slice_5 rfl 2 rfl ?_
  refine j_iload_n C dL_slice_6 rfl 3 rfl ?_
  refine j_cVT C hTab hc k_X7_slice gL_slice_X7_slice rfl (ci := 7) (q0 := 0) (T := TX7) (Nn := 8) rfl hrv (As := [.int p1, .int p2, .int p3]) (rest := [.int 0, .ref qu]) rfl rfl dL_slice_7 (List.range W0.length) [W0.length] (rng_C _ _) (rng_R _ _) (rng_hnd _) rfl rfl [] ⟨0, 12, 15, 19⟩ [⟨0, 12, 19, 13⟩] rfl (fun _ h => nomatch h) (by decide) (by decide) (by decide +kernel) (by decide +kernel) (fun q => ?_)
  show Jt X ((qu, .inl (gJ X.1, 1, .inr (.inl uO))) :: W0) 1 6 15 _ [.ref q]
  refine j_astore (lv' := [(5, .ref q), (0, .ref h7), (1, .int p1), (2, .int p2), (3, .int p3), (4, .ref qu)]) C dL_slice_15 (by decide) rfl ?_
  refine j_iconst C (v := 1) dL_slice_17 (by decide) ?_
  exact j_iret C hQ rfl dL_slice_18 (Nat.le_of_ble_eq_true rfl) (Nat.le_of_ble_eq_true rfl) ⟨rfl, rfl⟩
theorem tA_L_slice (G : CG) (hl : (gL G).stackTraces = false) (h7 qu : Nat) (p1 p2 p3 : Int32) (W0 W1 : va_W) (fs : List Value) (uO : Nat → Int64) (r : Int32) (hrv : W0[0]? = some (h7, .inr (7, fs))) (hc : Ct G yX7_slice wsX7_slice rm_X7_slice [.ref h7, .int p1, .int p2, .int p3] W0 (finT "java/lang/IllegalArgumentException" W0) 1 6) : Ct G yL_slice wsL_slice rm_L_slice [.ref h7, .int p1, .int p2, .int p3, .ref qu] (W0 ++ [(qu, .inl (gJ G, 1, .inr (.inl uO)))]) (fin1 (some (.int 2)) ((qu, .inl (gJ G, 1, .inr (.inl uO))) :: W0)) 1 6 := by
  refine Ct.ofH (cc := cL_slice) (N := 6) (ret := some .int) (hh := [(0, 12, 15, 19), (0, 12, 19, 13)]) RL (by decide) rfl rfl hl (Nat.le_of_ble_eq_true rfl) (lv := [(0, .ref h7), (1, .int p1), (2, .int p2), (3, .int p3), (4, .ref qu)]) rfl (fun X hXG C hTab hQ => ?_)
  subst hXG
  refine j_aload C dL_slice_0 4 rfl ?_
  refine j_iconst C (v := 0) dL_slice_2 (by decide) ?_
  refine j_aload_n C dL_slice_3 rfl 0 rfl ?_
  refine j_iload_n C dL_slice_4 rfl 1 rfl ?_
  refine j_iload_n C dL_slice_5 rfl 2 rfl ?_
  refine j_iload_n C dL_slice_6 rfl 3 rfl ?_
  refine j_cVT C hTab hc k_X7_slice gL_slice_X7_slice rfl (ci := 7) (q0 := 0) (T := TX7) (Nn := 8) rfl hrv (As := [.int p1, .int p2, .int p3]) (rest := [.int 0, .ref qu]) rfl rfl dL_slice_7 (List.range W0.length) [W0.length] (rng_C _ _) (rng_R _ _) (rng_hnd _) rfl rfl [⟨0, 12, 15, 19⟩] ⟨0, 12, 19, 13⟩ [] rfl (List.forall_mem_cons.mpr ⟨⟨by decide, "java/lang/IndexOutOfBoundsException", by decide +kernel, by decide +kernel⟩, (fun _ h => nomatch h)⟩) (by decide) (by decide) (by decide +kernel) (by decide +kernel) (fun q => ?_)
  show Jt X ((qu, .inl (gJ X.1, 1, .inr (.inl uO))) :: W0) 1 6 19 _ [.ref q]
  refine j_astore (lv' := [(5, .ref q), (0, .ref h7), (1, .int p1), (2, .int p2), (3, .int p3), (4, .ref qu)]) C dL_slice_19 (by decide) rfl ?_
  refine j_iconst C (v := 2) dL_slice_21 (by decide) ?_
  exact j_iret C hQ rfl dL_slice_22 (Nat.le_of_ble_eq_true rfl) (Nat.le_of_ble_eq_true rfl) ⟨rfl, rfl⟩
abbrev rm_L_ordered : Room := { frames := 7, cells := 1, slots := 6, locals := 112 }
theorem k_L_ordered : CfW yL_ordered wsL_ordered cL_ordered 5 (some .int) [(0, 10, 13, 13)] 4 := ⟨⟨_, rfl⟩, by decide +kernel, by decide +kernel, by decide +kernel⟩
theorem r_L_ordered (G : CG) (hl : (gL G).stackTraces = false) (h7 qu : Nat) (p1 p2 : Int32) (W0 W1 : va_W) (fs : List Value) (uO : Nat → Int64) (r : Int32) (hrv : W0[0]? = some (h7, .inr (7, fs))) (hc : Ct G yX7_ordered wsX7_ordered rm_X7_ordered [.ref h7, .int p1, .int p2] W0 (fin1 (some (.int r)) W1) 1 6) : Ct G yL_ordered wsL_ordered rm_L_ordered [.ref h7, .int p1, .int p2, .ref qu] (W0 ++ [(qu, .inl (gJ G, 1, .inr (.inl uO)))]) (fin1 (some (.int 0)) ((qu, .inl (gJ G, 1, .inr (.inl (vp_updL uO 0 r.toInt64)))) :: W1)) 1 6 := by
  refine Ct.ofH (cc := cL_ordered) (N := 5) (ret := some .int) (hh := [(0, 10, 13, 13)]) RL (by decide) rfl rfl hl (Nat.le_of_ble_eq_true rfl) (lv := [(0, .ref h7), (1, .int p1), (2, .int p2), (3, .ref qu)]) rfl (fun X hXG C hTab hQ => ?_)
  subst hXG
  refine j_aload_n C dL_ordered_0 rfl 3 rfl ?_
  refine j_iconst C (v := 0) dL_ordered_1 (by decide) ?_
  refine j_aload_n C dL_ordered_2 rfl 0 rfl ?_
  refine j_iload_n C dL_ordered_3 rfl 1 rfl ?_
  refine j_iload_n C dL_ordered_4 rfl 2 rfl ?_
  refine j_callV C hc fin1_ne k_X7_ordered gL_ordered_X7_ordered rfl (ci := 7) (q0 := 0) (T := TX7) (Nn := 8) rfl hrv (As := [.int p1, .int p2]) (rest := [.int 0, .ref qu]) rfl rfl dL_ordered_5 (List.range W0.length) [W0.length] (rng_C _ _) (rng_R _ _) (rng_hnd _) ⟨Nat.le_of_ble_eq_true rfl, Nat.le_of_ble_eq_true rfl, rfl, rfl, Nat.le_of_ble_eq_true rfl, Nat.le_of_ble_eq_true rfl⟩ (Nat.le_of_ble_eq_true rfl) (fun v w1 hf => ?_)
  obtain ⟨hv, rfl⟩ := hf
  cases hv
  show Jt X ((qu, .inl (gJ X.1, 1, .inr (.inl uO))) :: w1) 1 6 8 _ [.int r, .int 0, .ref qu]
  refine j_i2l C dL_ordered_8 ?_
  refine j_last (ws' := (qu, .inl (gJ X.1, 1, .inr (.inl (vp_updL uO 0 r.toInt64)))) :: w1) C 0 rfl vin0 rfl dL_ordered_9 ?_
  refine j_goto C (tgt := 17) dL_ordered_10 (by decide) ?_
  refine j_iconst C (v := 0) dL_ordered_17 (by decide) ?_
  exact j_iret C hQ rfl dL_ordered_18 (Nat.le_of_ble_eq_true rfl) (Nat.le_of_ble_eq_true rfl) ⟨rfl, rfl⟩
theorem tA_L_ordered (G : CG) (hl : (gL G).stackTraces = false) (h7 qu : Nat) (p1 p2 : Int32) (W0 W1 : va_W) (fs : List Value) (uO : Nat → Int64) (r : Int32) (hrv : W0[0]? = some (h7, .inr (7, fs))) (hc : Ct G yX7_ordered wsX7_ordered rm_X7_ordered [.ref h7, .int p1, .int p2] W0 (finT "java/lang/IllegalArgumentException" W0) 1 6) : Ct G yL_ordered wsL_ordered rm_L_ordered [.ref h7, .int p1, .int p2, .ref qu] (W0 ++ [(qu, .inl (gJ G, 1, .inr (.inl uO)))]) (fin1 (some (.int 1)) ((qu, .inl (gJ G, 1, .inr (.inl uO))) :: W0)) 1 6 := by
  refine Ct.ofH (cc := cL_ordered) (N := 5) (ret := some .int) (hh := [(0, 10, 13, 13)]) RL (by decide) rfl rfl hl (Nat.le_of_ble_eq_true rfl) (lv := [(0, .ref h7), (1, .int p1), (2, .int p2), (3, .ref qu)]) rfl (fun X hXG C hTab hQ => ?_)
  subst hXG
  refine j_aload_n C dL_ordered_0 rfl 3 rfl ?_
  refine j_iconst C (v := 0) dL_ordered_1 (by decide) ?_
  refine j_aload_n C dL_ordered_2 rfl 0 rfl ?_
  refine j_iload_n C dL_ordered_3 rfl 1 rfl ?_
  refine j_iload_n C dL_ordered_4 rfl 2 rfl ?_
  refine j_cVT C hTab hc k_X7_ordered gL_ordered_X7_ordered rfl (ci := 7) (q0 := 0) (T := TX7) (Nn := 8) rfl hrv (As := [.int p1, .int p2]) (rest := [.int 0, .ref qu]) rfl rfl dL_ordered_5 (List.range W0.length) [W0.length] (rng_C _ _) (rng_R _ _) (rng_hnd _) rfl rfl [] ⟨0, 10, 13, 13⟩ [] rfl (fun _ h => nomatch h) (by decide) (by decide) (by decide +kernel) (by decide +kernel) (fun q => ?_)
  show Jt X ((qu, .inl (gJ X.1, 1, .inr (.inl uO))) :: W0) 1 6 13 _ [.ref q]
  refine j_astore (lv' := [(4, .ref q), (0, .ref h7), (1, .int p1), (2, .int p2), (3, .ref qu)]) C dL_ordered_13 (by decide) rfl ?_
  refine j_iconst C (v := 1) dL_ordered_15 (by decide) ?_
  exact j_iret C hQ rfl dL_ordered_16 (Nat.le_of_ble_eq_true rfl) (Nat.le_of_ble_eq_true rfl) ⟨rfl, rfl⟩
abbrev rm_L_difference : Room := { frames := 7, cells := 1, slots := 6, locals := 111 }
theorem k_L_difference : CfW yL_difference wsL_difference cL_difference 4 (some .int) [(0, 9, 12, 13)] 3 := ⟨⟨_, rfl⟩, by decide +kernel, by decide +kernel, by decide +kernel⟩
theorem r_L_difference (G : CG) (hl : (gL G).stackTraces = false) (h7 qu : Nat) (p1 : Int32) (W0 W1 : va_W) (fs : List Value) (uO : Nat → Int64) (r : Int32) (hrv : W0[0]? = some (h7, .inr (7, fs))) (hc : Ct G yX7_difference wsX7_difference rm_X7_difference [.ref h7, .int p1] W0 (fin1 (some (.int r)) W1) 1 6) : Ct G yL_difference wsL_difference rm_L_difference [.ref h7, .int p1, .ref qu] (W0 ++ [(qu, .inl (gJ G, 1, .inr (.inl uO)))]) (fin1 (some (.int 0)) ((qu, .inl (gJ G, 1, .inr (.inl (vp_updL uO 0 r.toInt64)))) :: W1)) 1 6 := by
  refine Ct.ofH (cc := cL_difference) (N := 4) (ret := some .int) (hh := [(0, 9, 12, 13)]) RL (by decide) rfl rfl hl (Nat.le_of_ble_eq_true rfl) (lv := [(0, .ref h7), (1, .int p1), (2, .ref qu)]) rfl (fun X hXG C hTab hQ => ?_)
  subst hXG
  refine j_aload_n C dL_difference_0 rfl 2 rfl ?_
  refine j_iconst C (v := 0) dL_difference_1 (by decide) ?_
  refine j_aload_n C dL_difference_2 rfl 0 rfl ?_
  refine j_iload_n C dL_difference_3 rfl 1 rfl ?_
  refine j_callV C hc fin1_ne k_X7_difference gL_difference_X7_difference rfl (ci := 7) (q0 := 0) (T := TX7) (Nn := 8) rfl hrv (As := [.int p1]) (rest := [.int 0, .ref qu]) rfl rfl dL_difference_4 (List.range W0.length) [W0.length] (rng_C _ _) (rng_R _ _) (rng_hnd _) ⟨Nat.le_of_ble_eq_true rfl, Nat.le_of_ble_eq_true rfl, rfl, rfl, Nat.le_of_ble_eq_true rfl, Nat.le_of_ble_eq_true rfl⟩ (Nat.le_of_ble_eq_true rfl) (fun v w1 hf => ?_)
  obtain ⟨hv, rfl⟩ := hf
  cases hv
  show Jt X ((qu, .inl (gJ X.1, 1, .inr (.inl uO))) :: w1) 1 6 7 _ [.int r, .int 0, .ref qu]
  refine j_i2l C dL_difference_7 ?_
  refine j_last (ws' := (qu, .inl (gJ X.1, 1, .inr (.inl (vp_updL uO 0 r.toInt64)))) :: w1) C 0 rfl vin0 rfl dL_difference_8 ?_
  refine j_goto C (tgt := 15) dL_difference_9 (by decide) ?_
  refine j_iconst C (v := 0) dL_difference_15 (by decide) ?_
  exact j_iret C hQ rfl dL_difference_16 (Nat.le_of_ble_eq_true rfl) (Nat.le_of_ble_eq_true rfl) ⟨rfl, rfl⟩
theorem tA_L_difference (G : CG) (hl : (gL G).stackTraces = false) (h7 qu : Nat) (p1 : Int32) (W0 W1 : va_W) (fs : List Value) (uO : Nat → Int64) (r : Int32) (hrv : W0[0]? = some (h7, .inr (7, fs))) (hc : Ct G yX7_difference wsX7_difference rm_X7_difference [.ref h7, .int p1] W0 (finT "java/lang/IllegalArgumentException" W0) 1 6) : Ct G yL_difference wsL_difference rm_L_difference [.ref h7, .int p1, .ref qu] (W0 ++ [(qu, .inl (gJ G, 1, .inr (.inl uO)))]) (fin1 (some (.int 1)) ((qu, .inl (gJ G, 1, .inr (.inl uO))) :: W0)) 1 6 := by
  refine Ct.ofH (cc := cL_difference) (N := 4) (ret := some .int) (hh := [(0, 9, 12, 13)]) RL (by decide) rfl rfl hl (Nat.le_of_ble_eq_true rfl) (lv := [(0, .ref h7), (1, .int p1), (2, .ref qu)]) rfl (fun X hXG C hTab hQ => ?_)
  subst hXG
  refine j_aload_n C dL_difference_0 rfl 2 rfl ?_
  refine j_iconst C (v := 0) dL_difference_1 (by decide) ?_
  refine j_aload_n C dL_difference_2 rfl 0 rfl ?_
  refine j_iload_n C dL_difference_3 rfl 1 rfl ?_
  refine j_cVT C hTab hc k_X7_difference gL_difference_X7_difference rfl (ci := 7) (q0 := 0) (T := TX7) (Nn := 8) rfl hrv (As := [.int p1]) (rest := [.int 0, .ref qu]) rfl rfl dL_difference_4 (List.range W0.length) [W0.length] (rng_C _ _) (rng_R _ _) (rng_hnd _) rfl rfl [] ⟨0, 9, 12, 13⟩ [] rfl (fun _ h => nomatch h) (by decide) (by decide) (by decide +kernel) (by decide +kernel) (fun q => ?_)
  show Jt X ((qu, .inl (gJ X.1, 1, .inr (.inl uO))) :: W0) 1 6 12 _ [.ref q]
  refine j_astore_n (lv' := [(3, .ref q), (0, .ref h7), (1, .int p1), (2, .ref qu)]) C dL_difference_12 rfl (by decide) rfl ?_
  refine j_iconst C (v := 1) dL_difference_13 (by decide) ?_
  exact j_iret C hQ rfl dL_difference_14 (Nat.le_of_ble_eq_true rfl) (Nat.le_of_ble_eq_true rfl) ⟨rfl, rfl⟩
abbrev rm_L_count : Room := { frames := 7, cells := 1, slots := 6, locals := 158 }
theorem k_L_count : CfW yL_count wsL_count cL_count 4 (some .int) [(0, 9, 12, 13)] 3 := ⟨⟨_, rfl⟩, by decide +kernel, by decide +kernel, by decide +kernel⟩
theorem r_L_count (G : CG) (hl : (gL G).stackTraces = false) (h7 qu : Nat) (p1 : Int32) (W0 W1 : va_W) (fs : List Value) (uO : Nat → Int64) (r : Int32) (hrv : W0[0]? = some (h7, .inr (7, fs))) (hc : Ct G yX7_count wsX7_count rm_X7_count [.ref h7, .int p1] W0 (fin1 (some (.int r)) W1) 1 6) : Ct G yL_count wsL_count rm_L_count [.ref h7, .int p1, .ref qu] (W0 ++ [(qu, .inl (gJ G, 1, .inr (.inl uO)))]) (fin1 (some (.int 0)) ((qu, .inl (gJ G, 1, .inr (.inl (vp_updL uO 0 r.toInt64)))) :: W1)) 1 6 := by
  refine Ct.ofH (cc := cL_count) (N := 4) (ret := some .int) (hh := [(0, 9, 12, 13)]) RL (by decide) rfl rfl hl (Nat.le_of_ble_eq_true rfl) (lv := [(0, .ref h7), (1, .int p1), (2, .ref qu)]) rfl (fun X hXG C hTab hQ => ?_)
  subst hXG
  refine j_aload_n C dL_count_0 rfl 2 rfl ?_
  refine j_iconst C (v := 0) dL_count_1 (by decide) ?_
  refine j_aload_n C dL_count_2 rfl 0 rfl ?_
  refine j_iload_n C dL_count_3 rfl 1 rfl ?_
  refine j_callV C hc fin1_ne k_X7_count gL_count_X7_count rfl (ci := 7) (q0 := 0) (T := TX7) (Nn := 8) rfl hrv (As := [.int p1]) (rest := [.int 0, .ref qu]) rfl rfl dL_count_4 (List.range W0.length) [W0.length] (rng_C _ _) (rng_R _ _) (rng_hnd _) ⟨Nat.le_of_ble_eq_true rfl, Nat.le_of_ble_eq_true rfl, rfl, rfl, Nat.le_of_ble_eq_true rfl, Nat.le_of_ble_eq_true rfl⟩ (Nat.le_of_ble_eq_true rfl) (fun v w1 hf => ?_)
  obtain ⟨hv, rfl⟩ := hf
  cases hv
  show Jt X ((qu, .inl (gJ X.1, 1, .inr (.inl uO))) :: w1) 1 6 7 _ [.int r, .int 0, .ref qu]
  refine j_i2l C dL_count_7 ?_
  refine j_last (ws' := (qu, .inl (gJ X.1, 1, .inr (.inl (vp_updL uO 0 r.toInt64)))) :: w1) C 0 rfl vin0 rfl dL_count_8 ?_
  refine j_goto C (tgt := 15) dL_count_9 (by decide) ?_
  refine j_iconst C (v := 0) dL_count_15 (by decide) ?_
  exact j_iret C hQ rfl dL_count_16 (Nat.le_of_ble_eq_true rfl) (Nat.le_of_ble_eq_true rfl) ⟨rfl, rfl⟩
theorem tA_L_count (G : CG) (hl : (gL G).stackTraces = false) (h7 qu : Nat) (p1 : Int32) (W0 W1 : va_W) (fs : List Value) (uO : Nat → Int64) (r : Int32) (hrv : W0[0]? = some (h7, .inr (7, fs))) (hc : Ct G yX7_count wsX7_count rm_X7_count [.ref h7, .int p1] W0 (finT "java/lang/IllegalArgumentException" W0) 1 6) : Ct G yL_count wsL_count rm_L_count [.ref h7, .int p1, .ref qu] (W0 ++ [(qu, .inl (gJ G, 1, .inr (.inl uO)))]) (fin1 (some (.int 1)) ((qu, .inl (gJ G, 1, .inr (.inl uO))) :: W0)) 1 6 := by
  refine Ct.ofH (cc := cL_count) (N := 4) (ret := some .int) (hh := [(0, 9, 12, 13)]) RL (by decide) rfl rfl hl (Nat.le_of_ble_eq_true rfl) (lv := [(0, .ref h7), (1, .int p1), (2, .ref qu)]) rfl (fun X hXG C hTab hQ => ?_)
  subst hXG
  refine j_aload_n C dL_count_0 rfl 2 rfl ?_
  refine j_iconst C (v := 0) dL_count_1 (by decide) ?_
  refine j_aload_n C dL_count_2 rfl 0 rfl ?_
  refine j_iload_n C dL_count_3 rfl 1 rfl ?_
  refine j_cVT C hTab hc k_X7_count gL_count_X7_count rfl (ci := 7) (q0 := 0) (T := TX7) (Nn := 8) rfl hrv (As := [.int p1]) (rest := [.int 0, .ref qu]) rfl rfl dL_count_4 (List.range W0.length) [W0.length] (rng_C _ _) (rng_R _ _) (rng_hnd _) rfl rfl [] ⟨0, 9, 12, 13⟩ [] rfl (fun _ h => nomatch h) (by decide) (by decide) (by decide +kernel) (by decide +kernel) (fun q => ?_)
  show Jt X ((qu, .inl (gJ X.1, 1, .inr (.inl uO))) :: W0) 1 6 12 _ [.ref q]
  refine j_astore_n (lv' := [(3, .ref q), (0, .ref h7), (1, .int p1), (2, .ref qu)]) C dL_count_12 rfl (by decide) rfl ?_
  refine j_iconst C (v := 1) dL_count_13 (by decide) ?_
  exact j_iret C hQ rfl dL_count_14 (Nat.le_of_ble_eq_true rfl) (Nat.le_of_ble_eq_true rfl) ⟨rfl, rfl⟩
abbrev rm_L_ifKept : Room := { frames := 7, cells := 1, slots := 6, locals := 158 }
theorem k_L_ifKept : CfW yL_ifKept wsL_ifKept cL_ifKept 4 (some .int) [(0, 9, 12, 13)] 3 := ⟨⟨_, rfl⟩, by decide +kernel, by decide +kernel, by decide +kernel⟩
theorem r_L_ifKept (G : CG) (hl : (gL G).stackTraces = false) (h7 qu : Nat) (p1 : Int32) (W0 W1 : va_W) (fs : List Value) (uO : Nat → Int64) (r : Int32) (hrv : W0[0]? = some (h7, .inr (7, fs))) (hc : Ct G yX7_ifKept wsX7_ifKept rm_X7_ifKept [.ref h7, .int p1] W0 (fin1 (some (.int r)) W1) 1 6) : Ct G yL_ifKept wsL_ifKept rm_L_ifKept [.ref h7, .int p1, .ref qu] (W0 ++ [(qu, .inl (gJ G, 1, .inr (.inl uO)))]) (fin1 (some (.int 0)) ((qu, .inl (gJ G, 1, .inr (.inl (vp_updL uO 0 r.toInt64)))) :: W1)) 1 6 := by
  refine Ct.ofH (cc := cL_ifKept) (N := 4) (ret := some .int) (hh := [(0, 9, 12, 13)]) RL (by decide) rfl rfl hl (Nat.le_of_ble_eq_true rfl) (lv := [(0, .ref h7), (1, .int p1), (2, .ref qu)]) rfl (fun X hXG C hTab hQ => ?_)
  subst hXG
  refine j_aload_n C dL_ifKept_0 rfl 2 rfl ?_
  refine j_iconst C (v := 0) dL_ifKept_1 (by decide) ?_
  refine j_aload_n C dL_ifKept_2 rfl 0 rfl ?_
  refine j_iload_n C dL_ifKept_3 rfl 1 rfl ?_
  refine j_callV C hc fin1_ne k_X7_ifKept gL_ifKept_X7_ifKept rfl (ci := 7) (q0 := 0) (T := TX7) (Nn := 8) rfl hrv (As := [.int p1]) (rest := [.int 0, .ref qu]) rfl rfl dL_ifKept_4 (List.range W0.length) [W0.length] (rng_C _ _) (rng_R _ _) (rng_hnd _) ⟨Nat.le_of_ble_eq_true rfl, Nat.le_of_ble_eq_true rfl, rfl, rfl, Nat.le_of_ble_eq_true rfl, Nat.le_of_ble_eq_true rfl⟩ (Nat.le_of_ble_eq_true rfl) (fun v w1 hf => ?_)
  obtain ⟨hv, rfl⟩ := hf
  cases hv
  show Jt X ((qu, .inl (gJ X.1, 1, .inr (.inl uO))) :: w1) 1 6 7 _ [.int r, .int 0, .ref qu]
  refine j_i2l C dL_ifKept_7 ?_
  refine j_last (ws' := (qu, .inl (gJ X.1, 1, .inr (.inl (vp_updL uO 0 r.toInt64)))) :: w1) C 0 rfl vin0 rfl dL_ifKept_8 ?_
  refine j_goto C (tgt := 15) dL_ifKept_9 (by decide) ?_
  refine j_iconst C (v := 0) dL_ifKept_15 (by decide) ?_
  exact j_iret C hQ rfl dL_ifKept_16 (Nat.le_of_ble_eq_true rfl) (Nat.le_of_ble_eq_true rfl) ⟨rfl, rfl⟩
theorem tA_L_ifKept (G : CG) (hl : (gL G).stackTraces = false) (h7 qu : Nat) (p1 : Int32) (W0 W1 : va_W) (fs : List Value) (uO : Nat → Int64) (r : Int32) (hrv : W0[0]? = some (h7, .inr (7, fs))) (hc : Ct G yX7_ifKept wsX7_ifKept rm_X7_ifKept [.ref h7, .int p1] W0 (finT "java/lang/IllegalArgumentException" W0) 1 6) : Ct G yL_ifKept wsL_ifKept rm_L_ifKept [.ref h7, .int p1, .ref qu] (W0 ++ [(qu, .inl (gJ G, 1, .inr (.inl uO)))]) (fin1 (some (.int 1)) ((qu, .inl (gJ G, 1, .inr (.inl uO))) :: W0)) 1 6 := by
  refine Ct.ofH (cc := cL_ifKept) (N := 4) (ret := some .int) (hh := [(0, 9, 12, 13)]) RL (by decide) rfl rfl hl (Nat.le_of_ble_eq_true rfl) (lv := [(0, .ref h7), (1, .int p1), (2, .ref qu)]) rfl (fun X hXG C hTab hQ => ?_)
  subst hXG
  refine j_aload_n C dL_ifKept_0 rfl 2 rfl ?_
  refine j_iconst C (v := 0) dL_ifKept_1 (by decide) ?_
  refine j_aload_n C dL_ifKept_2 rfl 0 rfl ?_
  refine j_iload_n C dL_ifKept_3 rfl 1 rfl ?_
  refine j_cVT C hTab hc k_X7_ifKept gL_ifKept_X7_ifKept rfl (ci := 7) (q0 := 0) (T := TX7) (Nn := 8) rfl hrv (As := [.int p1]) (rest := [.int 0, .ref qu]) rfl rfl dL_ifKept_4 (List.range W0.length) [W0.length] (rng_C _ _) (rng_R _ _) (rng_hnd _) rfl rfl [] ⟨0, 9, 12, 13⟩ [] rfl (fun _ h => nomatch h) (by decide) (by decide) (by decide +kernel) (by decide +kernel) (fun q => ?_)
  show Jt X ((qu, .inl (gJ X.1, 1, .inr (.inl uO))) :: W0) 1 6 12 _ [.ref q]
  refine j_astore_n (lv' := [(3, .ref q), (0, .ref h7), (1, .int p1), (2, .ref qu)]) C dL_ifKept_12 rfl (by decide) rfl ?_
  refine j_iconst C (v := 1) dL_ifKept_13 (by decide) ?_
  exact j_iret C hQ rfl dL_ifKept_14 (Nat.le_of_ble_eq_true rfl) (Nat.le_of_ble_eq_true rfl) ⟨rfl, rfl⟩
abbrev rm_L_ifPut : Room := { frames := 7, cells := 1, slots := 6, locals := 143 }
theorem k_L_ifPut : CfW yL_ifPut wsL_ifPut cL_ifPut 8 (some .int) [(0, 16, 19, 19), (0, 16, 23, 13)] 7 := ⟨⟨_, rfl⟩, by decide +kernel, by decide +kernel, by decide +kernel⟩
theorem r_L_ifPut (G : CG) (hl : (gL G).stackTraces = false) (h7 qu : Nat) (p1 p2 p3 p4 p5 : Int32) (W0 W1 : va_W) (fs : List Value) (uO : Nat → Int64) (r : Int32) (hrv : W0[0]? = some (h7, .inr (7, fs))) (hc : Ct G yX7_ifPut wsX7_ifPut rm_X7_ifPut [.ref h7, .int p1, .int p2, .int p3, .int p4, .int p5] W0 (fin1 (some (.int r)) W1) 1 6) : Ct G yL_ifPut wsL_ifPut rm_L_ifPut [.ref h7, .int p1, .int p2, .int p3, .int p4, .int p5, .ref qu] (W0 ++ [(qu, .inl (gJ G, 1, .inr (.inl uO)))]) (fin1 (some (.int 0)) ((qu, .inl (gJ G, 1, .inr (.inl (vp_updL uO 0 r.toInt64)))) :: W1)) 1 6 := by
  refine Ct.ofH (cc := cL_ifPut) (N := 8) (ret := some .int) (hh := [(0, 16, 19, 19), (0, 16, 23, 13)]) RL (by decide) rfl rfl hl (Nat.le_of_ble_eq_true rfl) (lv := [(0, .ref h7), (1, .int p1), (2, .int p2), (3, .int p3), (4, .int p4), (5, .int p5), (6, .ref qu)]) rfl (fun X hXG C hTab hQ => ?_)
  subst hXG
  refine j_aload C dL_ifPut_0 6 rfl ?_
  refine j_iconst C (v := 0) dL_ifPut_2 (by decide) ?_
  refine j_aload_n C dL_ifPut_3 rfl 0 rfl ?_
  refine j_iload_n C dL_ifPut_4 rfl 1 rfl ?_
  refine j_iload_n C dL_ifPut_5 rfl 2 rfl ?_
  refine j_iload_n C dL_ifPut_6 rfl 3 rfl ?_
  refine j_iload C dL_ifPut_7 4 rfl ?_
  refine j_iload C dL_ifPut_9 5 rfl ?_
  refine j_callV C hc fin1_ne k_X7_ifPut gL_ifPut_X7_ifPut rfl (ci := 7) (q0 := 0) (T := TX7) (Nn := 8) rfl hrv (As := [.int p1, .int p2, .int p3, .int p4, .int p5]) (rest := [.int 0, .ref qu]) rfl rfl dL_ifPut_11 (List.range W0.length) [W0.length] (rng_C _ _) (rng_R _ _) (rng_hnd _) ⟨Nat.le_of_ble_eq_true rfl, Nat.le_of_ble_eq_true rfl, rfl, rfl, Nat.le_of_ble_eq_true rfl, Nat.le_of_ble_eq_true rfl⟩ (Nat.le_of_ble_eq_true rfl) (fun v w1 hf => ?_)
  obtain ⟨hv, rfl⟩ := hf
  cases hv
  show Jt X ((qu, .inl (gJ X.1, 1, .inr (.inl uO))) :: w1) 1 6 14 _ [.int r, .int 0, .ref qu]
  refine j_i2l C dL_ifPut_14 ?_
  refine j_last (ws' := (qu, .inl (gJ X.1, 1, .inr (.inl (vp_updL uO 0 r.toInt64)))) :: w1) C 0 rfl vin0 rfl dL_ifPut_15 ?_
  refine j_goto C (tgt := 27) dL_ifPut_16 (by decide) ?_
  refine j_iconst C (v := 0) dL_ifPut_27 (by decide) ?_
  exact j_iret C hQ rfl dL_ifPut_28 (Nat.le_of_ble_eq_true rfl) (Nat.le_of_ble_eq_true rfl) ⟨rfl, rfl⟩
theorem tI_L_ifPut (G : CG) (hl : (gL G).stackTraces = false) (h7 qu : Nat) (p1 p2 p3 p4 p5 : Int32) (W0 W1 : va_W) (fs : List Value) (uO : Nat → Int64) (r : Int32) (hrv : W0[0]? = some (h7, .inr (7, fs))) (hc : Ct G yX7_ifPut wsX7_ifPut rm_X7_ifPut [.ref h7, .int p1, .int p2, .int p3, .int p4, .int p5] W0 (finT "java/lang/IndexOutOfBoundsException" W0) 1 6) : Ct G yL_ifPut wsL_ifPut rm_L_ifPut [.ref h7, .int p1, .int p2, .int p3, .int p4, .int p5, .ref qu] (W0 ++ [(qu, .inl (gJ G, 1, .inr (.inl uO)))]) (fin1 (some (.int 1)) ((qu, .inl (gJ G, 1, .inr (.inl uO))) :: W0)) 1 6 := by
  refine Ct.ofH (cc := cL_ifPut) (N := 8) (ret := some .int) (hh := [(0, 16, 19, 19), (0, 16, 23, 13)]) RL (by decide) rfl rfl hl (Nat.le_of_ble_eq_true rfl) (lv := [(0, .ref h7), (1, .int p1), (2, .int p2), (3, .int p3), (4, .int p4), (5, .int p5), (6, .ref qu)]) rfl (fun X hXG C hTab hQ => ?_)
  subst hXG
  refine j_aload C dL_ifPut_0 6 rfl ?_
  refine j_iconst C (v := 0) dL_ifPut_2 (by decide) ?_
  refine j_aload_n C dL_ifPut_3 rfl 0 rfl ?_
  refine j_iload_n C dL_ifPut_4 rfl 1 rfl ?_
  refine j_iload_n C dL_ifPut_5 rfl 2 rfl ?_
  refine j_iload_n C dL_ifPut_6 rfl 3 rfl ?_
  refine j_iload C dL_ifPut_7 4 rfl ?_
  refine j_iload C dL_ifPut_9 5 rfl ?_
  refine j_cVT C hTab hc k_X7_ifPut gL_ifPut_X7_ifPut rfl (ci := 7) (q0 := 0) (T := TX7) (Nn := 8) rfl hrv (As := [.int p1, .int p2, .int p3, .int p4, .int p5]) (rest := [.int 0, .ref qu]) rfl rfl dL_ifPut_11 (List.range W0.length) [W0.length] (rng_C _ _) (rng_R _ _) (rng_hnd _) rfl rfl [] ⟨0, 16, 19, 19⟩ [⟨0, 16, 23, 13⟩] rfl (fun _ h => nomatch h) (by decide) (by decide) (by decide +kernel) (by decide +kernel) (fun q => ?_)
  show Jt X ((qu, .inl (gJ X.1, 1, .inr (.inl uO))) :: W0) 1 6 19 _ [.ref q]
  refine j_astore (lv' := [(7, .ref q), (0, .ref h7), (1, .int p1), (2, .int p2), (3, .int p3), (4, .int p4), (5, .int p5), (6, .ref qu)]) C dL_ifPut_19 (by decide) rfl ?_
  refine j_iconst C (v := 1) dL_ifPut_21 (by decide) ?_
  exact j_iret C hQ rfl dL_ifPut_22 (Nat.le_of_ble_eq_true rfl) (Nat.le_of_ble_eq_true rfl) ⟨rfl, rfl⟩
theorem tA_L_ifPut (G : CG) (hl : (gL G).stackTraces = false) (h7 qu : Nat) (p1 p2 p3 p4 p5 : Int32) (W0 W1 : va_W) (fs : List Value) (uO : Nat → Int64) (r : Int32) (hrv : W0[0]? = some (h7, .inr (7, fs))) (hc : Ct G yX7_ifPut wsX7_ifPut rm_X7_ifPut [.ref h7, .int p1, .int p2, .int p3, .int p4, .int p5] W0 (finT "java/lang/IllegalArgumentException" W0) 1 6) : Ct G yL_ifPut wsL_ifPut rm_L_ifPut [.ref h7, .int p1, .int p2, .int p3, .int p4, .int p5, .ref qu] (W0 ++ [(qu, .inl (gJ G, 1, .inr (.inl uO)))]) (fin1 (some (.int 2)) ((qu, .inl (gJ G, 1, .inr (.inl uO))) :: W0)) 1 6 := by
  refine Ct.ofH (cc := cL_ifPut) (N := 8) (ret := some .int) (hh := [(0, 16, 19, 19), (0, 16, 23, 13)]) RL (by decide) rfl rfl hl (Nat.le_of_ble_eq_true rfl) (lv := [(0, .ref h7), (1, .int p1), (2, .int p2), (3, .int p3), (4, .int p4), (5, .int p5), (6, .ref qu)]) rfl (fun X hXG C hTab hQ => ?_)
  subst hXG
  refine j_aload C dL_ifPut_0 6 rfl ?_
  refine j_iconst C (v := 0) dL_ifPut_2 (by decide) ?_
  refine j_aload_n C dL_ifPut_3 rfl 0 rfl ?_
  refine j_iload_n C dL_ifPut_4 rfl 1 rfl ?_
  refine j_iload_n C dL_ifPut_5 rfl 2 rfl ?_
  refine j_iload_n C dL_ifPut_6 rfl 3 rfl ?_
  refine j_iload C dL_ifPut_7 4 rfl ?_
  refine j_iload C dL_ifPut_9 5 rfl ?_
  refine j_cVT C hTab hc k_X7_ifPut gL_ifPut_X7_ifPut rfl (ci := 7) (q0 := 0) (T := TX7) (Nn := 8) rfl hrv (As := [.int p1, .int p2, .int p3, .int p4, .int p5]) (rest := [.int 0, .ref qu]) rfl rfl dL_ifPut_11 (List.range W0.length) [W0.length] (rng_C _ _) (rng_R _ _) (rng_hnd _) rfl rfl [⟨0, 16, 19, 19⟩] ⟨0, 16, 23, 13⟩ [] rfl (List.forall_mem_cons.mpr ⟨⟨by decide, "java/lang/IndexOutOfBoundsException", by decide +kernel, by decide +kernel⟩, (fun _ h => nomatch h)⟩) (by decide) (by decide) (by decide +kernel) (by decide +kernel) (fun q => ?_)
  show Jt X ((qu, .inl (gJ X.1, 1, .inr (.inl uO))) :: W0) 1 6 23 _ [.ref q]
  refine j_astore (lv' := [(7, .ref q), (0, .ref h7), (1, .int p1), (2, .int p2), (3, .int p3), (4, .int p4), (5, .int p5), (6, .ref qu)]) C dL_ifPut_23 (by decide) rfl ?_
  refine j_iconst C (v := 2) dL_ifPut_25 (by decide) ?_
  exact j_iret C hQ rfl dL_ifPut_26 (Nat.le_of_ble_eq_true rfl) (Nat.le_of_ble_eq_true rfl) ⟨rfl, rfl⟩
abbrev rm_L_best : Room := { frames := 7, cells := 1, slots := 6, locals := 162 }
theorem k_L_best : CfW yL_best wsL_best cL_best 4 (some .int) [(0, 9, 12, 13)] 3 := ⟨⟨_, rfl⟩, by decide +kernel, by decide +kernel, by decide +kernel⟩
theorem r_L_best (G : CG) (hl : (gL G).stackTraces = false) (h7 qu : Nat) (p1 : Int32) (W0 W1 : va_W) (fs : List Value) (uO : Nat → Int64) (r : Int32) (hrv : W0[0]? = some (h7, .inr (7, fs))) (hc : Ct G yX7_best wsX7_best rm_X7_best [.ref h7, .int p1] W0 (fin1 (some (.int r)) W1) 1 6) : Ct G yL_best wsL_best rm_L_best [.ref h7, .int p1, .ref qu] (W0 ++ [(qu, .inl (gJ G, 1, .inr (.inl uO)))]) (fin1 (some (.int 0)) ((qu, .inl (gJ G, 1, .inr (.inl (vp_updL uO 0 r.toInt64)))) :: W1)) 1 6 := by
  refine Ct.ofH (cc := cL_best) (N := 4) (ret := some .int) (hh := [(0, 9, 12, 13)]) RL (by decide) rfl rfl hl (Nat.le_of_ble_eq_true rfl) (lv := [(0, .ref h7), (1, .int p1), (2, .ref qu)]) rfl (fun X hXG C hTab hQ => ?_)
  subst hXG
  refine j_aload_n C dL_best_0 rfl 2 rfl ?_
  refine j_iconst C (v := 0) dL_best_1 (by decide) ?_
  refine j_aload_n C dL_best_2 rfl 0 rfl ?_
  refine j_iload_n C dL_best_3 rfl 1 rfl ?_
  refine j_callV C hc fin1_ne k_X7_best gL_best_X7_best rfl (ci := 7) (q0 := 0) (T := TX7) (Nn := 8) rfl hrv (As := [.int p1]) (rest := [.int 0, .ref qu]) rfl rfl dL_best_4 (List.range W0.length) [W0.length] (rng_C _ _) (rng_R _ _) (rng_hnd _) ⟨Nat.le_of_ble_eq_true rfl, Nat.le_of_ble_eq_true rfl, rfl, rfl, Nat.le_of_ble_eq_true rfl, Nat.le_of_ble_eq_true rfl⟩ (Nat.le_of_ble_eq_true rfl) (fun v w1 hf => ?_)
  obtain ⟨hv, rfl⟩ := hf
  cases hv
  show Jt X ((qu, .inl (gJ X.1, 1, .inr (.inl uO))) :: w1) 1 6 7 _ [.int r, .int 0, .ref qu]
  refine j_i2l C dL_best_7 ?_
  refine j_last (ws' := (qu, .inl (gJ X.1, 1, .inr (.inl (vp_updL uO 0 r.toInt64)))) :: w1) C 0 rfl vin0 rfl dL_best_8 ?_
  refine j_goto C (tgt := 15) dL_best_9 (by decide) ?_
  refine j_iconst C (v := 0) dL_best_15 (by decide) ?_
  exact j_iret C hQ rfl dL_best_16 (Nat.le_of_ble_eq_true rfl) (Nat.le_of_ble_eq_true rfl) ⟨rfl, rfl⟩
theorem tA_L_best (G : CG) (hl : (gL G).stackTraces = false) (h7 qu : Nat) (p1 : Int32) (W0 W1 : va_W) (fs : List Value) (uO : Nat → Int64) (r : Int32) (hrv : W0[0]? = some (h7, .inr (7, fs))) (hc : Ct G yX7_best wsX7_best rm_X7_best [.ref h7, .int p1] W0 (finT "java/lang/IllegalArgumentException" W0) 1 6) : Ct G yL_best wsL_best rm_L_best [.ref h7, .int p1, .ref qu] (W0 ++ [(qu, .inl (gJ G, 1, .inr (.inl uO)))]) (fin1 (some (.int 1)) ((qu, .inl (gJ G, 1, .inr (.inl uO))) :: W0)) 1 6 := by
  refine Ct.ofH (cc := cL_best) (N := 4) (ret := some .int) (hh := [(0, 9, 12, 13)]) RL (by decide) rfl rfl hl (Nat.le_of_ble_eq_true rfl) (lv := [(0, .ref h7), (1, .int p1), (2, .ref qu)]) rfl (fun X hXG C hTab hQ => ?_)
  subst hXG
  refine j_aload_n C dL_best_0 rfl 2 rfl ?_
  refine j_iconst C (v := 0) dL_best_1 (by decide) ?_
  refine j_aload_n C dL_best_2 rfl 0 rfl ?_
  refine j_iload_n C dL_best_3 rfl 1 rfl ?_
  refine j_cVT C hTab hc k_X7_best gL_best_X7_best rfl (ci := 7) (q0 := 0) (T := TX7) (Nn := 8) rfl hrv (As := [.int p1]) (rest := [.int 0, .ref qu]) rfl rfl dL_best_4 (List.range W0.length) [W0.length] (rng_C _ _) (rng_R _ _) (rng_hnd _) rfl rfl [] ⟨0, 9, 12, 13⟩ [] rfl (fun _ h => nomatch h) (by decide) (by decide) (by decide +kernel) (by decide +kernel) (fun q => ?_)
  show Jt X ((qu, .inl (gJ X.1, 1, .inr (.inl uO))) :: W0) 1 6 12 _ [.ref q]
  refine j_astore_n (lv' := [(3, .ref q), (0, .ref h7), (1, .int p1), (2, .ref qu)]) C dL_best_12 rfl (by decide) rfl ?_
  refine j_iconst C (v := 1) dL_best_13 (by decide) ?_
  exact j_iret C hQ rfl dL_best_14 (Nat.le_of_ble_eq_true rfl) (Nat.le_of_ble_eq_true rfl) ⟨rfl, rfl⟩
abbrev rm_L_heaviest : Room := { frames := 7, cells := 1, slots := 6, locals := 133 }
theorem k_L_heaviest : CfW yL_heaviest wsL_heaviest cL_heaviest 4 (some .int) [(0, 9, 12, 13)] 3 := ⟨⟨_, rfl⟩, by decide +kernel, by decide +kernel, by decide +kernel⟩
theorem r_L_heaviest (G : CG) (hl : (gL G).stackTraces = false) (h7 qu : Nat) (p1 : Int32) (W0 W1 : va_W) (fs : List Value) (uO : Nat → Int64) (r : Int32) (hrv : W0[0]? = some (h7, .inr (7, fs))) (hc : Ct G yX7_heaviest wsX7_heaviest rm_X7_heaviest [.ref h7, .int p1] W0 (fin1 (some (.int r)) W1) 1 6) : Ct G yL_heaviest wsL_heaviest rm_L_heaviest [.ref h7, .int p1, .ref qu] (W0 ++ [(qu, .inl (gJ G, 1, .inr (.inl uO)))]) (fin1 (some (.int 0)) ((qu, .inl (gJ G, 1, .inr (.inl (vp_updL uO 0 r.toInt64)))) :: W1)) 1 6 := by
  refine Ct.ofH (cc := cL_heaviest) (N := 4) (ret := some .int) (hh := [(0, 9, 12, 13)]) RL (by decide) rfl rfl hl (Nat.le_of_ble_eq_true rfl) (lv := [(0, .ref h7), (1, .int p1), (2, .ref qu)]) rfl (fun X hXG C hTab hQ => ?_)
  subst hXG
  refine j_aload_n C dL_heaviest_0 rfl 2 rfl ?_
  refine j_iconst C (v := 0) dL_heaviest_1 (by decide) ?_
  refine j_aload_n C dL_heaviest_2 rfl 0 rfl ?_
  refine j_iload_n C dL_heaviest_3 rfl 1 rfl ?_
  refine j_callV C hc fin1_ne k_X7_heaviest gL_heaviest_X7_heaviest rfl (ci := 7) (q0 := 0) (T := TX7) (Nn := 8) rfl hrv (As := [.int p1]) (rest := [.int 0, .ref qu]) rfl rfl dL_heaviest_4 (List.range W0.length) [W0.length] (rng_C _ _) (rng_R _ _) (rng_hnd _) ⟨Nat.le_of_ble_eq_true rfl, Nat.le_of_ble_eq_true rfl, rfl, rfl, Nat.le_of_ble_eq_true rfl, Nat.le_of_ble_eq_true rfl⟩ (Nat.le_of_ble_eq_true rfl) (fun v w1 hf => ?_)
  obtain ⟨hv, rfl⟩ := hf
  cases hv
  show Jt X ((qu, .inl (gJ X.1, 1, .inr (.inl uO))) :: w1) 1 6 7 _ [.int r, .int 0, .ref qu]
  refine j_i2l C dL_heaviest_7 ?_
  refine j_last (ws' := (qu, .inl (gJ X.1, 1, .inr (.inl (vp_updL uO 0 r.toInt64)))) :: w1) C 0 rfl vin0 rfl dL_heaviest_8 ?_
  refine j_goto C (tgt := 15) dL_heaviest_9 (by decide) ?_
  refine j_iconst C (v := 0) dL_heaviest_15 (by decide) ?_
  exact j_iret C hQ rfl dL_heaviest_16 (Nat.le_of_ble_eq_true rfl) (Nat.le_of_ble_eq_true rfl) ⟨rfl, rfl⟩
theorem tA_L_heaviest (G : CG) (hl : (gL G).stackTraces = false) (h7 qu : Nat) (p1 : Int32) (W0 W1 : va_W) (fs : List Value) (uO : Nat → Int64) (r : Int32) (hrv : W0[0]? = some (h7, .inr (7, fs))) (hc : Ct G yX7_heaviest wsX7_heaviest rm_X7_heaviest [.ref h7, .int p1] W0 (finT "java/lang/IllegalArgumentException" W0) 1 6) : Ct G yL_heaviest wsL_heaviest rm_L_heaviest [.ref h7, .int p1, .ref qu] (W0 ++ [(qu, .inl (gJ G, 1, .inr (.inl uO)))]) (fin1 (some (.int 1)) ((qu, .inl (gJ G, 1, .inr (.inl uO))) :: W0)) 1 6 := by
  refine Ct.ofH (cc := cL_heaviest) (N := 4) (ret := some .int) (hh := [(0, 9, 12, 13)]) RL (by decide) rfl rfl hl (Nat.le_of_ble_eq_true rfl) (lv := [(0, .ref h7), (1, .int p1), (2, .ref qu)]) rfl (fun X hXG C hTab hQ => ?_)
  subst hXG
  refine j_aload_n C dL_heaviest_0 rfl 2 rfl ?_
  refine j_iconst C (v := 0) dL_heaviest_1 (by decide) ?_
  refine j_aload_n C dL_heaviest_2 rfl 0 rfl ?_
  refine j_iload_n C dL_heaviest_3 rfl 1 rfl ?_
  refine j_cVT C hTab hc k_X7_heaviest gL_heaviest_X7_heaviest rfl (ci := 7) (q0 := 0) (T := TX7) (Nn := 8) rfl hrv (As := [.int p1]) (rest := [.int 0, .ref qu]) rfl rfl dL_heaviest_4 (List.range W0.length) [W0.length] (rng_C _ _) (rng_R _ _) (rng_hnd _) rfl rfl [] ⟨0, 9, 12, 13⟩ [] rfl (fun _ h => nomatch h) (by decide) (by decide) (by decide +kernel) (by decide +kernel) (fun q => ?_)
  show Jt X ((qu, .inl (gJ X.1, 1, .inr (.inl uO))) :: W0) 1 6 12 _ [.ref q]
  refine j_astore_n (lv' := [(3, .ref q), (0, .ref h7), (1, .int p1), (2, .ref qu)]) C dL_heaviest_12 rfl (by decide) rfl ?_
  refine j_iconst C (v := 1) dL_heaviest_13 (by decide) ?_
  exact j_iret C hQ rfl dL_heaviest_14 (Nat.le_of_ble_eq_true rfl) (Nat.le_of_ble_eq_true rfl) ⟨rfl, rfl⟩
end JWW
end
