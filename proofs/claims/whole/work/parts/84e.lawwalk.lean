noncomputable section
section JLW
variable {X : CX} {b Ls : Nat} {xs : Nat → Int32} {ck sk : Nat} {h7 h5 qn qm h2 qh : Nat} {sa sn sm : Nat → Nat} {h6 qs h4 a1 a2 a3 a4 h0 h3 h1 qb h8 qz qv qp qf qo qu : Nat}
set_option maxRecDepth 100000 in
set_option maxHeartbeats 8000000 in
theorem w_count (hC : LC X b Ls xs) {t : Nat} (ht : 6 * t + 6 ≤ Ls) (hcn : ck + 1 ≤ 601024) (hsn : sk + 6 ≤ 7293034) {p1 : Int32} (hp1 : xs (nI (6 * t) + nI 1).toNatClampNeg = p1) {kk s : Int32} {vD : Int32} {vA : Int32} {vL : Int32} {vN : Nat → Int32} {vM : Nat → Int32} {oO : Int32} {oS : Int32} {hv : Nat → SV} {tL : Int32} {tS : Nat → Int32} {lD : Int32} {lS : Nat → Int32} {lF : Nat → Int32} {lG : Nat → Int32} {lR : Nat → Int32} {dP : Int32} {dS : Int32} {dG : Int32} {dF : Int32} {eA : Int32} {eM : Int32} {eR : Int32} {hA : Int32} {hF : Int32} {hL : Int32} {hS : Int32} {nB : Nat → Int32} {mT : Int32} {mZ : Nat → Int32} {mU : Nat → Int32} {mV : Int32} {mP : Nat → Int32} {mB : Nat → Int32} {mY : Int32} {mR : Nat → Int32} {mO : Int32} {mS : Int32} {mW : Int32} {mH : Int64} {uO : Nat → Int64} {lD' : Int32} {lS' : Nat → Int32} {lF' : Nat → Int32} {lG' : Nat → Int32} {lR' : Nat → Int32} {mT' : Int32} {uO' : Nat → Int64} (hc1 : Ct X.1 yL_count wsL_count rm_L_count [.ref h7, .int p1, .ref qu] ([(h7, .inr (7, [.ref h5, .ref h2, .ref h6, .ref h4, .ref h0, .ref h3, .ref h1, .ref qb])), (qb, .inl (gI X.1, 512, .inl nB)), (h5, .inr (5, [.int vD, .int vA, .int vL, .ref qn, .ref qm])), (qn, .inl (gI X.1, 512, .inl vN)), (qm, .inl (gI X.1, 512, .inl vM)), (h2, .inr (2, [.ref qh, .int oO, .int oS])), (qh, .inl (gO X.1, 6, .inr (.inr (.inr (.inr (fun k => some (sa k))))))), (sa 0, .inr (5, [.int (hv 0).1, .int (hv 0).2.1, .int (hv 0).2.2.1, .ref (sn 0), .ref (sm 0)])), (sn 0, .inl (gI X.1, 512, .inl (hv 0).2.2.2.1)), (sm 0, .inl (gI X.1, 512, .inl (hv 0).2.2.2.2)), (sa 1, .inr (5, [.int (hv 1).1, .int (hv 1).2.1, .int (hv 1).2.2.1, .ref (sn 1), .ref (sm 1)])), (sn 1, .inl (gI X.1, 512, .inl (hv 1).2.2.2.1)), (sm 1, .inl (gI X.1, 512, .inl (hv 1).2.2.2.2)), (sa 2, .inr (5, [.int (hv 2).1, .int (hv 2).2.1, .int (hv 2).2.2.1, .ref (sn 2), .ref (sm 2)])), (sn 2, .inl (gI X.1, 512, .inl (hv 2).2.2.2.1)), (sm 2, .inl (gI X.1, 512, .inl (hv 2).2.2.2.2)), (sa 3, .inr (5, [.int (hv 3).1, .int (hv 3).2.1, .int (hv 3).2.2.1, .ref (sn 3), .ref (sm 3)])), (sn 3, .inl (gI X.1, 512, .inl (hv 3).2.2.2.1)), (sm 3, .inl (gI X.1, 512, .inl (hv 3).2.2.2.2)), (sa 4, .inr (5, [.int (hv 4).1, .int (hv 4).2.1, .int (hv 4).2.2.1, .ref (sn 4), .ref (sm 4)])), (sn 4, .inl (gI X.1, 512, .inl (hv 4).2.2.2.1)), (sm 4, .inl (gI X.1, 512, .inl (hv 4).2.2.2.2)), (sa 5, .inr (5, [.int (hv 5).1, .int (hv 5).2.1, .int (hv 5).2.2.1, .ref (sn 5), .ref (sm 5)])), (sn 5, .inl (gI X.1, 512, .inl (hv 5).2.2.2.1)), (sm 5, .inl (gI X.1, 512, .inl (hv 5).2.2.2.2)), (h4, .inr (4, [.int lD, .ref a1, .ref a2, .ref a3, .ref a4])), (a1, .inl (gI X.1, 8, .inl lS)), (a2, .inl (gI X.1, 8, .inl lF)), (a3, .inl (gI X.1, 8, .inl lG)), (a4, .inl (gI X.1, 8, .inl lR))] ++ [(qu, .inl (gJ X.1, 1, .inr (.inl uO)))]) (fin1 (some (.int kk)) ((qu, .inl (gJ X.1, 1, .inr (.inl uO'))) :: [(h7, .inr (7, [.ref h5, .ref h2, .ref h6, .ref h4, .ref h0, .ref h3, .ref h1, .ref qb])), (qb, .inl (gI X.1, 512, .inl nB)), (h5, .inr (5, [.int vD, .int vA, .int vL, .ref qn, .ref qm])), (qn, .inl (gI X.1, 512, .inl vN)), (qm, .inl (gI X.1, 512, .inl vM)), (h2, .inr (2, [.ref qh, .int oO, .int oS])), (qh, .inl (gO X.1, 6, .inr (.inr (.inr (.inr (fun k => some (sa k))))))), (sa 0, .inr (5, [.int (hv 0).1, .int (hv 0).2.1, .int (hv 0).2.2.1, .ref (sn 0), .ref (sm 0)])), (sn 0, .inl (gI X.1, 512, .inl (hv 0).2.2.2.1)), (sm 0, .inl (gI X.1, 512, .inl (hv 0).2.2.2.2)), (sa 1, .inr (5, [.int (hv 1).1, .int (hv 1).2.1, .int (hv 1).2.2.1, .ref (sn 1), .ref (sm 1)])), (sn 1, .inl (gI X.1, 512, .inl (hv 1).2.2.2.1)), (sm 1, .inl (gI X.1, 512, .inl (hv 1).2.2.2.2)), (sa 2, .inr (5, [.int (hv 2).1, .int (hv 2).2.1, .int (hv 2).2.2.1, .ref (sn 2), .ref (sm 2)])), (sn 2, .inl (gI X.1, 512, .inl (hv 2).2.2.2.1)), (sm 2, .inl (gI X.1, 512, .inl (hv 2).2.2.2.2)), (sa 3, .inr (5, [.int (hv 3).1, .int (hv 3).2.1, .int (hv 3).2.2.1, .ref (sn 3), .ref (sm 3)])), (sn 3, .inl (gI X.1, 512, .inl (hv 3).2.2.2.1)), (sm 3, .inl (gI X.1, 512, .inl (hv 3).2.2.2.2)), (sa 4, .inr (5, [.int (hv 4).1, .int (hv 4).2.1, .int (hv 4).2.2.1, .ref (sn 4), .ref (sm 4)])), (sn 4, .inl (gI X.1, 512, .inl (hv 4).2.2.2.1)), (sm 4, .inl (gI X.1, 512, .inl (hv 4).2.2.2.2)), (sa 5, .inr (5, [.int (hv 5).1, .int (hv 5).2.1, .int (hv 5).2.2.1, .ref (sn 5), .ref (sm 5)])), (sn 5, .inl (gI X.1, 512, .inl (hv 5).2.2.2.1)), (sm 5, .inl (gI X.1, 512, .inl (hv 5).2.2.2.2)), (h4, .inr (4, [.int lD', .ref a1, .ref a2, .ref a3, .ref a4])), (a1, .inl (gI X.1, 8, .inl lS')), (a2, .inl (gI X.1, 8, .inl lF')), (a3, .inl (gI X.1, 8, .inl lG')), (a4, .inl (gI X.1, 8, .inl lR'))])) 1 6) (hc2 : Ct X.1 yX8_count wsX8_count rm_X8_count [.ref h8, .int p1] [(h8, .inr (8, [.int mT, .ref qz, .ref qv, .int mV, .ref qp, .ref qf, .int mY, .ref qo, .int mO, .int mS, .int mW, .long mH])), (qz, .inl (gI X.1, 1027, .inl mZ)), (qv, .inl (gI X.1, 6162, .inl mU)), (qp, .inl (gI X.1, 512, .inl mP)), (qf, .inl (gI X.1, 60, .inl mB)), (qo, .inl (gI X.1, 60, .inl mR))] (fin1 (some (.int s)) [(h8, .inr (8, [.int mT', .ref qz, .ref qv, .int mV, .ref qp, .ref qf, .int mY, .ref qo, .int mO, .int mS, .int mW, .long mH])), (qz, .inl (gI X.1, 1027, .inl mZ)), (qv, .inl (gI X.1, 6162, .inl mU)), (qp, .inl (gI X.1, 512, .inl mP)), (qf, .inl (gI X.1, 60, .inl mB)), (qo, .inl (gI X.1, 60, .inl mR))]) 0 0) (hk : mT' = kk) (hs : kk = 0 → uO' 0 = s.toInt64) (K : Jt X (LW X.1 h7 h5 qn qm h2 qh sa sn sm h6 qs h4 a1 a2 a3 a4 h0 h3 h1 qb h8 qz qv qp qf qo qu vD vA vL vN vM oO oS hv tL tS lD' lS' lF' lG' lR' dP dS dG dF eA eM eR hA hF hL hS nB mT' mZ mU mV mP mB mY mR mO mS mW mH uO') (ck + 1) (sk + 6) 1608 (LLv b h7 h8 qu (nI (6 * t))) []) : Jt X (LW X.1 h7 h5 qn qm h2 qh sa sn sm h6 qs h4 a1 a2 a3 a4 h0 h3 h1 qb h8 qz qv qp qf qo qu vD vA vL vN vM oO oS hv tL tS lD lS lF lG lR dP dS dG dF eA eM eR hA hF hL hS nB mT mZ mU mV mP mB mY mR mO mS mW mH uO) ck sk 1225 (LLv b h7 h8 qu (nI (6 * t))) [] := by
  have C := hC.1
  refine j_aload_n C dL_law_1225 rfl 3 rfl ?_
  refine j_aload_n C dL_law_1226 rfl 4 rfl ?_
  refine j_iload C dL_law_1227 0 rfl ?_
  refine j_iconst C (v := 1) dL_law_1229 (by decide) ?_
  refine j_iadd C dL_law_1230 ?_
  refine j_sld hC (6 * t) 1 (by omega) hp1 dL_law_1231 ?_
  refine j_aload_n C dL_law_1232 rfl 1 rfl ?_
  refine j_cSW (ws' := (LW X.1 h7 h5 qn qm h2 qh sa sn sm h6 qs h4 a1 a2 a3 a4 h0 h3 h1 qb h8 qz qv qp qf qo qu vD vA vL vN vM oO oS hv tL tS lD' lS' lF' lG' lR' dP dS dG dF eA eM eR hA hF hL hS nB mT mZ mU mV mP mB mY mR mO mS mW mH uO')) (st' := [.int kk]) C hc1 k_L_count gL_law_L_count (As := [.ref h7, .int p1, .ref qu]) (rest := []) rfl rfl dL_law_1233 [0, 34, 1, 2, 3, 4, 5, 6, 7, 8, 9, 10, 11, 12, 13, 14, 15, 16, 17, 18, 19, 20, 21, 22, 23, 26, 27, 28, 29, 30, 41] [24, 25, 31, 32, 33, 35, 36, 37, 38, 39, 40] [12, 14, 15, 16, 17, 18, 19, 20, 21, 22, 23, 24, 25, 26, 27, 28, 29, 30, 31, 32, 33, 34, 35, 36, 0, 1, 37, 38, 39, 40, 41, 2, 3, 4, 13, 5, 6, 7, 8, 9, 10, 11] rfl rfl rfl rfl rfl rfl hcn hsn ?_
  refine j_istore (lv' := [(5, .int kk), (4, .int (nI (6 * t))), (3, .ref qu), (2, .ref h8), (1, .ref h7), (0, .ref b)]) C dL_law_1236 (by decide) rfl ?_
  refine j_aload_n C dL_law_1238 rfl 3 rfl ?_
  refine j_aload_n C dL_law_1239 rfl 5 rfl ?_
  refine j_iload C dL_law_1240 1 rfl ?_
  refine j_iconst C (v := 1) dL_law_1242 (by decide) ?_
  refine j_iadd C dL_law_1243 ?_
  refine j_sld hC (6 * t) 1 (by omega) hp1 dL_law_1244 ?_
  refine j_cVQ (ws' := (LW X.1 h7 h5 qn qm h2 qh sa sn sm h6 qs h4 a1 a2 a3 a4 h0 h3 h1 qb h8 qz qv qp qf qo qu vD vA vL vN vM oO oS hv tL tS lD' lS' lF' lG' lR' dP dS dG dF eA eM eR hA hF hL hS nB mT' mZ mU mV mP mB mY mR mO mS mW mH uO')) (st' := [.int s]) C hc2 k_X8_count gL_law_X8_count rfl (ci := 8) (q0 := 0) rfl rfl (As := [.int p1]) (rest := []) rfl rfl dL_law_1245 [35, 36, 37, 38, 39, 40] [0, 1, 2, 3, 4, 5, 6, 7, 8, 9, 10, 11, 12, 13, 14, 15, 16, 17, 18, 19, 20, 21, 22, 23, 24, 25, 26, 27, 28, 29, 30, 31, 32, 33, 34, 41] [0, 1, 2, 3, 4, 5, 6, 7, 8, 9, 10, 11, 12, 13, 14, 15, 16, 17, 18, 19, 20, 21, 22, 23, 24, 25, 26, 27, 28, 29, 30, 31, 32, 33, 34, 36, 37, 38, 39, 40, 41, 35] rfl rfl rfl rfl rfl rfl hcn hsn ?_
  refine j_istore (lv' := [(6, .int s), (5, .int kk), (4, .int (nI (6 * t))), (3, .ref qu), (2, .ref h8), (1, .ref h7), (0, .ref b)]) C dL_law_1248 (by decide) rfl ?_
  have k217 : Jt X (LW X.1 h7 h5 qn qm h2 qh sa sn sm h6 qs h4 a1 a2 a3 a4 h0 h3 h1 qb h8 qz qv qp qf qo qu vD vA vL vN vM oO oS hv tL tS lD' lS' lF' lG' lR' dP dS dG dF eA eM eR hA hF hL hS nB mT' mZ mU mV mP mB mY mR mO mS mW mH uO') (ck + 1) (sk + 6) 1278 [(6, .int s), (5, .int kk), (4, .int (nI (6 * t))), (3, .ref qu), (2, .ref h8), (1, .ref h7), (0, .ref b)] [] := by
    refine j_goto C (tgt := 1608) dL_law_1278 (by decide) ?_
    exact j_loc [2, 3, 4, 5, 6] rfl K
  refine j_aload_n C dL_law_1250 rfl 4 rfl ?_
  refine j_cVQ (ws' := (LW X.1 h7 h5 qn qm h2 qh sa sn sm h6 qs h4 a1 a2 a3 a4 h0 h3 h1 qb h8 qz qv qp qf qo qu vD vA vL vN vM oO oS hv tL tS lD' lS' lF' lG' lR' dP dS dG dF eA eM eR hA hF hL hS nB mT' mZ mU mV mP mB mY mR mO mS mW mH uO')) (st' := [.int mT']) C (b_X8_thrown X.1 hC.2.2.2.2.2 h8 qz qv qp qf qo mT' mZ mU mV mP mB mY mR mO mS mW mH mT' rfl) k_X8_thrown gL_law_X8_thrown rfl (ci := 8) (q0 := 0) rfl rfl (As := []) (rest := []) rfl rfl dL_law_1251 [35, 36, 37, 38, 39, 40] [0, 1, 2, 3, 4, 5, 6, 7, 8, 9, 10, 11, 12, 13, 14, 15, 16, 17, 18, 19, 20, 21, 22, 23, 24, 25, 26, 27, 28, 29, 30, 31, 32, 33, 34, 41] [0, 1, 2, 3, 4, 5, 6, 7, 8, 9, 10, 11, 12, 13, 14, 15, 16, 17, 18, 19, 20, 21, 22, 23, 24, 25, 26, 27, 28, 29, 30, 31, 32, 33, 34, 36, 37, 38, 39, 40, 41, 35] rfl rfl rfl rfl rfl rfl hcn hsn ?_
  refine j_iload C dL_law_1254 1 rfl ?_
  refine j_icmp_eq C (tgt := 1261) dL_law_1256 (by decide) (fun _ => ?_) (fun e => absurd hk e)
  refine j_iload C dL_law_1261 1 rfl ?_
  refine j_if_ne C (tgt := 1278) dL_law_1263 (by decide) (fun _ => k217) (fun ek => ?_)
  refine j_aload_n C dL_law_1266 rfl 3 rfl ?_
  refine j_iconst C (v := 0) dL_law_1267 (by decide) ?_
  refine j_lald C (f := uO') 41 rfl vin0 dL_law_1268 ?_
  refine j_iload C dL_law_1269 0 rfl ?_
  refine j_i2l C dL_law_1271 ?_
  refine j_lcmp C dL_law_1272 ?_
  exact j_if_eq C (tgt := 1278) dL_law_1273 (by decide) (fun _ => k217) (fun e => absurd (show lg_cmp (uO' 0) s.toInt64 = 0 by rw [hs ek]; exact lg_cmp_self _) e)
set_option maxRecDepth 100000 in
set_option maxHeartbeats 8000000 in
theorem w_ifKept (hC : LC X b Ls xs) {t : Nat} (ht : 6 * t + 6 ≤ Ls) (hcn : ck + 1 ≤ 601024) (hsn : sk + 6 ≤ 7293034) {p1 : Int32} (hp1 : xs (nI (6 * t) + nI 1).toNatClampNeg = p1) {kk s : Int32} {vD : Int32} {vA : Int32} {vL : Int32} {vN : Nat → Int32} {vM : Nat → Int32} {oO : Int32} {oS : Int32} {hv : Nat → SV} {tL : Int32} {tS : Nat → Int32} {lD : Int32} {lS : Nat → Int32} {lF : Nat → Int32} {lG : Nat → Int32} {lR : Nat → Int32} {dP : Int32} {dS : Int32} {dG : Int32} {dF : Int32} {eA : Int32} {eM : Int32} {eR : Int32} {hA : Int32} {hF : Int32} {hL : Int32} {hS : Int32} {nB : Nat → Int32} {mT : Int32} {mZ : Nat → Int32} {mU : Nat → Int32} {mV : Int32} {mP : Nat → Int32} {mB : Nat → Int32} {mY : Int32} {mR : Nat → Int32} {mO : Int32} {mS : Int32} {mW : Int32} {mH : Int64} {uO : Nat → Int64} {lD' : Int32} {lS' : Nat → Int32} {lF' : Nat → Int32} {lG' : Nat → Int32} {lR' : Nat → Int32} {mT' : Int32} {uO' : Nat → Int64} (hc1 : Ct X.1 yL_ifKept wsL_ifKept rm_L_ifKept [.ref h7, .int p1, .ref qu] ([(h7, .inr (7, [.ref h5, .ref h2, .ref h6, .ref h4, .ref h0, .ref h3, .ref h1, .ref qb])), (qb, .inl (gI X.1, 512, .inl nB)), (h5, .inr (5, [.int vD, .int vA, .int vL, .ref qn, .ref qm])), (qn, .inl (gI X.1, 512, .inl vN)), (qm, .inl (gI X.1, 512, .inl vM)), (h4, .inr (4, [.int lD, .ref a1, .ref a2, .ref a3, .ref a4])), (a1, .inl (gI X.1, 8, .inl lS)), (a2, .inl (gI X.1, 8, .inl lF)), (a3, .inl (gI X.1, 8, .inl lG)), (a4, .inl (gI X.1, 8, .inl lR))] ++ [(qu, .inl (gJ X.1, 1, .inr (.inl uO)))]) (fin1 (some (.int kk)) ((qu, .inl (gJ X.1, 1, .inr (.inl uO'))) :: [(h7, .inr (7, [.ref h5, .ref h2, .ref h6, .ref h4, .ref h0, .ref h3, .ref h1, .ref qb])), (qb, .inl (gI X.1, 512, .inl nB)), (h5, .inr (5, [.int vD, .int vA, .int vL, .ref qn, .ref qm])), (qn, .inl (gI X.1, 512, .inl vN)), (qm, .inl (gI X.1, 512, .inl vM)), (h4, .inr (4, [.int lD', .ref a1, .ref a2, .ref a3, .ref a4])), (a1, .inl (gI X.1, 8, .inl lS')), (a2, .inl (gI X.1, 8, .inl lF')), (a3, .inl (gI X.1, 8, .inl lG')), (a4, .inl (gI X.1, 8, .inl lR'))])) 1 6) (hc2 : Ct X.1 yX8_ifKept wsX8_ifKept rm_X8_ifKept [.ref h8, .int p1] [(h8, .inr (8, [.int mT, .ref qz, .ref qv, .int mV, .ref qp, .ref qf, .int mY, .ref qo, .int mO, .int mS, .int mW, .long mH])), (qz, .inl (gI X.1, 1027, .inl mZ)), (qv, .inl (gI X.1, 6162, .inl mU)), (qp, .inl (gI X.1, 512, .inl mP)), (qf, .inl (gI X.1, 60, .inl mB)), (qo, .inl (gI X.1, 60, .inl mR))] (fin1 (some (.int s)) [(h8, .inr (8, [.int mT', .ref qz, .ref qv, .int mV, .ref qp, .ref qf, .int mY, .ref qo, .int mO, .int mS, .int mW, .long mH])), (qz, .inl (gI X.1, 1027, .inl mZ)), (qv, .inl (gI X.1, 6162, .inl mU)), (qp, .inl (gI X.1, 512, .inl mP)), (qf, .inl (gI X.1, 60, .inl mB)), (qo, .inl (gI X.1, 60, .inl mR))]) 0 0) (hk : mT' = kk) (hs : kk = 0 → uO' 0 = s.toInt64) (K : Jt X (LW X.1 h7 h5 qn qm h2 qh sa sn sm h6 qs h4 a1 a2 a3 a4 h0 h3 h1 qb h8 qz qv qp qf qo qu vD vA vL vN vM oO oS hv tL tS lD' lS' lF' lG' lR' dP dS dG dF eA eM eR hA hF hL hS nB mT' mZ mU mV mP mB mY mR mO mS mW mH uO') (ck + 1) (sk + 6) 1608 (LLv b h7 h8 qu (nI (6 * t))) []) : Jt X (LW X.1 h7 h5 qn qm h2 qh sa sn sm h6 qs h4 a1 a2 a3 a4 h0 h3 h1 qb h8 qz qv qp qf qo qu vD vA vL vN vM oO oS hv tL tS lD lS lF lG lR dP dS dG dF eA eM eR hA hF hL hS nB mT mZ mU mV mP mB mY mR mO mS mW mH uO) ck sk 1281 (LLv b h7 h8 qu (nI (6 * t))) [] := by
  have C := hC.1
  refine j_aload_n C dL_law_1281 rfl 3 rfl ?_
  refine j_aload_n C dL_law_1282 rfl 4 rfl ?_
  refine j_iload C dL_law_1283 0 rfl ?_
  refine j_iconst C (v := 1) dL_law_1285 (by decide) ?_
  refine j_iadd C dL_law_1286 ?_
  refine j_sld hC (6 * t) 1 (by omega) hp1 dL_law_1287 ?_
  refine j_aload_n C dL_law_1288 rfl 1 rfl ?_
  refine j_cSW (ws' := (LW X.1 h7 h5 qn qm h2 qh sa sn sm h6 qs h4 a1 a2 a3 a4 h0 h3 h1 qb h8 qz qv qp qf qo qu vD vA vL vN vM oO oS hv tL tS lD' lS' lF' lG' lR' dP dS dG dF eA eM eR hA hF hL hS nB mT mZ mU mV mP mB mY mR mO mS mW mH uO')) (st' := [.int kk]) C hc1 k_L_ifKept gL_law_L_ifKept (As := [.ref h7, .int p1, .ref qu]) (rest := []) rfl rfl dL_law_1289 [0, 34, 1, 2, 3, 26, 27, 28, 29, 30, 41] [4, 5, 6, 7, 8, 9, 10, 11, 12, 13, 14, 15, 16, 17, 18, 19, 20, 21, 22, 23, 24, 25, 31, 32, 33, 35, 36, 37, 38, 39, 40] [32, 34, 35, 36, 0, 1, 2, 3, 4, 5, 6, 7, 8, 9, 10, 11, 12, 13, 14, 15, 16, 17, 18, 19, 20, 21, 37, 38, 39, 40, 41, 22, 23, 24, 33, 25, 26, 27, 28, 29, 30, 31] rfl rfl rfl rfl rfl rfl hcn hsn ?_
  refine j_istore (lv' := [(5, .int kk), (4, .int (nI (6 * t))), (3, .ref qu), (2, .ref h8), (1, .ref h7), (0, .ref b)]) C dL_law_1292 (by decide) rfl ?_
  refine j_aload_n C dL_law_1294 rfl 3 rfl ?_
  refine j_aload_n C dL_law_1295 rfl 5 rfl ?_
  refine j_iload C dL_law_1296 1 rfl ?_
  refine j_iconst C (v := 1) dL_law_1298 (by decide) ?_
  refine j_iadd C dL_law_1299 ?_
  refine j_sld hC (6 * t) 1 (by omega) hp1 dL_law_1300 ?_
  refine j_cVQ (ws' := (LW X.1 h7 h5 qn qm h2 qh sa sn sm h6 qs h4 a1 a2 a3 a4 h0 h3 h1 qb h8 qz qv qp qf qo qu vD vA vL vN vM oO oS hv tL tS lD' lS' lF' lG' lR' dP dS dG dF eA eM eR hA hF hL hS nB mT' mZ mU mV mP mB mY mR mO mS mW mH uO')) (st' := [.int s]) C hc2 k_X8_ifKept gL_law_X8_ifKept rfl (ci := 8) (q0 := 0) rfl rfl (As := [.int p1]) (rest := []) rfl rfl dL_law_1301 [35, 36, 37, 38, 39, 40] [0, 1, 2, 3, 4, 5, 6, 7, 8, 9, 10, 11, 12, 13, 14, 15, 16, 17, 18, 19, 20, 21, 22, 23, 24, 25, 26, 27, 28, 29, 30, 31, 32, 33, 34, 41] [0, 1, 2, 3, 4, 5, 6, 7, 8, 9, 10, 11, 12, 13, 14, 15, 16, 17, 18, 19, 20, 21, 22, 23, 24, 25, 26, 27, 28, 29, 30, 31, 32, 33, 34, 36, 37, 38, 39, 40, 41, 35] rfl rfl rfl rfl rfl rfl hcn hsn ?_
  refine j_istore (lv' := [(6, .int s), (5, .int kk), (4, .int (nI (6 * t))), (3, .ref qu), (2, .ref h8), (1, .ref h7), (0, .ref b)]) C dL_law_1304 (by decide) rfl ?_
  have k217 : Jt X (LW X.1 h7 h5 qn qm h2 qh sa sn sm h6 qs h4 a1 a2 a3 a4 h0 h3 h1 qb h8 qz qv qp qf qo qu vD vA vL vN vM oO oS hv tL tS lD' lS' lF' lG' lR' dP dS dG dF eA eM eR hA hF hL hS nB mT' mZ mU mV mP mB mY mR mO mS mW mH uO') (ck + 1) (sk + 6) 1334 [(6, .int s), (5, .int kk), (4, .int (nI (6 * t))), (3, .ref qu), (2, .ref h8), (1, .ref h7), (0, .ref b)] [] := by
    refine j_goto C (tgt := 1608) dL_law_1334 (by decide) ?_
    exact j_loc [2, 3, 4, 5, 6] rfl K
  refine j_aload_n C dL_law_1306 rfl 4 rfl ?_
  refine j_cVQ (ws' := (LW X.1 h7 h5 qn qm h2 qh sa sn sm h6 qs h4 a1 a2 a3 a4 h0 h3 h1 qb h8 qz qv qp qf qo qu vD vA vL vN vM oO oS hv tL tS lD' lS' lF' lG' lR' dP dS dG dF eA eM eR hA hF hL hS nB mT' mZ mU mV mP mB mY mR mO mS mW mH uO')) (st' := [.int mT']) C (b_X8_thrown X.1 hC.2.2.2.2.2 h8 qz qv qp qf qo mT' mZ mU mV mP mB mY mR mO mS mW mH mT' rfl) k_X8_thrown gL_law_X8_thrown rfl (ci := 8) (q0 := 0) rfl rfl (As := []) (rest := []) rfl rfl dL_law_1307 [35, 36, 37, 38, 39, 40] [0, 1, 2, 3, 4, 5, 6, 7, 8, 9, 10, 11, 12, 13, 14, 15, 16, 17, 18, 19, 20, 21, 22, 23, 24, 25, 26, 27, 28, 29, 30, 31, 32, 33, 34, 41] [0, 1, 2, 3, 4, 5, 6, 7, 8, 9, 10, 11, 12, 13, 14, 15, 16, 17, 18, 19, 20, 21, 22, 23, 24, 25, 26, 27, 28, 29, 30, 31, 32, 33, 34, 36, 37, 38, 39, 40, 41, 35] rfl rfl rfl rfl rfl rfl hcn hsn ?_
  refine j_iload C dL_law_1310 1 rfl ?_
  refine j_icmp_eq C (tgt := 1317) dL_law_1312 (by decide) (fun _ => ?_) (fun e => absurd hk e)
  refine j_iload C dL_law_1317 1 rfl ?_
  refine j_if_ne C (tgt := 1334) dL_law_1319 (by decide) (fun _ => k217) (fun ek => ?_)
  refine j_aload_n C dL_law_1322 rfl 3 rfl ?_
  refine j_iconst C (v := 0) dL_law_1323 (by decide) ?_
  refine j_lald C (f := uO') 41 rfl vin0 dL_law_1324 ?_
  refine j_iload C dL_law_1325 0 rfl ?_
  refine j_i2l C dL_law_1327 ?_
  refine j_lcmp C dL_law_1328 ?_
  exact j_if_eq C (tgt := 1334) dL_law_1329 (by decide) (fun _ => k217) (fun e => absurd (show lg_cmp (uO' 0) s.toInt64 = 0 by rw [hs ek]; exact lg_cmp_self _) e)
set_option maxRecDepth 100000 in
set_option maxHeartbeats 8000000 in
theorem w_ifPut (hC : LC X b Ls xs) {t : Nat} (ht : 6 * t + 6 ≤ Ls) (hcn : ck + 1 ≤ 601024) (hsn : sk + 6 ≤ 7293034) {p1 : Int32} {p2 : Int32} {p3 : Int32} {p4 : Int32} {p5 : Int32} (hp1 : xs (nI (6 * t) + nI 1).toNatClampNeg = p1) (hp2 : xs (nI (6 * t) + nI 2).toNatClampNeg = p2) (hp3 : xs (nI (6 * t) + nI 3).toNatClampNeg = p3) (hp4 : xs (nI (6 * t) + nI 4).toNatClampNeg = p4) (hp5 : xs (nI (6 * t) + nI 5).toNatClampNeg = p5) {kk s : Int32} {vD : Int32} {vA : Int32} {vL : Int32} {vN : Nat → Int32} {vM : Nat → Int32} {oO : Int32} {oS : Int32} {hv : Nat → SV} {tL : Int32} {tS : Nat → Int32} {lD : Int32} {lS : Nat → Int32} {lF : Nat → Int32} {lG : Nat → Int32} {lR : Nat → Int32} {dP : Int32} {dS : Int32} {dG : Int32} {dF : Int32} {eA : Int32} {eM : Int32} {eR : Int32} {hA : Int32} {hF : Int32} {hL : Int32} {hS : Int32} {nB : Nat → Int32} {mT : Int32} {mZ : Nat → Int32} {mU : Nat → Int32} {mV : Int32} {mP : Nat → Int32} {mB : Nat → Int32} {mY : Int32} {mR : Nat → Int32} {mO : Int32} {mS : Int32} {mW : Int32} {mH : Int64} {uO : Nat → Int64} {vN' : Nat → Int32} {lD' : Int32} {lS' : Nat → Int32} {lF' : Nat → Int32} {lG' : Nat → Int32} {lR' : Nat → Int32} {mT' : Int32} {mZ' : Nat → Int32} {uO' : Nat → Int64} (hc1 : Ct X.1 yL_ifPut wsL_ifPut rm_L_ifPut [.ref h7, .int p1, .int p2, .int p3, .int p4, .int p5, .ref qu] ([(h7, .inr (7, [.ref h5, .ref h2, .ref h6, .ref h4, .ref h0, .ref h3, .ref h1, .ref qb])), (qb, .inl (gI X.1, 512, .inl nB)), (h5, .inr (5, [.int vD, .int vA, .int vL, .ref qn, .ref qm])), (qn, .inl (gI X.1, 512, .inl vN)), (qm, .inl (gI X.1, 512, .inl vM)), (h4, .inr (4, [.int lD, .ref a1, .ref a2, .ref a3, .ref a4])), (a1, .inl (gI X.1, 8, .inl lS)), (a2, .inl (gI X.1, 8, .inl lF)), (a3, .inl (gI X.1, 8, .inl lG)), (a4, .inl (gI X.1, 8, .inl lR))] ++ [(qu, .inl (gJ X.1, 1, .inr (.inl uO)))]) (fin1 (some (.int kk)) ((qu, .inl (gJ X.1, 1, .inr (.inl uO'))) :: [(h7, .inr (7, [.ref h5, .ref h2, .ref h6, .ref h4, .ref h0, .ref h3, .ref h1, .ref qb])), (qb, .inl (gI X.1, 512, .inl nB)), (h5, .inr (5, [.int vD, .int vA, .int vL, .ref qn, .ref qm])), (qn, .inl (gI X.1, 512, .inl vN')), (qm, .inl (gI X.1, 512, .inl vM)), (h4, .inr (4, [.int lD', .ref a1, .ref a2, .ref a3, .ref a4])), (a1, .inl (gI X.1, 8, .inl lS')), (a2, .inl (gI X.1, 8, .inl lF')), (a3, .inl (gI X.1, 8, .inl lG')), (a4, .inl (gI X.1, 8, .inl lR'))])) 1 6) (hc2 : Ct X.1 yX8_ifPut wsX8_ifPut rm_X8_ifPut [.ref h8, .int p1, .int p2, .int p3, .int p4, .int p5] [(h8, .inr (8, [.int mT, .ref qz, .ref qv, .int mV, .ref qp, .ref qf, .int mY, .ref qo, .int mO, .int mS, .int mW, .long mH])), (qz, .inl (gI X.1, 1027, .inl mZ)), (qv, .inl (gI X.1, 6162, .inl mU)), (qp, .inl (gI X.1, 512, .inl mP)), (qf, .inl (gI X.1, 60, .inl mB)), (qo, .inl (gI X.1, 60, .inl mR))] (fin1 (some (.int s)) [(h8, .inr (8, [.int mT', .ref qz, .ref qv, .int mV, .ref qp, .ref qf, .int mY, .ref qo, .int mO, .int mS, .int mW, .long mH])), (qz, .inl (gI X.1, 1027, .inl mZ')), (qv, .inl (gI X.1, 6162, .inl mU)), (qp, .inl (gI X.1, 512, .inl mP)), (qf, .inl (gI X.1, 60, .inl mB)), (qo, .inl (gI X.1, 60, .inl mR))]) 0 0) (hk : mT' = kk) (hs : kk = 0 → uO' 0 = s.toInt64) (K : Jt X (LW X.1 h7 h5 qn qm h2 qh sa sn sm h6 qs h4 a1 a2 a3 a4 h0 h3 h1 qb h8 qz qv qp qf qo qu vD vA vL vN' vM oO oS hv tL tS lD' lS' lF' lG' lR' dP dS dG dF eA eM eR hA hF hL hS nB mT' mZ' mU mV mP mB mY mR mO mS mW mH uO') (ck + 1) (sk + 6) 1608 (LLv b h7 h8 qu (nI (6 * t))) []) : Jt X (LW X.1 h7 h5 qn qm h2 qh sa sn sm h6 qs h4 a1 a2 a3 a4 h0 h3 h1 qb h8 qz qv qp qf qo qu vD vA vL vN vM oO oS hv tL tS lD lS lF lG lR dP dS dG dF eA eM eR hA hF hL hS nB mT mZ mU mV mP mB mY mR mO mS mW mH uO) ck sk 1337 (LLv b h7 h8 qu (nI (6 * t))) [] := by
  have C := hC.1
  refine j_aload_n C dL_law_1337 rfl 3 rfl ?_
  refine j_aload_n C dL_law_1338 rfl 4 rfl ?_
  refine j_iload C dL_law_1339 0 rfl ?_
  refine j_iconst C (v := 1) dL_law_1341 (by decide) ?_
  refine j_iadd C dL_law_1342 ?_
  refine j_sld hC (6 * t) 1 (by omega) hp1 dL_law_1343 ?_
  refine j_aload_n C dL_law_1344 rfl 4 rfl ?_
  refine j_iload C dL_law_1345 0 rfl ?_
  refine j_iconst C (v := 2) dL_law_1347 (by decide) ?_
  refine j_iadd C dL_law_1348 ?_
  refine j_sld hC (6 * t) 2 (by omega) hp2 dL_law_1349 ?_
  refine j_aload_n C dL_law_1350 rfl 4 rfl ?_
  refine j_iload C dL_law_1351 0 rfl ?_
  refine j_iconst C (v := 3) dL_law_1353 (by decide) ?_
  refine j_iadd C dL_law_1354 ?_
  refine j_sld hC (6 * t) 3 (by omega) hp3 dL_law_1355 ?_
  refine j_aload_n C dL_law_1356 rfl 4 rfl ?_
  refine j_iload C dL_law_1357 0 rfl ?_
  refine j_iconst C (v := 4) dL_law_1359 (by decide) ?_
  refine j_iadd C dL_law_1360 ?_
  refine j_sld hC (6 * t) 4 (by omega) hp4 dL_law_1361 ?_
  refine j_aload_n C dL_law_1362 rfl 4 rfl ?_
  refine j_iload C dL_law_1363 0 rfl ?_
  refine j_iconst C (v := 5) dL_law_1365 (by decide) ?_
  refine j_iadd C dL_law_1366 ?_
  refine j_sld hC (6 * t) 5 (by omega) hp5 dL_law_1367 ?_
  refine j_aload_n C dL_law_1368 rfl 1 rfl ?_
  refine j_cSW (ws' := (LW X.1 h7 h5 qn qm h2 qh sa sn sm h6 qs h4 a1 a2 a3 a4 h0 h3 h1 qb h8 qz qv qp qf qo qu vD vA vL vN' vM oO oS hv tL tS lD' lS' lF' lG' lR' dP dS dG dF eA eM eR hA hF hL hS nB mT mZ mU mV mP mB mY mR mO mS mW mH uO')) (st' := [.int kk]) C hc1 k_L_ifPut gL_law_L_ifPut (As := [.ref h7, .int p1, .int p2, .int p3, .int p4, .int p5, .ref qu]) (rest := []) rfl rfl dL_law_1369 [0, 34, 1, 2, 3, 26, 27, 28, 29, 30, 41] [4, 5, 6, 7, 8, 9, 10, 11, 12, 13, 14, 15, 16, 17, 18, 19, 20, 21, 22, 23, 24, 25, 31, 32, 33, 35, 36, 37, 38, 39, 40] [32, 34, 35, 36, 0, 1, 2, 3, 4, 5, 6, 7, 8, 9, 10, 11, 12, 13, 14, 15, 16, 17, 18, 19, 20, 21, 37, 38, 39, 40, 41, 22, 23, 24, 33, 25, 26, 27, 28, 29, 30, 31] rfl rfl rfl rfl rfl rfl hcn hsn ?_
  refine j_istore (lv' := [(5, .int kk), (4, .int (nI (6 * t))), (3, .ref qu), (2, .ref h8), (1, .ref h7), (0, .ref b)]) C dL_law_1372 (by decide) rfl ?_
  refine j_aload_n C dL_law_1374 rfl 3 rfl ?_
  refine j_aload_n C dL_law_1375 rfl 5 rfl ?_
  refine j_iload C dL_law_1376 1 rfl ?_
  refine j_iconst C (v := 1) dL_law_1378 (by decide) ?_
  refine j_iadd C dL_law_1379 ?_
  refine j_sld hC (6 * t) 1 (by omega) hp1 dL_law_1380 ?_
  refine j_aload_n C dL_law_1381 rfl 5 rfl ?_
  refine j_iload C dL_law_1382 1 rfl ?_
  refine j_iconst C (v := 2) dL_law_1384 (by decide) ?_
  refine j_iadd C dL_law_1385 ?_
  refine j_sld hC (6 * t) 2 (by omega) hp2 dL_law_1386 ?_
  refine j_aload_n C dL_law_1387 rfl 5 rfl ?_
  refine j_iload C dL_law_1388 1 rfl ?_
  refine j_iconst C (v := 3) dL_law_1390 (by decide) ?_
  refine j_iadd C dL_law_1391 ?_
  refine j_sld hC (6 * t) 3 (by omega) hp3 dL_law_1392 ?_
  refine j_aload_n C dL_law_1393 rfl 5 rfl ?_
  refine j_iload C dL_law_1394 1 rfl ?_
  refine j_iconst C (v := 4) dL_law_1396 (by decide) ?_
  refine j_iadd C dL_law_1397 ?_
  refine j_sld hC (6 * t) 4 (by omega) hp4 dL_law_1398 ?_
  refine j_aload_n C dL_law_1399 rfl 5 rfl ?_
  refine j_iload C dL_law_1400 1 rfl ?_
  refine j_iconst C (v := 5) dL_law_1402 (by decide) ?_
  refine j_iadd C dL_law_1403 ?_
  refine j_sld hC (6 * t) 5 (by omega) hp5 dL_law_1404 ?_
  refine j_cVQ (ws' := (LW X.1 h7 h5 qn qm h2 qh sa sn sm h6 qs h4 a1 a2 a3 a4 h0 h3 h1 qb h8 qz qv qp qf qo qu vD vA vL vN' vM oO oS hv tL tS lD' lS' lF' lG' lR' dP dS dG dF eA eM eR hA hF hL hS nB mT' mZ' mU mV mP mB mY mR mO mS mW mH uO')) (st' := [.int s]) C hc2 k_X8_ifPut gL_law_X8_ifPut rfl (ci := 8) (q0 := 0) rfl rfl (As := [.int p1, .int p2, .int p3, .int p4, .int p5]) (rest := []) rfl rfl dL_law_1405 [35, 36, 37, 38, 39, 40] [0, 1, 2, 3, 4, 5, 6, 7, 8, 9, 10, 11, 12, 13, 14, 15, 16, 17, 18, 19, 20, 21, 22, 23, 24, 25, 26, 27, 28, 29, 30, 31, 32, 33, 34, 41] [0, 1, 2, 3, 4, 5, 6, 7, 8, 9, 10, 11, 12, 13, 14, 15, 16, 17, 18, 19, 20, 21, 22, 23, 24, 25, 26, 27, 28, 29, 30, 31, 32, 33, 34, 36, 37, 38, 39, 40, 41, 35] rfl rfl rfl rfl rfl rfl hcn hsn ?_
  refine j_istore (lv' := [(6, .int s), (5, .int kk), (4, .int (nI (6 * t))), (3, .ref qu), (2, .ref h8), (1, .ref h7), (0, .ref b)]) C dL_law_1408 (by decide) rfl ?_
  have k217 : Jt X (LW X.1 h7 h5 qn qm h2 qh sa sn sm h6 qs h4 a1 a2 a3 a4 h0 h3 h1 qb h8 qz qv qp qf qo qu vD vA vL vN' vM oO oS hv tL tS lD' lS' lF' lG' lR' dP dS dG dF eA eM eR hA hF hL hS nB mT' mZ' mU mV mP mB mY mR mO mS mW mH uO') (ck + 1) (sk + 6) 1438 [(6, .int s), (5, .int kk), (4, .int (nI (6 * t))), (3, .ref qu), (2, .ref h8), (1, .ref h7), (0, .ref b)] [] := by
    refine j_goto C (tgt := 1608) dL_law_1438 (by decide) ?_
    exact j_loc [2, 3, 4, 5, 6] rfl K
  refine j_aload_n C dL_law_1410 rfl 4 rfl ?_
  refine j_cVQ (ws' := (LW X.1 h7 h5 qn qm h2 qh sa sn sm h6 qs h4 a1 a2 a3 a4 h0 h3 h1 qb h8 qz qv qp qf qo qu vD vA vL vN' vM oO oS hv tL tS lD' lS' lF' lG' lR' dP dS dG dF eA eM eR hA hF hL hS nB mT' mZ' mU mV mP mB mY mR mO mS mW mH uO')) (st' := [.int mT']) C (b_X8_thrown X.1 hC.2.2.2.2.2 h8 qz qv qp qf qo mT' mZ' mU mV mP mB mY mR mO mS mW mH mT' rfl) k_X8_thrown gL_law_X8_thrown rfl (ci := 8) (q0 := 0) rfl rfl (As := []) (rest := []) rfl rfl dL_law_1411 [35, 36, 37, 38, 39, 40] [0, 1, 2, 3, 4, 5, 6, 7, 8, 9, 10, 11, 12, 13, 14, 15, 16, 17, 18, 19, 20, 21, 22, 23, 24, 25, 26, 27, 28, 29, 30, 31, 32, 33, 34, 41] [0, 1, 2, 3, 4, 5, 6, 7, 8, 9, 10, 11, 12, 13, 14, 15, 16, 17, 18, 19, 20, 21, 22, 23, 24, 25, 26, 27, 28, 29, 30, 31, 32, 33, 34, 36, 37, 38, 39, 40, 41, 35] rfl rfl rfl rfl rfl rfl hcn hsn ?_
  refine j_iload C dL_law_1414 1 rfl ?_
  refine j_icmp_eq C (tgt := 1421) dL_law_1416 (by decide) (fun _ => ?_) (fun e => absurd hk e)
  refine j_iload C dL_law_1421 1 rfl ?_
  refine j_if_ne C (tgt := 1438) dL_law_1423 (by decide) (fun _ => k217) (fun ek => ?_)
  refine j_aload_n C dL_law_1426 rfl 3 rfl ?_
  refine j_iconst C (v := 0) dL_law_1427 (by decide) ?_
  refine j_lald C (f := uO') 41 rfl vin0 dL_law_1428 ?_
  refine j_iload C dL_law_1429 0 rfl ?_
  refine j_i2l C dL_law_1431 ?_
  refine j_lcmp C dL_law_1432 ?_
  exact j_if_eq C (tgt := 1438) dL_law_1433 (by decide) (fun _ => k217) (fun e => absurd (show lg_cmp (uO' 0) s.toInt64 = 0 by rw [hs ek]; exact lg_cmp_self _) e)
set_option maxRecDepth 100000 in
set_option maxHeartbeats 8000000 in
theorem w_best (hC : LC X b Ls xs) {t : Nat} (ht : 6 * t + 6 ≤ Ls) (hcn : ck + 1 ≤ 601024) (hsn : sk + 6 ≤ 7293034) {p1 : Int32} (hp1 : xs (nI (6 * t) + nI 1).toNatClampNeg = p1) {kk s : Int32} {vD : Int32} {vA : Int32} {vL : Int32} {vN : Nat → Int32} {vM : Nat → Int32} {oO : Int32} {oS : Int32} {hv : Nat → SV} {tL : Int32} {tS : Nat → Int32} {lD : Int32} {lS : Nat → Int32} {lF : Nat → Int32} {lG : Nat → Int32} {lR : Nat → Int32} {dP : Int32} {dS : Int32} {dG : Int32} {dF : Int32} {eA : Int32} {eM : Int32} {eR : Int32} {hA : Int32} {hF : Int32} {hL : Int32} {hS : Int32} {nB : Nat → Int32} {mT : Int32} {mZ : Nat → Int32} {mU : Nat → Int32} {mV : Int32} {mP : Nat → Int32} {mB : Nat → Int32} {mY : Int32} {mR : Nat → Int32} {mO : Int32} {mS : Int32} {mW : Int32} {mH : Int64} {uO : Nat → Int64} {lD' : Int32} {lS' : Nat → Int32} {lF' : Nat → Int32} {lG' : Nat → Int32} {lR' : Nat → Int32} {eA' : Int32} {eM' : Int32} {eR' : Int32} {mT' : Int32} {mZ' : Nat → Int32} {uO' : Nat → Int64} (hc1 : Ct X.1 yL_best wsL_best rm_L_best [.ref h7, .int p1, .ref qu] ([(h7, .inr (7, [.ref h5, .ref h2, .ref h6, .ref h4, .ref h0, .ref h3, .ref h1, .ref qb])), (qb, .inl (gI X.1, 512, .inl nB)), (h5, .inr (5, [.int vD, .int vA, .int vL, .ref qn, .ref qm])), (qn, .inl (gI X.1, 512, .inl vN)), (qm, .inl (gI X.1, 512, .inl vM)), (h4, .inr (4, [.int lD, .ref a1, .ref a2, .ref a3, .ref a4])), (a1, .inl (gI X.1, 8, .inl lS)), (a2, .inl (gI X.1, 8, .inl lF)), (a3, .inl (gI X.1, 8, .inl lG)), (a4, .inl (gI X.1, 8, .inl lR)), (h3, .inr (3, [.int eA, .int eM, .int eR]))] ++ [(qu, .inl (gJ X.1, 1, .inr (.inl uO)))]) (fin1 (some (.int kk)) ((qu, .inl (gJ X.1, 1, .inr (.inl uO'))) :: [(h7, .inr (7, [.ref h5, .ref h2, .ref h6, .ref h4, .ref h0, .ref h3, .ref h1, .ref qb])), (qb, .inl (gI X.1, 512, .inl nB)), (h5, .inr (5, [.int vD, .int vA, .int vL, .ref qn, .ref qm])), (qn, .inl (gI X.1, 512, .inl vN)), (qm, .inl (gI X.1, 512, .inl vM)), (h4, .inr (4, [.int lD', .ref a1, .ref a2, .ref a3, .ref a4])), (a1, .inl (gI X.1, 8, .inl lS')), (a2, .inl (gI X.1, 8, .inl lF')), (a3, .inl (gI X.1, 8, .inl lG')), (a4, .inl (gI X.1, 8, .inl lR')), (h3, .inr (3, [.int eA', .int eM', .int eR']))])) 1 6) (hc2 : Ct X.1 yX8_best wsX8_best rm_X8_best [.ref h8, .int p1] [(h8, .inr (8, [.int mT, .ref qz, .ref qv, .int mV, .ref qp, .ref qf, .int mY, .ref qo, .int mO, .int mS, .int mW, .long mH])), (qz, .inl (gI X.1, 1027, .inl mZ)), (qv, .inl (gI X.1, 6162, .inl mU)), (qp, .inl (gI X.1, 512, .inl mP)), (qf, .inl (gI X.1, 60, .inl mB)), (qo, .inl (gI X.1, 60, .inl mR))] (fin1 (some (.int s)) [(h8, .inr (8, [.int mT', .ref qz, .ref qv, .int mV, .ref qp, .ref qf, .int mY, .ref qo, .int mO, .int mS, .int mW, .long mH])), (qz, .inl (gI X.1, 1027, .inl mZ')), (qv, .inl (gI X.1, 6162, .inl mU)), (qp, .inl (gI X.1, 512, .inl mP)), (qf, .inl (gI X.1, 60, .inl mB)), (qo, .inl (gI X.1, 60, .inl mR))]) 0 0) (hk : mT' = kk) (hs : kk = 0 → uO' 0 = s.toInt64) (K : Jt X (LW X.1 h7 h5 qn qm h2 qh sa sn sm h6 qs h4 a1 a2 a3 a4 h0 h3 h1 qb h8 qz qv qp qf qo qu vD vA vL vN vM oO oS hv tL tS lD' lS' lF' lG' lR' dP dS dG dF eA' eM' eR' hA hF hL hS nB mT' mZ' mU mV mP mB mY mR mO mS mW mH uO') (ck + 1) (sk + 6) 1608 (LLv b h7 h8 qu (nI (6 * t))) []) : Jt X (LW X.1 h7 h5 qn qm h2 qh sa sn sm h6 qs h4 a1 a2 a3 a4 h0 h3 h1 qb h8 qz qv qp qf qo qu vD vA vL vN vM oO oS hv tL tS lD lS lF lG lR dP dS dG dF eA eM eR hA hF hL hS nB mT mZ mU mV mP mB mY mR mO mS mW mH uO) ck sk 1441 (LLv b h7 h8 qu (nI (6 * t))) [] := by
  have C := hC.1
  refine j_aload_n C dL_law_1441 rfl 3 rfl ?_
  refine j_aload_n C dL_law_1442 rfl 4 rfl ?_
  refine j_iload C dL_law_1443 0 rfl ?_
  refine j_iconst C (v := 1) dL_law_1445 (by decide) ?_
  refine j_iadd C dL_law_1446 ?_
  refine j_sld hC (6 * t) 1 (by omega) hp1 dL_law_1447 ?_
  refine j_aload_n C dL_law_1448 rfl 1 rfl ?_
  refine j_cSW (ws' := (LW X.1 h7 h5 qn qm h2 qh sa sn sm h6 qs h4 a1 a2 a3 a4 h0 h3 h1 qb h8 qz qv qp qf qo qu vD vA vL vN vM oO oS hv tL tS lD' lS' lF' lG' lR' dP dS dG dF eA' eM' eR' hA hF hL hS nB mT mZ mU mV mP mB mY mR mO mS mW mH uO')) (st' := [.int kk]) C hc1 k_L_best gL_law_L_best (As := [.ref h7, .int p1, .ref qu]) (rest := []) rfl rfl dL_law_1449 [0, 34, 1, 2, 3, 26, 27, 28, 29, 30, 32, 41] [4, 5, 6, 7, 8, 9, 10, 11, 12, 13, 14, 15, 16, 17, 18, 19, 20, 21, 22, 23, 24, 25, 31, 33, 35, 36, 37, 38, 39, 40] [31, 33, 34, 35, 0, 1, 2, 3, 4, 5, 6, 7, 8, 9, 10, 11, 12, 13, 14, 15, 16, 17, 18, 19, 20, 21, 36, 37, 38, 39, 40, 22, 41, 23, 32, 24, 25, 26, 27, 28, 29, 30] rfl rfl rfl rfl rfl rfl hcn hsn ?_
  refine j_istore (lv' := [(5, .int kk), (4, .int (nI (6 * t))), (3, .ref qu), (2, .ref h8), (1, .ref h7), (0, .ref b)]) C dL_law_1452 (by decide) rfl ?_
  refine j_aload_n C dL_law_1454 rfl 3 rfl ?_
  refine j_aload_n C dL_law_1455 rfl 5 rfl ?_
  refine j_iload C dL_law_1456 1 rfl ?_
  refine j_iconst C (v := 1) dL_law_1458 (by decide) ?_
  refine j_iadd C dL_law_1459 ?_
  refine j_sld hC (6 * t) 1 (by omega) hp1 dL_law_1460 ?_
  refine j_cVQ (ws' := (LW X.1 h7 h5 qn qm h2 qh sa sn sm h6 qs h4 a1 a2 a3 a4 h0 h3 h1 qb h8 qz qv qp qf qo qu vD vA vL vN vM oO oS hv tL tS lD' lS' lF' lG' lR' dP dS dG dF eA' eM' eR' hA hF hL hS nB mT' mZ' mU mV mP mB mY mR mO mS mW mH uO')) (st' := [.int s]) C hc2 k_X8_best gL_law_X8_best rfl (ci := 8) (q0 := 0) rfl rfl (As := [.int p1]) (rest := []) rfl rfl dL_law_1461 [35, 36, 37, 38, 39, 40] [0, 1, 2, 3, 4, 5, 6, 7, 8, 9, 10, 11, 12, 13, 14, 15, 16, 17, 18, 19, 20, 21, 22, 23, 24, 25, 26, 27, 28, 29, 30, 31, 32, 33, 34, 41] [0, 1, 2, 3, 4, 5, 6, 7, 8, 9, 10, 11, 12, 13, 14, 15, 16, 17, 18, 19, 20, 21, 22, 23, 24, 25, 26, 27, 28, 29, 30, 31, 32, 33, 34, 36, 37, 38, 39, 40, 41, 35] rfl rfl rfl rfl rfl rfl hcn hsn ?_
  refine j_istore (lv' := [(6, .int s), (5, .int kk), (4, .int (nI (6 * t))), (3, .ref qu), (2, .ref h8), (1, .ref h7), (0, .ref b)]) C dL_law_1464 (by decide) rfl ?_
  have k217 : Jt X (LW X.1 h7 h5 qn qm h2 qh sa sn sm h6 qs h4 a1 a2 a3 a4 h0 h3 h1 qb h8 qz qv qp qf qo qu vD vA vL vN vM oO oS hv tL tS lD' lS' lF' lG' lR' dP dS dG dF eA' eM' eR' hA hF hL hS nB mT' mZ' mU mV mP mB mY mR mO mS mW mH uO') (ck + 1) (sk + 6) 1494 [(6, .int s), (5, .int kk), (4, .int (nI (6 * t))), (3, .ref qu), (2, .ref h8), (1, .ref h7), (0, .ref b)] [] := by
    refine j_goto C (tgt := 1608) dL_law_1494 (by decide) ?_
    exact j_loc [2, 3, 4, 5, 6] rfl K
  refine j_aload_n C dL_law_1466 rfl 4 rfl ?_
  refine j_cVQ (ws' := (LW X.1 h7 h5 qn qm h2 qh sa sn sm h6 qs h4 a1 a2 a3 a4 h0 h3 h1 qb h8 qz qv qp qf qo qu vD vA vL vN vM oO oS hv tL tS lD' lS' lF' lG' lR' dP dS dG dF eA' eM' eR' hA hF hL hS nB mT' mZ' mU mV mP mB mY mR mO mS mW mH uO')) (st' := [.int mT']) C (b_X8_thrown X.1 hC.2.2.2.2.2 h8 qz qv qp qf qo mT' mZ' mU mV mP mB mY mR mO mS mW mH mT' rfl) k_X8_thrown gL_law_X8_thrown rfl (ci := 8) (q0 := 0) rfl rfl (As := []) (rest := []) rfl rfl dL_law_1467 [35, 36, 37, 38, 39, 40] [0, 1, 2, 3, 4, 5, 6, 7, 8, 9, 10, 11, 12, 13, 14, 15, 16, 17, 18, 19, 20, 21, 22, 23, 24, 25, 26, 27, 28, 29, 30, 31, 32, 33, 34, 41] [0, 1, 2, 3, 4, 5, 6, 7, 8, 9, 10, 11, 12, 13, 14, 15, 16, 17, 18, 19, 20, 21, 22, 23, 24, 25, 26, 27, 28, 29, 30, 31, 32, 33, 34, 36, 37, 38, 39, 40, 41, 35] rfl rfl rfl rfl rfl rfl hcn hsn ?_
  refine j_iload C dL_law_1470 1 rfl ?_
  refine j_icmp_eq C (tgt := 1477) dL_law_1472 (by decide) (fun _ => ?_) (fun e => absurd hk e)
  refine j_iload C dL_law_1477 1 rfl ?_
  refine j_if_ne C (tgt := 1494) dL_law_1479 (by decide) (fun _ => k217) (fun ek => ?_)
  refine j_aload_n C dL_law_1482 rfl 3 rfl ?_
  refine j_iconst C (v := 0) dL_law_1483 (by decide) ?_
  refine j_lald C (f := uO') 41 rfl vin0 dL_law_1484 ?_
  refine j_iload C dL_law_1485 0 rfl ?_
  refine j_i2l C dL_law_1487 ?_
  refine j_lcmp C dL_law_1488 ?_
  exact j_if_eq C (tgt := 1494) dL_law_1489 (by decide) (fun _ => k217) (fun e => absurd (show lg_cmp (uO' 0) s.toInt64 = 0 by rw [hs ek]; exact lg_cmp_self _) e)
set_option maxRecDepth 100000 in
set_option maxHeartbeats 8000000 in
theorem w_heaviest (hC : LC X b Ls xs) {t : Nat} (ht : 6 * t + 6 ≤ Ls) (hcn : ck + 1 ≤ 601024) (hsn : sk + 6 ≤ 7293034) {p1 : Int32} (hp1 : xs (nI (6 * t) + nI 1).toNatClampNeg = p1) {kk s : Int32} {vD : Int32} {vA : Int32} {vL : Int32} {vN : Nat → Int32} {vM : Nat → Int32} {oO : Int32} {oS : Int32} {hv : Nat → SV} {tL : Int32} {tS : Nat → Int32} {lD : Int32} {lS : Nat → Int32} {lF : Nat → Int32} {lG : Nat → Int32} {lR : Nat → Int32} {dP : Int32} {dS : Int32} {dG : Int32} {dF : Int32} {eA : Int32} {eM : Int32} {eR : Int32} {hA : Int32} {hF : Int32} {hL : Int32} {hS : Int32} {nB : Nat → Int32} {mT : Int32} {mZ : Nat → Int32} {mU : Nat → Int32} {mV : Int32} {mP : Nat → Int32} {mB : Nat → Int32} {mY : Int32} {mR : Nat → Int32} {mO : Int32} {mS : Int32} {mW : Int32} {mH : Int64} {uO : Nat → Int64} {hA' : Int32} {hF' : Int32} {hL' : Int32} {hS' : Int32} {mT' : Int32} {uO' : Nat → Int64} (hc1 : Ct X.1 yL_heaviest wsL_heaviest rm_L_heaviest [.ref h7, .int p1, .ref qu] ([(h7, .inr (7, [.ref h5, .ref h2, .ref h6, .ref h4, .ref h0, .ref h3, .ref h1, .ref qb])), (qb, .inl (gI X.1, 512, .inl nB)), (h5, .inr (5, [.int vD, .int vA, .int vL, .ref qn, .ref qm])), (qn, .inl (gI X.1, 512, .inl vN)), (qm, .inl (gI X.1, 512, .inl vM)), (h1, .inr (1, [.int hA, .int hF, .int hL, .int hS]))] ++ [(qu, .inl (gJ X.1, 1, .inr (.inl uO)))]) (fin1 (some (.int kk)) ((qu, .inl (gJ X.1, 1, .inr (.inl uO'))) :: [(h7, .inr (7, [.ref h5, .ref h2, .ref h6, .ref h4, .ref h0, .ref h3, .ref h1, .ref qb])), (qb, .inl (gI X.1, 512, .inl nB)), (h5, .inr (5, [.int vD, .int vA, .int vL, .ref qn, .ref qm])), (qn, .inl (gI X.1, 512, .inl vN)), (qm, .inl (gI X.1, 512, .inl vM)), (h1, .inr (1, [.int hA', .int hF', .int hL', .int hS']))])) 1 6) (hc2 : Ct X.1 yX8_heaviest wsX8_heaviest rm_X8_heaviest [.ref h8, .int p1] [(h8, .inr (8, [.int mT, .ref qz, .ref qv, .int mV, .ref qp, .ref qf, .int mY, .ref qo, .int mO, .int mS, .int mW, .long mH])), (qz, .inl (gI X.1, 1027, .inl mZ)), (qv, .inl (gI X.1, 6162, .inl mU)), (qp, .inl (gI X.1, 512, .inl mP)), (qf, .inl (gI X.1, 60, .inl mB)), (qo, .inl (gI X.1, 60, .inl mR))] (fin1 (some (.int s)) [(h8, .inr (8, [.int mT', .ref qz, .ref qv, .int mV, .ref qp, .ref qf, .int mY, .ref qo, .int mO, .int mS, .int mW, .long mH])), (qz, .inl (gI X.1, 1027, .inl mZ)), (qv, .inl (gI X.1, 6162, .inl mU)), (qp, .inl (gI X.1, 512, .inl mP)), (qf, .inl (gI X.1, 60, .inl mB)), (qo, .inl (gI X.1, 60, .inl mR))]) 0 0) (hk : mT' = kk) (hs : kk = 0 → uO' 0 = s.toInt64) (K : Jt X (LW X.1 h7 h5 qn qm h2 qh sa sn sm h6 qs h4 a1 a2 a3 a4 h0 h3 h1 qb h8 qz qv qp qf qo qu vD vA vL vN vM oO oS hv tL tS lD lS lF lG lR dP dS dG dF eA eM eR hA' hF' hL' hS' nB mT' mZ mU mV mP mB mY mR mO mS mW mH uO') (ck + 1) (sk + 6) 1608 (LLv b h7 h8 qu (nI (6 * t))) []) : Jt X (LW X.1 h7 h5 qn qm h2 qh sa sn sm h6 qs h4 a1 a2 a3 a4 h0 h3 h1 qb h8 qz qv qp qf qo qu vD vA vL vN vM oO oS hv tL tS lD lS lF lG lR dP dS dG dF eA eM eR hA hF hL hS nB mT mZ mU mV mP mB mY mR mO mS mW mH uO) ck sk 1497 (LLv b h7 h8 qu (nI (6 * t))) [] := by
  have C := hC.1
  refine j_aload_n C dL_law_1497 rfl 3 rfl ?_
  refine j_aload_n C dL_law_1498 rfl 4 rfl ?_
  refine j_iload C dL_law_1499 0 rfl ?_
  refine j_iconst C (v := 1) dL_law_1501 (by decide) ?_
  refine j_iadd C dL_law_1502 ?_
  refine j_sld hC (6 * t) 1 (by omega) hp1 dL_law_1503 ?_
  refine j_aload_n C dL_law_1504 rfl 1 rfl ?_
  refine j_cSW (ws' := (LW X.1 h7 h5 qn qm h2 qh sa sn sm h6 qs h4 a1 a2 a3 a4 h0 h3 h1 qb h8 qz qv qp qf qo qu vD vA vL vN vM oO oS hv tL tS lD lS lF lG lR dP dS dG dF eA eM eR hA' hF' hL' hS' nB mT mZ mU mV mP mB mY mR mO mS mW mH uO')) (st' := [.int kk]) C hc1 k_L_heaviest gL_law_L_heaviest (As := [.ref h7, .int p1, .ref qu]) (rest := []) rfl rfl dL_law_1505 [0, 34, 1, 2, 3, 33, 41] [4, 5, 6, 7, 8, 9, 10, 11, 12, 13, 14, 15, 16, 17, 18, 19, 20, 21, 22, 23, 24, 25, 26, 27, 28, 29, 30, 31, 32, 35, 36, 37, 38, 39, 40] [36, 38, 39, 40, 0, 1, 2, 3, 4, 5, 6, 7, 8, 9, 10, 11, 12, 13, 14, 15, 16, 17, 18, 19, 20, 21, 22, 23, 24, 25, 26, 27, 28, 41, 37, 29, 30, 31, 32, 33, 34, 35] rfl rfl rfl rfl rfl rfl hcn hsn ?_
  refine j_istore (lv' := [(5, .int kk), (4, .int (nI (6 * t))), (3, .ref qu), (2, .ref h8), (1, .ref h7), (0, .ref b)]) C dL_law_1508 (by decide) rfl ?_
  refine j_aload_n C dL_law_1510 rfl 3 rfl ?_
  refine j_aload_n C dL_law_1511 rfl 5 rfl ?_
  refine j_iload C dL_law_1512 1 rfl ?_
  refine j_iconst C (v := 1) dL_law_1514 (by decide) ?_
  refine j_iadd C dL_law_1515 ?_
  refine j_sld hC (6 * t) 1 (by omega) hp1 dL_law_1516 ?_
  refine j_cVQ (ws' := (LW X.1 h7 h5 qn qm h2 qh sa sn sm h6 qs h4 a1 a2 a3 a4 h0 h3 h1 qb h8 qz qv qp qf qo qu vD vA vL vN vM oO oS hv tL tS lD lS lF lG lR dP dS dG dF eA eM eR hA' hF' hL' hS' nB mT' mZ mU mV mP mB mY mR mO mS mW mH uO')) (st' := [.int s]) C hc2 k_X8_heaviest gL_law_X8_heaviest rfl (ci := 8) (q0 := 0) rfl rfl (As := [.int p1]) (rest := []) rfl rfl dL_law_1517 [35, 36, 37, 38, 39, 40] [0, 1, 2, 3, 4, 5, 6, 7, 8, 9, 10, 11, 12, 13, 14, 15, 16, 17, 18, 19, 20, 21, 22, 23, 24, 25, 26, 27, 28, 29, 30, 31, 32, 33, 34, 41] [0, 1, 2, 3, 4, 5, 6, 7, 8, 9, 10, 11, 12, 13, 14, 15, 16, 17, 18, 19, 20, 21, 22, 23, 24, 25, 26, 27, 28, 29, 30, 31, 32, 33, 34, 36, 37, 38, 39, 40, 41, 35] rfl rfl rfl rfl rfl rfl hcn hsn ?_
  refine j_istore (lv' := [(6, .int s), (5, .int kk), (4, .int (nI (6 * t))), (3, .ref qu), (2, .ref h8), (1, .ref h7), (0, .ref b)]) C dL_law_1520 (by decide) rfl ?_
  have k217 : Jt X (LW X.1 h7 h5 qn qm h2 qh sa sn sm h6 qs h4 a1 a2 a3 a4 h0 h3 h1 qb h8 qz qv qp qf qo qu vD vA vL vN vM oO oS hv tL tS lD lS lF lG lR dP dS dG dF eA eM eR hA' hF' hL' hS' nB mT' mZ mU mV mP mB mY mR mO mS mW mH uO') (ck + 1) (sk + 6) 1550 [(6, .int s), (5, .int kk), (4, .int (nI (6 * t))), (3, .ref qu), (2, .ref h8), (1, .ref h7), (0, .ref b)] [] := by
    refine j_goto C (tgt := 1608) dL_law_1550 (by decide) ?_
    exact j_loc [2, 3, 4, 5, 6] rfl K
  refine j_aload_n C dL_law_1522 rfl 4 rfl ?_
  refine j_cVQ (ws' := (LW X.1 h7 h5 qn qm h2 qh sa sn sm h6 qs h4 a1 a2 a3 a4 h0 h3 h1 qb h8 qz qv qp qf qo qu vD vA vL vN vM oO oS hv tL tS lD lS lF lG lR dP dS dG dF eA eM eR hA' hF' hL' hS' nB mT' mZ mU mV mP mB mY mR mO mS mW mH uO')) (st' := [.int mT']) C (b_X8_thrown X.1 hC.2.2.2.2.2 h8 qz qv qp qf qo mT' mZ mU mV mP mB mY mR mO mS mW mH mT' rfl) k_X8_thrown gL_law_X8_thrown rfl (ci := 8) (q0 := 0) rfl rfl (As := []) (rest := []) rfl rfl dL_law_1523 [35, 36, 37, 38, 39, 40] [0, 1, 2, 3, 4, 5, 6, 7, 8, 9, 10, 11, 12, 13, 14, 15, 16, 17, 18, 19, 20, 21, 22, 23, 24, 25, 26, 27, 28, 29, 30, 31, 32, 33, 34, 41] [0, 1, 2, 3, 4, 5, 6, 7, 8, 9, 10, 11, 12, 13, 14, 15, 16, 17, 18, 19, 20, 21, 22, 23, 24, 25, 26, 27, 28, 29, 30, 31, 32, 33, 34, 36, 37, 38, 39, 40, 41, 35] rfl rfl rfl rfl rfl rfl hcn hsn ?_
  refine j_iload C dL_law_1526 1 rfl ?_
  refine j_icmp_eq C (tgt := 1533) dL_law_1528 (by decide) (fun _ => ?_) (fun e => absurd hk e)
  refine j_iload C dL_law_1533 1 rfl ?_
  refine j_if_ne C (tgt := 1550) dL_law_1535 (by decide) (fun _ => k217) (fun ek => ?_)
  refine j_aload_n C dL_law_1538 rfl 3 rfl ?_
  refine j_iconst C (v := 0) dL_law_1539 (by decide) ?_
  refine j_lald C (f := uO') 41 rfl vin0 dL_law_1540 ?_
  refine j_iload C dL_law_1541 0 rfl ?_
  refine j_i2l C dL_law_1543 ?_
  refine j_lcmp C dL_law_1544 ?_
  exact j_if_eq C (tgt := 1550) dL_law_1545 (by decide) (fun _ => k217) (fun e => absurd (show lg_cmp (uO' 0) s.toInt64 = 0 by rw [hs ek]; exact lg_cmp_self _) e)
end JLW
end
