noncomputable section
section JLW
variable {X : CX} {b Ls : Nat} {xs : Nat → Int32} {ck sk : Nat} {h7 h5 qn qm h2 qh : Nat} {sa sn sm : Nat → Nat} {h6 qs h4 a1 a2 a3 a4 h0 h3 h1 qb h8 qz qv qp qf qo qu : Nat}
set_option maxRecDepth 100000 in
set_option maxHeartbeats 8000000 in
theorem w_at (hC : LC X b Ls xs) {t : Nat} (ht : 6 * t + 6 ≤ Ls) (hcn : ck + 1 ≤ 601024) (hsn : sk + 6 ≤ 7293034) {p1 : Int32} {p2 : Int32} {p3 : Int32} (hp1 : xs (nI (6 * t) + nI 1).toNatClampNeg = p1) (hp2 : xs (nI (6 * t) + nI 2).toNatClampNeg = p2) (hp3 : xs (nI (6 * t) + nI 3).toNatClampNeg = p3) {kk s : Int32} {vD : Int32} {vA : Int32} {vL : Int32} {vN : Nat → Int32} {vM : Nat → Int32} {oO : Int32} {oS : Int32} {hv : Nat → SV} {tL : Int32} {tS : Nat → Int32} {lD : Int32} {lS : Nat → Int32} {lF : Nat → Int32} {lG : Nat → Int32} {lR : Nat → Int32} {dP : Int32} {dS : Int32} {dG : Int32} {dF : Int32} {eA : Int32} {eM : Int32} {eR : Int32} {hA : Int32} {hF : Int32} {hL : Int32} {hS : Int32} {nB : Nat → Int32} {mT : Int32} {mZ : Nat → Int32} {mU : Nat → Int32} {mV : Int32} {mP : Nat → Int32} {mB : Nat → Int32} {mY : Int32} {mR : Nat → Int32} {mO : Int32} {mS : Int32} {mW : Int32} {mH : Int64} {uO : Nat → Int64} {mT' : Int32} {uO' : Nat → Int64} (hc1 : Ct X.1 yL_at wsL_at rm_L_at [.ref h7, .int p1, .int p2, .int p3, .ref qu] ([(h7, .inr (7, [.ref h5, .ref h2, .ref h6, .ref h4, .ref h0, .ref h3, .ref h1, .ref qb])), (qb, .inl (gI X.1, 512, .inl nB)), (h5, .inr (5, [.int vD, .int vA, .int vL, .ref qn, .ref qm])), (qn, .inl (gI X.1, 512, .inl vN)), (qm, .inl (gI X.1, 512, .inl vM))] ++ [(qu, .inl (gJ X.1, 1, .inr (.inl uO)))]) (fin1 (some (.int kk)) ((qu, .inl (gJ X.1, 1, .inr (.inl uO'))) :: [(h7, .inr (7, [.ref h5, .ref h2, .ref h6, .ref h4, .ref h0, .ref h3, .ref h1, .ref qb])), (qb, .inl (gI X.1, 512, .inl nB)), (h5, .inr (5, [.int vD, .int vA, .int vL, .ref qn, .ref qm])), (qn, .inl (gI X.1, 512, .inl vN)), (qm, .inl (gI X.1, 512, .inl vM))])) 1 6) (hc2 : Ct X.1 yX8_at wsX8_at rm_X8_at [.ref h8, .int p1, .int p2, .int p3] [(h8, .inr (8, [.int mT, .ref qz, .ref qv, .int mV, .ref qp, .ref qf, .int mY, .ref qo, .int mO, .int mS, .int mW, .long mH])), (qz, .inl (gI X.1, 1027, .inl mZ)), (qv, .inl (gI X.1, 6162, .inl mU)), (qp, .inl (gI X.1, 512, .inl mP)), (qf, .inl (gI X.1, 60, .inl mB)), (qo, .inl (gI X.1, 60, .inl mR))] (fin1 (some (.int s)) [(h8, .inr (8, [.int mT', .ref qz, .ref qv, .int mV, .ref qp, .ref qf, .int mY, .ref qo, .int mO, .int mS, .int mW, .long mH])), (qz, .inl (gI X.1, 1027, .inl mZ)), (qv, .inl (gI X.1, 6162, .inl mU)), (qp, .inl (gI X.1, 512, .inl mP)), (qf, .inl (gI X.1, 60, .inl mB)), (qo, .inl (gI X.1, 60, .inl mR))]) 0 0) (hk : mT' = kk) (hs : kk = 0 → uO' 0 = s.toInt64) (K : Jt X (LW X.1 h7 h5 qn qm h2 qh sa sn sm h6 qs h4 a1 a2 a3 a4 h0 h3 h1 qb h8 qz qv qp qf qo qu vD vA vL vN vM oO oS hv tL tS lD lS lF lG lR dP dS dG dF eA eM eR hA hF hL hS nB mT' mZ mU mV mP mB mY mR mO mS mW mH uO') (ck + 1) (sk + 6) 1608 (LLv b h7 h8 qu (nI (6 * t))) []) : Jt X (LW X.1 h7 h5 qn qm h2 qh sa sn sm h6 qs h4 a1 a2 a3 a4 h0 h3 h1 qb h8 qz qv qp qf qo qu vD vA vL vN vM oO oS hv tL tS lD lS lF lG lR dP dS dG dF eA eM eR hA hF hL hS nB mT mZ mU mV mP mB mY mR mO mS mW mH uO) ck sk 861 (LLv b h7 h8 qu (nI (6 * t))) [] := by
  have C := hC.1
  refine j_aload_n C dL_law_861 rfl 3 rfl ?_
  refine j_aload_n C dL_law_862 rfl 4 rfl ?_
  refine j_iload C dL_law_863 0 rfl ?_
  refine j_iconst C (v := 1) dL_law_865 (by decide) ?_
  refine j_iadd C dL_law_866 ?_
  refine j_sld hC (6 * t) 1 (by omega) hp1 dL_law_867 ?_
  refine j_aload_n C dL_law_868 rfl 4 rfl ?_
  refine j_iload C dL_law_869 0 rfl ?_
  refine j_iconst C (v := 2) dL_law_871 (by decide) ?_
  refine j_iadd C dL_law_872 ?_
  refine j_sld hC (6 * t) 2 (by omega) hp2 dL_law_873 ?_
  refine j_aload_n C dL_law_874 rfl 4 rfl ?_
  refine j_iload C dL_law_875 0 rfl ?_
  refine j_iconst C (v := 3) dL_law_877 (by decide) ?_
  refine j_iadd C dL_law_878 ?_
  refine j_sld hC (6 * t) 3 (by omega) hp3 dL_law_879 ?_
  refine j_aload_n C dL_law_880 rfl 1 rfl ?_
  refine j_cSW (ws' := (LW X.1 h7 h5 qn qm h2 qh sa sn sm h6 qs h4 a1 a2 a3 a4 h0 h3 h1 qb h8 qz qv qp qf qo qu vD vA vL vN vM oO oS hv tL tS lD lS lF lG lR dP dS dG dF eA eM eR hA hF hL hS nB mT mZ mU mV mP mB mY mR mO mS mW mH uO')) (st' := [.int kk]) C hc1 k_L_at gL_law_L_at (As := [.ref h7, .int p1, .int p2, .int p3, .ref qu]) (rest := []) rfl rfl dL_law_881 [0, 34, 1, 2, 3, 41] [4, 5, 6, 7, 8, 9, 10, 11, 12, 13, 14, 15, 16, 17, 18, 19, 20, 21, 22, 23, 24, 25, 26, 27, 28, 29, 30, 31, 32, 33, 35, 36, 37, 38, 39, 40] [37, 39, 40, 41, 0, 1, 2, 3, 4, 5, 6, 7, 8, 9, 10, 11, 12, 13, 14, 15, 16, 17, 18, 19, 20, 21, 22, 23, 24, 25, 26, 27, 28, 29, 38, 30, 31, 32, 33, 34, 35, 36] rfl rfl rfl rfl rfl rfl hcn hsn ?_
  refine j_istore (lv' := [(5, .int kk), (4, .int (nI (6 * t))), (3, .ref qu), (2, .ref h8), (1, .ref h7), (0, .ref b)]) C dL_law_884 (by decide) rfl ?_
  refine j_aload_n C dL_law_886 rfl 3 rfl ?_
  refine j_aload_n C dL_law_887 rfl 5 rfl ?_
  refine j_iload C dL_law_888 1 rfl ?_
  refine j_iconst C (v := 1) dL_law_890 (by decide) ?_
  refine j_iadd C dL_law_891 ?_
  refine j_sld hC (6 * t) 1 (by omega) hp1 dL_law_892 ?_
  refine j_aload_n C dL_law_893 rfl 5 rfl ?_
  refine j_iload C dL_law_894 1 rfl ?_
  refine j_iconst C (v := 2) dL_law_896 (by decide) ?_
  refine j_iadd C dL_law_897 ?_
  refine j_sld hC (6 * t) 2 (by omega) hp2 dL_law_898 ?_
  refine j_aload_n C dL_law_899 rfl 5 rfl ?_
  refine j_iload C dL_law_900 1 rfl ?_
  refine j_iconst C (v := 3) dL_law_902 (by decide) ?_
  refine j_iadd C dL_law_903 ?_
  refine j_sld hC (6 * t) 3 (by omega) hp3 dL_law_904 ?_
  refine j_cVQ (ws' := (LW X.1 h7 h5 qn qm h2 qh sa sn sm h6 qs h4 a1 a2 a3 a4 h0 h3 h1 qb h8 qz qv qp qf qo qu vD vA vL vN vM oO oS hv tL tS lD lS lF lG lR dP dS dG dF eA eM eR hA hF hL hS nB mT' mZ mU mV mP mB mY mR mO mS mW mH uO')) (st' := [.int s]) C hc2 k_X8_at gL_law_X8_at rfl (ci := 8) (q0 := 0) rfl rfl (As := [.int p1, .int p2, .int p3]) (rest := []) rfl rfl dL_law_905 [35, 36, 37, 38, 39, 40] [0, 1, 2, 3, 4, 5, 6, 7, 8, 9, 10, 11, 12, 13, 14, 15, 16, 17, 18, 19, 20, 21, 22, 23, 24, 25, 26, 27, 28, 29, 30, 31, 32, 33, 34, 41] [0, 1, 2, 3, 4, 5, 6, 7, 8, 9, 10, 11, 12, 13, 14, 15, 16, 17, 18, 19, 20, 21, 22, 23, 24, 25, 26, 27, 28, 29, 30, 31, 32, 33, 34, 36, 37, 38, 39, 40, 41, 35] rfl rfl rfl rfl rfl rfl hcn hsn ?_
  refine j_istore (lv' := [(6, .int s), (5, .int kk), (4, .int (nI (6 * t))), (3, .ref qu), (2, .ref h8), (1, .ref h7), (0, .ref b)]) C dL_law_908 (by decide) rfl ?_
  have k217 : Jt X (LW X.1 h7 h5 qn qm h2 qh sa sn sm h6 qs h4 a1 a2 a3 a4 h0 h3 h1 qb h8 qz qv qp qf qo qu vD vA vL vN vM oO oS hv tL tS lD lS lF lG lR dP dS dG dF eA eM eR hA hF hL hS nB mT' mZ mU mV mP mB mY mR mO mS mW mH uO') (ck + 1) (sk + 6) 938 [(6, .int s), (5, .int kk), (4, .int (nI (6 * t))), (3, .ref qu), (2, .ref h8), (1, .ref h7), (0, .ref b)] [] := by
    refine j_goto C (tgt := 1608) dL_law_938 (by decide) ?_
    exact j_loc [2, 3, 4, 5, 6] rfl K
  refine j_aload_n C dL_law_910 rfl 4 rfl ?_
  refine j_cVQ (ws' := (LW X.1 h7 h5 qn qm h2 qh sa sn sm h6 qs h4 a1 a2 a3 a4 h0 h3 h1 qb h8 qz qv qp qf qo qu vD vA vL vN vM oO oS hv tL tS lD lS lF lG lR dP dS dG dF eA eM eR hA hF hL hS nB mT' mZ mU mV mP mB mY mR mO mS mW mH uO')) (st' := [.int mT']) C (b_X8_thrown X.1 hC.2.2.2.2.2 h8 qz qv qp qf qo mT' mZ mU mV mP mB mY mR mO mS mW mH mT' rfl) k_X8_thrown gL_law_X8_thrown rfl (ci := 8) (q0 := 0) rfl rfl (As := []) (rest := []) rfl rfl dL_law_911 [35, 36, 37, 38, 39, 40] [0, 1, 2, 3, 4, 5, 6, 7, 8, 9, 10, 11, 12, 13, 14, 15, 16, 17, 18, 19, 20, 21, 22, 23, 24, 25, 26, 27, 28, 29, 30, 31, 32, 33, 34, 41] [0, 1, 2, 3, 4, 5, 6, 7, 8, 9, 10, 11, 12, 13, 14, 15, 16, 17, 18, 19, 20, 21, 22, 23, 24, 25, 26, 27, 28, 29, 30, 31, 32, 33, 34, 36, 37, 38, 39, 40, 41, 35] rfl rfl rfl rfl rfl rfl hcn hsn ?_
  refine j_iload C dL_law_914 1 rfl ?_
  refine j_icmp_eq C (tgt := 921) dL_law_916 (by decide) (fun _ => ?_) (fun e => absurd hk e)
  refine j_iload C dL_law_921 1 rfl ?_
  refine j_if_ne C (tgt := 938) dL_law_923 (by decide) (fun _ => k217) (fun ek => ?_)
  refine j_aload_n C dL_law_926 rfl 3 rfl ?_
  refine j_iconst C (v := 0) dL_law_927 (by decide) ?_
  refine j_lald C (f := uO') 41 rfl vin0 dL_law_928 ?_
  refine j_iload C dL_law_929 0 rfl ?_
  refine j_i2l C dL_law_931 ?_
  refine j_lcmp C dL_law_932 ?_
  exact j_if_eq C (tgt := 938) dL_law_933 (by decide) (fun _ => k217) (fun e => absurd (show lg_cmp (uO' 0) s.toInt64 = 0 by rw [hs ek]; exact lg_cmp_self _) e)
set_option maxRecDepth 100000 in
set_option maxHeartbeats 8000000 in
theorem w_line (hC : LC X b Ls xs) {t : Nat} (ht : 6 * t + 6 ≤ Ls) (hcn : ck + 1 ≤ 601024) (hsn : sk + 6 ≤ 7293034) {p1 : Int32} {p2 : Int32} {p3 : Int32} (hp1 : xs (nI (6 * t) + nI 1).toNatClampNeg = p1) (hp2 : xs (nI (6 * t) + nI 2).toNatClampNeg = p2) (hp3 : xs (nI (6 * t) + nI 3).toNatClampNeg = p3) {kk s : Int32} {vD : Int32} {vA : Int32} {vL : Int32} {vN : Nat → Int32} {vM : Nat → Int32} {oO : Int32} {oS : Int32} {hv : Nat → SV} {tL : Int32} {tS : Nat → Int32} {lD : Int32} {lS : Nat → Int32} {lF : Nat → Int32} {lG : Nat → Int32} {lR : Nat → Int32} {dP : Int32} {dS : Int32} {dG : Int32} {dF : Int32} {eA : Int32} {eM : Int32} {eR : Int32} {hA : Int32} {hF : Int32} {hL : Int32} {hS : Int32} {nB : Nat → Int32} {mT : Int32} {mZ : Nat → Int32} {mU : Nat → Int32} {mV : Int32} {mP : Nat → Int32} {mB : Nat → Int32} {mY : Int32} {mR : Nat → Int32} {mO : Int32} {mS : Int32} {mW : Int32} {mH : Int64} {uO : Nat → Int64} {mT' : Int32} {uO' : Nat → Int64} (hc1 : Ct X.1 yL_line wsL_line rm_L_line [.ref h7, .int p1, .int p2, .int p3, .ref qu] ([(h7, .inr (7, [.ref h5, .ref h2, .ref h6, .ref h4, .ref h0, .ref h3, .ref h1, .ref qb])), (qb, .inl (gI X.1, 512, .inl nB)), (h5, .inr (5, [.int vD, .int vA, .int vL, .ref qn, .ref qm])), (qn, .inl (gI X.1, 512, .inl vN)), (qm, .inl (gI X.1, 512, .inl vM))] ++ [(qu, .inl (gJ X.1, 1, .inr (.inl uO)))]) (fin1 (some (.int kk)) ((qu, .inl (gJ X.1, 1, .inr (.inl uO'))) :: [(h7, .inr (7, [.ref h5, .ref h2, .ref h6, .ref h4, .ref h0, .ref h3, .ref h1, .ref qb])), (qb, .inl (gI X.1, 512, .inl nB)), (h5, .inr (5, [.int vD, .int vA, .int vL, .ref qn, .ref qm])), (qn, .inl (gI X.1, 512, .inl vN)), (qm, .inl (gI X.1, 512, .inl vM))])) 1 6) (hc2 : Ct X.1 yX8_line wsX8_line rm_X8_line [.ref h8, .int p1, .int p2, .int p3] [(h8, .inr (8, [.int mT, .ref qz, .ref qv, .int mV, .ref qp, .ref qf, .int mY, .ref qo, .int mO, .int mS, .int mW, .long mH])), (qz, .inl (gI X.1, 1027, .inl mZ)), (qv, .inl (gI X.1, 6162, .inl mU)), (qp, .inl (gI X.1, 512, .inl mP)), (qf, .inl (gI X.1, 60, .inl mB)), (qo, .inl (gI X.1, 60, .inl mR))] (fin1 (some (.int s)) [(h8, .inr (8, [.int mT', .ref qz, .ref qv, .int mV, .ref qp, .ref qf, .int mY, .ref qo, .int mO, .int mS, .int mW, .long mH])), (qz, .inl (gI X.1, 1027, .inl mZ)), (qv, .inl (gI X.1, 6162, .inl mU)), (qp, .inl (gI X.1, 512, .inl mP)), (qf, .inl (gI X.1, 60, .inl mB)), (qo, .inl (gI X.1, 60, .inl mR))]) 0 0) (hk : mT' = kk) (hs : kk = 0 → uO' 0 = s.toInt64) (K : Jt X (LW X.1 h7 h5 qn qm h2 qh sa sn sm h6 qs h4 a1 a2 a3 a4 h0 h3 h1 qb h8 qz qv qp qf qo qu vD vA vL vN vM oO oS hv tL tS lD lS lF lG lR dP dS dG dF eA eM eR hA hF hL hS nB mT' mZ mU mV mP mB mY mR mO mS mW mH uO') (ck + 1) (sk + 6) 1608 (LLv b h7 h8 qu (nI (6 * t))) []) : Jt X (LW X.1 h7 h5 qn qm h2 qh sa sn sm h6 qs h4 a1 a2 a3 a4 h0 h3 h1 qb h8 qz qv qp qf qo qu vD vA vL vN vM oO oS hv tL tS lD lS lF lG lR dP dS dG dF eA eM eR hA hF hL hS nB mT mZ mU mV mP mB mY mR mO mS mW mH uO) ck sk 941 (LLv b h7 h8 qu (nI (6 * t))) [] := by
  have C := hC.1
  refine j_aload_n C dL_law_941 rfl 3 rfl ?_
  refine j_aload_n C dL_law_942 rfl 4 rfl ?_
  refine j_iload C dL_law_943 0 rfl ?_
  refine j_iconst C (v := 1) dL_law_945 (by decide) ?_
  refine j_iadd C dL_law_946 ?_
  refine j_sld hC (6 * t) 1 (by omega) hp1 dL_law_947 ?_
  refine j_aload_n C dL_law_948 rfl 4 rfl ?_
  refine j_iload C dL_law_949 0 rfl ?_
  refine j_iconst C (v := 2) dL_law_951 (by decide) ?_
  refine j_iadd C dL_law_952 ?_
  refine j_sld hC (6 * t) 2 (by omega) hp2 dL_law_953 ?_
  refine j_aload_n C dL_law_954 rfl 4 rfl ?_
  refine j_iload C dL_law_955 0 rfl ?_
  refine j_iconst C (v := 3) dL_law_957 (by decide) ?_
  refine j_iadd C dL_law_958 ?_
  refine j_sld hC (6 * t) 3 (by omega) hp3 dL_law_959 ?_
  refine j_aload_n C dL_law_960 rfl 1 rfl ?_
  refine j_cSW (ws' := (LW X.1 h7 h5 qn qm h2 qh sa sn sm h6 qs h4 a1 a2 a3 a4 h0 h3 h1 qb h8 qz qv qp qf qo qu vD vA vL vN vM oO oS hv tL tS lD lS lF lG lR dP dS dG dF eA eM eR hA hF hL hS nB mT mZ mU mV mP mB mY mR mO mS mW mH uO')) (st' := [.int kk]) C hc1 k_L_line gL_law_L_line (As := [.ref h7, .int p1, .int p2, .int p3, .ref qu]) (rest := []) rfl rfl dL_law_961 [0, 34, 1, 2, 3, 41] [4, 5, 6, 7, 8, 9, 10, 11, 12, 13, 14, 15, 16, 17, 18, 19, 20, 21, 22, 23, 24, 25, 26, 27, 28, 29, 30, 31, 32, 33, 35, 36, 37, 38, 39, 40] [37, 39, 40, 41, 0, 1, 2, 3, 4, 5, 6, 7, 8, 9, 10, 11, 12, 13, 14, 15, 16, 17, 18, 19, 20, 21, 22, 23, 24, 25, 26, 27, 28, 29, 38, 30, 31, 32, 33, 34, 35, 36] rfl rfl rfl rfl rfl rfl hcn hsn ?_
  refine j_istore (lv' := [(5, .int kk), (4, .int (nI (6 * t))), (3, .ref qu), (2, .ref h8), (1, .ref h7), (0, .ref b)]) C dL_law_964 (by decide) rfl ?_
  refine j_aload_n C dL_law_966 rfl 3 rfl ?_
  refine j_aload_n C dL_law_967 rfl 5 rfl ?_
  refine j_iload C dL_law_968 1 rfl ?_
  refine j_iconst C (v := 1) dL_law_970 (by decide) ?_
  refine j_iadd C dL_law_971 ?_
  refine j_sld hC (6 * t) 1 (by omega) hp1 dL_law_972 ?_
  refine j_aload_n C dL_law_973 rfl 5 rfl ?_
  refine j_iload C dL_law_974 1 rfl ?_
  refine j_iconst C (v := 2) dL_law_976 (by decide) ?_
  refine j_iadd C dL_law_977 ?_
  refine j_sld hC (6 * t) 2 (by omega) hp2 dL_law_978 ?_
  refine j_aload_n C dL_law_979 rfl 5 rfl ?_
  refine j_iload C dL_law_980 1 rfl ?_
  refine j_iconst C (v := 3) dL_law_982 (by decide) ?_
  refine j_iadd C dL_law_983 ?_
  refine j_sld hC (6 * t) 3 (by omega) hp3 dL_law_984 ?_
  refine j_cVQ (ws' := (LW X.1 h7 h5 qn qm h2 qh sa sn sm h6 qs h4 a1 a2 a3 a4 h0 h3 h1 qb h8 qz qv qp qf qo qu vD vA vL vN vM oO oS hv tL tS lD lS lF lG lR dP dS dG dF eA eM eR hA hF hL hS nB mT' mZ mU mV mP mB mY mR mO mS mW mH uO')) (st' := [.int s]) C hc2 k_X8_line gL_law_X8_line rfl (ci := 8) (q0 := 0) rfl rfl (As := [.int p1, .int p2, .int p3]) (rest := []) rfl rfl dL_law_985 [35, 36, 37, 38, 39, 40] [0, 1, 2, 3, 4, 5, 6, 7, 8, 9, 10, 11, 12, 13, 14, 15, 16, 17, 18, 19, 20, 21, 22, 23, 24, 25, 26, 27, 28, 29, 30, 31, 32, 33, 34, 41] [0, 1, 2, 3, 4, 5, 6, 7, 8, 9, 10, 11, 12, 13, 14, 15, 16, 17, 18, 19, 20, 21, 22, 23, 24, 25, 26, 27, 28, 29, 30, 31, 32, 33, 34, 36, 37, 38, 39, 40, 41, 35] rfl rfl rfl rfl rfl rfl hcn hsn ?_
  refine j_istore (lv' := [(6, .int s), (5, .int kk), (4, .int (nI (6 * t))), (3, .ref qu), (2, .ref h8), (1, .ref h7), (0, .ref b)]) C dL_law_988 (by decide) rfl ?_
  have k217 : Jt X (LW X.1 h7 h5 qn qm h2 qh sa sn sm h6 qs h4 a1 a2 a3 a4 h0 h3 h1 qb h8 qz qv qp qf qo qu vD vA vL vN vM oO oS hv tL tS lD lS lF lG lR dP dS dG dF eA eM eR hA hF hL hS nB mT' mZ mU mV mP mB mY mR mO mS mW mH uO') (ck + 1) (sk + 6) 1018 [(6, .int s), (5, .int kk), (4, .int (nI (6 * t))), (3, .ref qu), (2, .ref h8), (1, .ref h7), (0, .ref b)] [] := by
    refine j_goto C (tgt := 1608) dL_law_1018 (by decide) ?_
    exact j_loc [2, 3, 4, 5, 6] rfl K
  refine j_aload_n C dL_law_990 rfl 4 rfl ?_
  refine j_cVQ (ws' := (LW X.1 h7 h5 qn qm h2 qh sa sn sm h6 qs h4 a1 a2 a3 a4 h0 h3 h1 qb h8 qz qv qp qf qo qu vD vA vL vN vM oO oS hv tL tS lD lS lF lG lR dP dS dG dF eA eM eR hA hF hL hS nB mT' mZ mU mV mP mB mY mR mO mS mW mH uO')) (st' := [.int mT']) C (b_X8_thrown X.1 hC.2.2.2.2.2 h8 qz qv qp qf qo mT' mZ mU mV mP mB mY mR mO mS mW mH mT' rfl) k_X8_thrown gL_law_X8_thrown rfl (ci := 8) (q0 := 0) rfl rfl (As := []) (rest := []) rfl rfl dL_law_991 [35, 36, 37, 38, 39, 40] [0, 1, 2, 3, 4, 5, 6, 7, 8, 9, 10, 11, 12, 13, 14, 15, 16, 17, 18, 19, 20, 21, 22, 23, 24, 25, 26, 27, 28, 29, 30, 31, 32, 33, 34, 41] [0, 1, 2, 3, 4, 5, 6, 7, 8, 9, 10, 11, 12, 13, 14, 15, 16, 17, 18, 19, 20, 21, 22, 23, 24, 25, 26, 27, 28, 29, 30, 31, 32, 33, 34, 36, 37, 38, 39, 40, 41, 35] rfl rfl rfl rfl rfl rfl hcn hsn ?_
  refine j_iload C dL_law_994 1 rfl ?_
  refine j_icmp_eq C (tgt := 1001) dL_law_996 (by decide) (fun _ => ?_) (fun e => absurd hk e)
  refine j_iload C dL_law_1001 1 rfl ?_
  refine j_if_ne C (tgt := 1018) dL_law_1003 (by decide) (fun _ => k217) (fun ek => ?_)
  refine j_aload_n C dL_law_1006 rfl 3 rfl ?_
  refine j_iconst C (v := 0) dL_law_1007 (by decide) ?_
  refine j_lald C (f := uO') 41 rfl vin0 dL_law_1008 ?_
  refine j_iload C dL_law_1009 0 rfl ?_
  refine j_i2l C dL_law_1011 ?_
  refine j_lcmp C dL_law_1012 ?_
  exact j_if_eq C (tgt := 1018) dL_law_1013 (by decide) (fun _ => k217) (fun e => absurd (show lg_cmp (uO' 0) s.toInt64 = 0 by rw [hs ek]; exact lg_cmp_self _) e)
set_option maxRecDepth 100000 in
set_option maxHeartbeats 8000000 in
theorem w_slice (hC : LC X b Ls xs) {t : Nat} (ht : 6 * t + 6 ≤ Ls) (hcn : ck + 1 ≤ 601024) (hsn : sk + 6 ≤ 7293034) {p1 : Int32} {p2 : Int32} {p3 : Int32} (hp1 : xs (nI (6 * t) + nI 1).toNatClampNeg = p1) (hp2 : xs (nI (6 * t) + nI 2).toNatClampNeg = p2) (hp3 : xs (nI (6 * t) + nI 3).toNatClampNeg = p3) {kk s : Int32} {vD : Int32} {vA : Int32} {vL : Int32} {vN : Nat → Int32} {vM : Nat → Int32} {oO : Int32} {oS : Int32} {hv : Nat → SV} {tL : Int32} {tS : Nat → Int32} {lD : Int32} {lS : Nat → Int32} {lF : Nat → Int32} {lG : Nat → Int32} {lR : Nat → Int32} {dP : Int32} {dS : Int32} {dG : Int32} {dF : Int32} {eA : Int32} {eM : Int32} {eR : Int32} {hA : Int32} {hF : Int32} {hL : Int32} {hS : Int32} {nB : Nat → Int32} {mT : Int32} {mZ : Nat → Int32} {mU : Nat → Int32} {mV : Int32} {mP : Nat → Int32} {mB : Nat → Int32} {mY : Int32} {mR : Nat → Int32} {mO : Int32} {mS : Int32} {mW : Int32} {mH : Int64} {uO : Nat → Int64} {lD' : Int32} {lS' : Nat → Int32} {lF' : Nat → Int32} {lG' : Nat → Int32} {lR' : Nat → Int32} {mT' : Int32} {uO' : Nat → Int64} (hc1 : Ct X.1 yL_slice wsL_slice rm_L_slice [.ref h7, .int p1, .int p2, .int p3, .ref qu] ([(h7, .inr (7, [.ref h5, .ref h2, .ref h6, .ref h4, .ref h0, .ref h3, .ref h1, .ref qb])), (qb, .inl (gI X.1, 512, .inl nB)), (h5, .inr (5, [.int vD, .int vA, .int vL, .ref qn, .ref qm])), (qn, .inl (gI X.1, 512, .inl vN)), (qm, .inl (gI X.1, 512, .inl vM)), (h4, .inr (4, [.int lD, .ref a1, .ref a2, .ref a3, .ref a4])), (a1, .inl (gI X.1, 8, .inl lS)), (a2, .inl (gI X.1, 8, .inl lF)), (a3, .inl (gI X.1, 8, .inl lG)), (a4, .inl (gI X.1, 8, .inl lR))] ++ [(qu, .inl (gJ X.1, 1, .inr (.inl uO)))]) (fin1 (some (.int kk)) ((qu, .inl (gJ X.1, 1, .inr (.inl uO'))) :: [(h7, .inr (7, [.ref h5, .ref h2, .ref h6, .ref h4, .ref h0, .ref h3, .ref h1, .ref qb])), (qb, .inl (gI X.1, 512, .inl nB)), (h5, .inr (5, [.int vD, .int vA, .int vL, .ref qn, .ref qm])), (qn, .inl (gI X.1, 512, .inl vN)), (qm, .inl (gI X.1, 512, .inl vM)), (h4, .inr (4, [.int lD', .ref a1, .ref a2, .ref a3, .ref a4])), (a1, .inl (gI X.1, 8, .inl lS')), (a2, .inl (gI X.1, 8, .inl lF')), (a3, .inl (gI X.1, 8, .inl lG')), (a4, .inl (gI X.1, 8, .inl lR'))])) 1 6) (hc2 : Ct X.1 yX8_slice wsX8_slice rm_X8_slice [.ref h8, .int p1, .int p2, .int p3] [(h8, .inr (8, [.int mT, .ref qz, .ref qv, .int mV, .ref qp, .ref qf, .int mY, .ref qo, .int mO, .int mS, .int mW, .long mH])), (qz, .inl (gI X.1, 1027, .inl mZ)), (qv, .inl (gI X.1, 6162, .inl mU)), (qp, .inl (gI X.1, 512, .inl mP)), (qf, .inl (gI X.1, 60, .inl mB)), (qo, .inl (gI X.1, 60, .inl mR))] (fin1 (some (.int s)) [(h8, .inr (8, [.int mT', .ref qz, .ref qv, .int mV, .ref qp, .ref qf, .int mY, .ref qo, .int mO, .int mS, .int mW, .long mH])), (qz, .inl (gI X.1, 1027, .inl mZ)), (qv, .inl (gI X.1, 6162, .inl mU)), (qp, .inl (gI X.1, 512, .inl mP)), (qf, .inl (gI X.1, 60, .inl mB)), (qo, .inl (gI X.1, 60, .inl mR))]) 0 0) (hk : mT' = kk) (hs : kk = 0 → uO' 0 = s.toInt64) (K : Jt X (LW X.1 h7 h5 qn qm h2 qh sa sn sm h6 qs h4 a1 a2 a3 a4 h0 h3 h1 qb h8 qz qv qp qf qo qu vD vA vL vN vM oO oS hv tL tS lD' lS' lF' lG' lR' dP dS dG dF eA eM eR hA hF hL hS nB mT' mZ mU mV mP mB mY mR mO mS mW mH uO') (ck + 1) (sk + 6) 1608 (LLv b h7 h8 qu (nI (6 * t))) []) : Jt X (LW X.1 h7 h5 qn qm h2 qh sa sn sm h6 qs h4 a1 a2 a3 a4 h0 h3 h1 qb h8 qz qv qp qf qo qu vD vA vL vN vM oO oS hv tL tS lD lS lF lG lR dP dS dG dF eA eM eR hA hF hL hS nB mT mZ mU mV mP mB mY mR mO mS mW mH uO) ck sk 1021 (LLv b h7 h8 qu (nI (6 * t))) [] := by
  have C := hC.1
  refine j_aload_n C dL_law_1021 rfl 3 rfl ?_
  refine j_aload_n C dL_law_1022 rfl 4 rfl ?_
  refine j_iload C dL_law_1023 0 rfl ?_
  refine j_iconst C (v := 1) dL_law_1025 (by decide) ?_
  refine j_iadd C dL_law_1026 ?_
  refine j_sld hC (6 * t) 1 (by omega) hp1 dL_law_1027 ?_
  refine j_aload_n C dL_law_1028 rfl 4 rfl ?_
  refine j_iload C dL_law_1029 0 rfl ?_
  refine j_iconst C (v := 2) dL_law_1031 (by decide) ?_
  refine j_iadd C dL_law_1032 ?_
  refine j_sld hC (6 * t) 2 (by omega) hp2 dL_law_1033 ?_
  refine j_aload_n C dL_law_1034 rfl 4 rfl ?_
  refine j_iload C dL_law_1035 0 rfl ?_
  refine j_iconst C (v := 3) dL_law_1037 (by decide) ?_
  refine j_iadd C dL_law_1038 ?_
  refine j_sld hC (6 * t) 3 (by omega) hp3 dL_law_1039 ?_
  refine j_aload_n C dL_law_1040 rfl 1 rfl ?_
  refine j_cSW (ws' := (LW X.1 h7 h5 qn qm h2 qh sa sn sm h6 qs h4 a1 a2 a3 a4 h0 h3 h1 qb h8 qz qv qp qf qo qu vD vA vL vN vM oO oS hv tL tS lD' lS' lF' lG' lR' dP dS dG dF eA eM eR hA hF hL hS nB mT mZ mU mV mP mB mY mR mO mS mW mH uO')) (st' := [.int kk]) C hc1 k_L_slice gL_law_L_slice (As := [.ref h7, .int p1, .int p2, .int p3, .ref qu]) (rest := []) rfl rfl dL_law_1041 [0, 34, 1, 2, 3, 26, 27, 28, 29, 30, 41] [4, 5, 6, 7, 8, 9, 10, 11, 12, 13, 14, 15, 16, 17, 18, 19, 20, 21, 22, 23, 24, 25, 31, 32, 33, 35, 36, 37, 38, 39, 40] [32, 34, 35, 36, 0, 1, 2, 3, 4, 5, 6, 7, 8, 9, 10, 11, 12, 13, 14, 15, 16, 17, 18, 19, 20, 21, 37, 38, 39, 40, 41, 22, 23, 24, 33, 25, 26, 27, 28, 29, 30, 31] rfl rfl rfl rfl rfl rfl hcn hsn ?_
  refine j_istore (lv' := [(5, .int kk), (4, .int (nI (6 * t))), (3, .ref qu), (2, .ref h8), (1, .ref h7), (0, .ref b)]) C dL_law_1044 (by decide) rfl ?_
  refine j_aload_n C dL_law_1046 rfl 3 rfl ?_
  refine j_aload_n C dL_law_1047 rfl 5 rfl ?_
  refine j_iload C dL_law_1048 1 rfl ?_
  refine j_iconst C (v := 1) dL_law_1050 (by decide) ?_
  refine j_iadd C dL_law_1051 ?_
  refine j_sld hC (6 * t) 1 (by omega) hp1 dL_law_1052 ?_
  refine j_aload_n C dL_law_1053 rfl 5 rfl ?_
  refine j_iload C dL_law_1054 1 rfl ?_
  refine j_iconst C (v := 2) dL_law_1056 (by decide) ?_
  refine j_iadd C dL_law_1057 ?_
  refine j_sld hC (6 * t) 2 (by omega) hp2 dL_law_1058 ?_
  refine j_aload_n C dL_law_1059 rfl 5 rfl ?_
  refine j_iload C dL_law_1060 1 rfl ?_
  refine j_iconst C (v := 3) dL_law_1062 (by decide) ?_
  refine j_iadd C dL_law_1063 ?_
  refine j_sld hC (6 * t) 3 (by omega) hp3 dL_law_1064 ?_
  refine j_cVQ (ws' := (LW X.1 h7 h5 qn qm h2 qh sa sn sm h6 qs h4 a1 a2 a3 a4 h0 h3 h1 qb h8 qz qv qp qf qo qu vD vA vL vN vM oO oS hv tL tS lD' lS' lF' lG' lR' dP dS dG dF eA eM eR hA hF hL hS nB mT' mZ mU mV mP mB mY mR mO mS mW mH uO')) (st' := [.int s]) C hc2 k_X8_slice gL_law_X8_slice rfl (ci := 8) (q0 := 0) rfl rfl (As := [.int p1, .int p2, .int p3]) (rest := []) rfl rfl dL_law_1065 [35, 36, 37, 38, 39, 40] [0, 1, 2, 3, 4, 5, 6, 7, 8, 9, 10, 11, 12, 13, 14, 15, 16, 17, 18, 19, 20, 21, 22, 23, 24, 25, 26, 27, 28, 29, 30, 31, 32, 33, 34, 41] [0, 1, 2, 3, 4, 5, 6, 7, 8, 9, 10, 11, 12, 13, 14, 15, 16, 17, 18, 19, 20, 21, 22, 23, 24, 25, 26, 27, 28, 29, 30, 31, 32, 33, 34, 36, 37, 38, 39, 40, 41, 35] rfl rfl rfl rfl rfl rfl hcn hsn ?_
  refine j_istore (lv' := [(6, .int s), (5, .int kk), (4, .int (nI (6 * t))), (3, .ref qu), (2, .ref h8), (1, .ref h7), (0, .ref b)]) C dL_law_1068 (by decide) rfl ?_
  have k217 : Jt X (LW X.1 h7 h5 qn qm h2 qh sa sn sm h6 qs h4 a1 a2 a3 a4 h0 h3 h1 qb h8 qz qv qp qf qo qu vD vA vL vN vM oO oS hv tL tS lD' lS' lF' lG' lR' dP dS dG dF eA eM eR hA hF hL hS nB mT' mZ mU mV mP mB mY mR mO mS mW mH uO') (ck + 1) (sk + 6) 1098 [(6, .int s), (5, .int kk), (4, .int (nI (6 * t))), (3, .ref qu), (2, .ref h8), (1, .ref h7), (0, .ref b)] [] := by
    refine j_goto C (tgt := 1608) dL_law_1098 (by decide) ?_
    exact j_loc [2, 3, 4, 5, 6] rfl K
  refine j_aload_n C dL_law_1070 rfl 4 rfl ?_
  refine j_cVQ (ws' := (LW X.1 h7 h5 qn qm h2 qh sa sn sm h6 qs h4 a1 a2 a3 a4 h0 h3 h1 qb h8 qz qv qp qf qo qu vD vA vL vN vM oO oS hv tL tS lD' lS' lF' lG' lR' dP dS dG dF eA eM eR hA hF hL hS nB mT' mZ mU mV mP mB mY mR mO mS mW mH uO')) (st' := [.int mT']) C (b_X8_thrown X.1 hC.2.2.2.2.2 h8 qz qv qp qf qo mT' mZ mU mV mP mB mY mR mO mS mW mH mT' rfl) k_X8_thrown gL_law_X8_thrown rfl (ci := 8) (q0 := 0) rfl rfl (As := []) (rest := []) rfl rfl dL_law_1071 [35, 36, 37, 38, 39, 40] [0, 1, 2, 3, 4, 5, 6, 7, 8, 9, 10, 11, 12, 13, 14, 15, 16, 17, 18, 19, 20, 21, 22, 23, 24, 25, 26, 27, 28, 29, 30, 31, 32, 33, 34, 41] [0, 1, 2, 3, 4, 5, 6, 7, 8, 9, 10, 11, 12, 13, 14, 15, 16, 17, 18, 19, 20, 21, 22, 23, 24, 25, 26, 27, 28, 29, 30, 31, 32, 33, 34, 36, 37, 38, 39, 40, 41, 35] rfl rfl rfl rfl rfl rfl hcn hsn ?_
  refine j_iload C dL_law_1074 1 rfl ?_
  refine j_icmp_eq C (tgt := 1081) dL_law_1076 (by decide) (fun _ => ?_) (fun e => absurd hk e)
  refine j_iload C dL_law_1081 1 rfl ?_
  refine j_if_ne C (tgt := 1098) dL_law_1083 (by decide) (fun _ => k217) (fun ek => ?_)
  refine j_aload_n C dL_law_1086 rfl 3 rfl ?_
  refine j_iconst C (v := 0) dL_law_1087 (by decide) ?_
  refine j_lald C (f := uO') 41 rfl vin0 dL_law_1088 ?_
  refine j_iload C dL_law_1089 0 rfl ?_
  refine j_i2l C dL_law_1091 ?_
  refine j_lcmp C dL_law_1092 ?_
  exact j_if_eq C (tgt := 1098) dL_law_1093 (by decide) (fun _ => k217) (fun e => absurd (show lg_cmp (uO' 0) s.toInt64 = 0 by rw [hs ek]; exact lg_cmp_self _) e)
set_option maxRecDepth 100000 in
set_option maxHeartbeats 8000000 in
theorem w_ordered (hC : LC X b Ls xs) {t : Nat} (ht : 6 * t + 6 ≤ Ls) (hcn : ck + 1 ≤ 601024) (hsn : sk + 6 ≤ 7293034) {p1 : Int32} {p2 : Int32} (hp1 : xs (nI (6 * t) + nI 1).toNatClampNeg = p1) (hp2 : xs (nI (6 * t) + nI 2).toNatClampNeg = p2) {kk s : Int32} {vD : Int32} {vA : Int32} {vL : Int32} {vN : Nat → Int32} {vM : Nat → Int32} {oO : Int32} {oS : Int32} {hv : Nat → SV} {tL : Int32} {tS : Nat → Int32} {lD : Int32} {lS : Nat → Int32} {lF : Nat → Int32} {lG : Nat → Int32} {lR : Nat → Int32} {dP : Int32} {dS : Int32} {dG : Int32} {dF : Int32} {eA : Int32} {eM : Int32} {eR : Int32} {hA : Int32} {hF : Int32} {hL : Int32} {hS : Int32} {nB : Nat → Int32} {mT : Int32} {mZ : Nat → Int32} {mU : Nat → Int32} {mV : Int32} {mP : Nat → Int32} {mB : Nat → Int32} {mY : Int32} {mR : Nat → Int32} {mO : Int32} {mS : Int32} {mW : Int32} {mH : Int64} {uO : Nat → Int64} {mT' : Int32} {uO' : Nat → Int64} (hc1 : Ct X.1 yL_ordered wsL_ordered rm_L_ordered [.ref h7, .int p1, .int p2, .ref qu] ([(h7, .inr (7, [.ref h5, .ref h2, .ref h6, .ref h4, .ref h0, .ref h3, .ref h1, .ref qb])), (qb, .inl (gI X.1, 512, .inl nB)), (h5, .inr (5, [.int vD, .int vA, .int vL, .ref qn, .ref qm])), (qn, .inl (gI X.1, 512, .inl vN)), (qm, .inl (gI X.1, 512, .inl vM))] ++ [(qu, .inl (gJ X.1, 1, .inr (.inl uO)))]) (fin1 (some (.int kk)) ((qu, .inl (gJ X.1, 1, .inr (.inl uO'))) :: [(h7, .inr (7, [.ref h5, .ref h2, .ref h6, .ref h4, .ref h0, .ref h3, .ref h1, .ref qb])), (qb, .inl (gI X.1, 512, .inl nB)), (h5, .inr (5, [.int vD, .int vA, .int vL, .ref qn, .ref qm])), (qn, .inl (gI X.1, 512, .inl vN)), (qm, .inl (gI X.1, 512, .inl vM))])) 1 6) (hc2 : Ct X.1 yX8_ordered wsX8_ordered rm_X8_ordered [.ref h8, .int p1, .int p2] [(h8, .inr (8, [.int mT, .ref qz, .ref qv, .int mV, .ref qp, .ref qf, .int mY, .ref qo, .int mO, .int mS, .int mW, .long mH])), (qz, .inl (gI X.1, 1027, .inl mZ)), (qv, .inl (gI X.1, 6162, .inl mU)), (qp, .inl (gI X.1, 512, .inl mP)), (qf, .inl (gI X.1, 60, .inl mB)), (qo, .inl (gI X.1, 60, .inl mR))] (fin1 (some (.int s)) [(h8, .inr (8, [.int mT', .ref qz, .ref qv, .int mV, .ref qp, .ref qf, .int mY, .ref qo, .int mO, .int mS, .int mW, .long mH])), (qz, .inl (gI X.1, 1027, .inl mZ)), (qv, .inl (gI X.1, 6162, .inl mU)), (qp, .inl (gI X.1, 512, .inl mP)), (qf, .inl (gI X.1, 60, .inl mB)), (qo, .inl (gI X.1, 60, .inl mR))]) 0 0) (hk : mT' = kk) (hs : kk = 0 → uO' 0 = s.toInt64) (K : Jt X (LW X.1 h7 h5 qn qm h2 qh sa sn sm h6 qs h4 a1 a2 a3 a4 h0 h3 h1 qb h8 qz qv qp qf qo qu vD vA vL vN vM oO oS hv tL tS lD lS lF lG lR dP dS dG dF eA eM eR hA hF hL hS nB mT' mZ mU mV mP mB mY mR mO mS mW mH uO') (ck + 1) (sk + 6) 1608 (LLv b h7 h8 qu (nI (6 * t))) []) : Jt X (LW X.1 h7 h5 qn qm h2 qh sa sn sm h6 qs h4 a1 a2 a3 a4 h0 h3 h1 qb h8 qz qv qp qf qo qu vD vA vL vN vM oO oS hv tL tS lD lS lF lG lR dP dS dG dF eA eM eR hA hF hL hS nB mT mZ mU mV mP mB mY mR mO mS mW mH uO) ck sk 1101 (LLv b h7 h8 qu (nI (6 * t))) [] := by
  have C := hC.1
  refine j_aload_n C dL_law_1101 rfl 3 rfl ?_
  refine j_aload_n C dL_law_1102 rfl 4 rfl ?_
  refine j_iload C dL_law_1103 0 rfl ?_
  refine j_iconst C (v := 1) dL_law_1105 (by decide) ?_
  refine j_iadd C dL_law_1106 ?_
  refine j_sld hC (6 * t) 1 (by omega) hp1 dL_law_1107 ?_
  refine j_aload_n C dL_law_1108 rfl 4 rfl ?_
  refine j_iload C dL_law_1109 0 rfl ?_
  refine j_iconst C (v := 2) dL_law_1111 (by decide) ?_
  refine j_iadd C dL_law_1112 ?_
  refine j_sld hC (6 * t) 2 (by omega) hp2 dL_law_1113 ?_
  refine j_aload_n C dL_law_1114 rfl 1 rfl ?_
  refine j_cSW (ws' := (LW X.1 h7 h5 qn qm h2 qh sa sn sm h6 qs h4 a1 a2 a3 a4 h0 h3 h1 qb h8 qz qv qp qf qo qu vD vA vL vN vM oO oS hv tL tS lD lS lF lG lR dP dS dG dF eA eM eR hA hF hL hS nB mT mZ mU mV mP mB mY mR mO mS mW mH uO')) (st' := [.int kk]) C hc1 k_L_ordered gL_law_L_ordered (As := [.ref h7, .int p1, .int p2, .ref qu]) (rest := []) rfl rfl dL_law_1115 [0, 34, 1, 2, 3, 41] [4, 5, 6, 7, 8, 9, 10, 11, 12, 13, 14, 15, 16, 17, 18, 19, 20, 21, 22, 23, 24, 25, 26, 27, 28, 29, 30, 31, 32, 33, 35, 36, 37, 38, 39, 40] [37, 39, 40, 41, 0, 1, 2, 3, 4, 5, 6, 7, 8, 9, 10, 11, 12, 13, 14, 15, 16, 17, 18, 19, 20, 21, 22, 23, 24, 25, 26, 27, 28, 29, 38, 30, 31, 32, 33, 34, 35, 36] rfl rfl rfl rfl rfl rfl hcn hsn ?_
  refine j_istore (lv' := [(5, .int kk), (4, .int (nI (6 * t))), (3, .ref qu), (2, .ref h8), (1, .ref h7), (0, .ref b)]) C dL_law_1118 (by decide) rfl ?_
  refine j_aload_n C dL_law_1120 rfl 3 rfl ?_
  refine j_aload_n C dL_law_1121 rfl 5 rfl ?_
  refine j_iload C dL_law_1122 1 rfl ?_
  refine j_iconst C (v := 1) dL_law_1124 (by decide) ?_
  refine j_iadd C dL_law_1125 ?_
  refine j_sld hC (6 * t) 1 (by omega) hp1 dL_law_1126 ?_
  refine j_aload_n C dL_law_1127 rfl 5 rfl ?_
  refine j_iload C dL_law_1128 1 rfl ?_
  refine j_iconst C (v := 2) dL_law_1130 (by decide) ?_
  refine j_iadd C dL_law_1131 ?_
  refine j_sld hC (6 * t) 2 (by omega) hp2 dL_law_1132 ?_
  refine j_cVQ (ws' := (LW X.1 h7 h5 qn qm h2 qh sa sn sm h6 qs h4 a1 a2 a3 a4 h0 h3 h1 qb h8 qz qv qp qf qo qu vD vA vL vN vM oO oS hv tL tS lD lS lF lG lR dP dS dG dF eA eM eR hA hF hL hS nB mT' mZ mU mV mP mB mY mR mO mS mW mH uO')) (st' := [.int s]) C hc2 k_X8_ordered gL_law_X8_ordered rfl (ci := 8) (q0 := 0) rfl rfl (As := [.int p1, .int p2]) (rest := []) rfl rfl dL_law_1133 [35, 36, 37, 38, 39, 40] [0, 1, 2, 3, 4, 5, 6, 7, 8, 9, 10, 11, 12, 13, 14, 15, 16, 17, 18, 19, 20, 21, 22, 23, 24, 25, 26, 27, 28, 29, 30, 31, 32, 33, 34, 41] [0, 1, 2, 3, 4, 5, 6, 7, 8, 9, 10, 11, 12, 13, 14, 15, 16, 17, 18, 19, 20, 21, 22, 23, 24, 25, 26, 27, 28, 29, 30, 31, 32, 33, 34, 36, 37, 38, 39, 40, 41, 35] rfl rfl rfl rfl rfl rfl hcn hsn ?_
  refine j_istore (lv' := [(6, .int s), (5, .int kk), (4, .int (nI (6 * t))), (3, .ref qu), (2, .ref h8), (1, .ref h7), (0, .ref b)]) C dL_law_1136 (by decide) rfl ?_
  have k217 : Jt X (LW X.1 h7 h5 qn qm h2 qh sa sn sm h6 qs h4 a1 a2 a3 a4 h0 h3 h1 qb h8 qz qv qp qf qo qu vD vA vL vN vM oO oS hv tL tS lD lS lF lG lR dP dS dG dF eA eM eR hA hF hL hS nB mT' mZ mU mV mP mB mY mR mO mS mW mH uO') (ck + 1) (sk + 6) 1166 [(6, .int s), (5, .int kk), (4, .int (nI (6 * t))), (3, .ref qu), (2, .ref h8), (1, .ref h7), (0, .ref b)] [] := by
    refine j_goto C (tgt := 1608) dL_law_1166 (by decide) ?_
    exact j_loc [2, 3, 4, 5, 6] rfl K
  refine j_aload_n C dL_law_1138 rfl 4 rfl ?_
  refine j_cVQ (ws' := (LW X.1 h7 h5 qn qm h2 qh sa sn sm h6 qs h4 a1 a2 a3 a4 h0 h3 h1 qb h8 qz qv qp qf qo qu vD vA vL vN vM oO oS hv tL tS lD lS lF lG lR dP dS dG dF eA eM eR hA hF hL hS nB mT' mZ mU mV mP mB mY mR mO mS mW mH uO')) (st' := [.int mT']) C (b_X8_thrown X.1 hC.2.2.2.2.2 h8 qz qv qp qf qo mT' mZ mU mV mP mB mY mR mO mS mW mH mT' rfl) k_X8_thrown gL_law_X8_thrown rfl (ci := 8) (q0 := 0) rfl rfl (As := []) (rest := []) rfl rfl dL_law_1139 [35, 36, 37, 38, 39, 40] [0, 1, 2, 3, 4, 5, 6, 7, 8, 9, 10, 11, 12, 13, 14, 15, 16, 17, 18, 19, 20, 21, 22, 23, 24, 25, 26, 27, 28, 29, 30, 31, 32, 33, 34, 41] [0, 1, 2, 3, 4, 5, 6, 7, 8, 9, 10, 11, 12, 13, 14, 15, 16, 17, 18, 19, 20, 21, 22, 23, 24, 25, 26, 27, 28, 29, 30, 31, 32, 33, 34, 36, 37, 38, 39, 40, 41, 35] rfl rfl rfl rfl rfl rfl hcn hsn ?_
  refine j_iload C dL_law_1142 1 rfl ?_
  refine j_icmp_eq C (tgt := 1149) dL_law_1144 (by decide) (fun _ => ?_) (fun e => absurd hk e)
  refine j_iload C dL_law_1149 1 rfl ?_
  refine j_if_ne C (tgt := 1166) dL_law_1151 (by decide) (fun _ => k217) (fun ek => ?_)
  refine j_aload_n C dL_law_1154 rfl 3 rfl ?_
  refine j_iconst C (v := 0) dL_law_1155 (by decide) ?_
  refine j_lald C (f := uO') 41 rfl vin0 dL_law_1156 ?_
  refine j_iload C dL_law_1157 0 rfl ?_
  refine j_i2l C dL_law_1159 ?_
  refine j_lcmp C dL_law_1160 ?_
  exact j_if_eq C (tgt := 1166) dL_law_1161 (by decide) (fun _ => k217) (fun e => absurd (show lg_cmp (uO' 0) s.toInt64 = 0 by rw [hs ek]; exact lg_cmp_self _) e)
set_option maxRecDepth 100000 in
set_option maxHeartbeats 8000000 in
theorem w_difference (hC : LC X b Ls xs) {t : Nat} (ht : 6 * t + 6 ≤ Ls) (hcn : ck + 1 ≤ 601024) (hsn : sk + 6 ≤ 7293034) {p1 : Int32} (hp1 : xs (nI (6 * t) + nI 1).toNatClampNeg = p1) {kk s : Int32} {vD : Int32} {vA : Int32} {vL : Int32} {vN : Nat → Int32} {vM : Nat → Int32} {oO : Int32} {oS : Int32} {hv : Nat → SV} {tL : Int32} {tS : Nat → Int32} {lD : Int32} {lS : Nat → Int32} {lF : Nat → Int32} {lG : Nat → Int32} {lR : Nat → Int32} {dP : Int32} {dS : Int32} {dG : Int32} {dF : Int32} {eA : Int32} {eM : Int32} {eR : Int32} {hA : Int32} {hF : Int32} {hL : Int32} {hS : Int32} {nB : Nat → Int32} {mT : Int32} {mZ : Nat → Int32} {mU : Nat → Int32} {mV : Int32} {mP : Nat → Int32} {mB : Nat → Int32} {mY : Int32} {mR : Nat → Int32} {mO : Int32} {mS : Int32} {mW : Int32} {mH : Int64} {uO : Nat → Int64} {dP' : Int32} {dS' : Int32} {dG' : Int32} {dF' : Int32} {mT' : Int32} {uO' : Nat → Int64} (hc1 : Ct X.1 yL_difference wsL_difference rm_L_difference [.ref h7, .int p1, .ref qu] ([(h7, .inr (7, [.ref h5, .ref h2, .ref h6, .ref h4, .ref h0, .ref h3, .ref h1, .ref qb])), (qb, .inl (gI X.1, 512, .inl nB)), (h5, .inr (5, [.int vD, .int vA, .int vL, .ref qn, .ref qm])), (qn, .inl (gI X.1, 512, .inl vN)), (qm, .inl (gI X.1, 512, .inl vM)), (h0, .inr (0, [.int dP, .int dS, .int dG, .int dF]))] ++ [(qu, .inl (gJ X.1, 1, .inr (.inl uO)))]) (fin1 (some (.int kk)) ((qu, .inl (gJ X.1, 1, .inr (.inl uO'))) :: [(h7, .inr (7, [.ref h5, .ref h2, .ref h6, .ref h4, .ref h0, .ref h3, .ref h1, .ref qb])), (qb, .inl (gI X.1, 512, .inl nB)), (h5, .inr (5, [.int vD, .int vA, .int vL, .ref qn, .ref qm])), (qn, .inl (gI X.1, 512, .inl vN)), (qm, .inl (gI X.1, 512, .inl vM)), (h0, .inr (0, [.int dP', .int dS', .int dG', .int dF']))])) 1 6) (hc2 : Ct X.1 yX8_difference wsX8_difference rm_X8_difference [.ref h8, .int p1] [(h8, .inr (8, [.int mT, .ref qz, .ref qv, .int mV, .ref qp, .ref qf, .int mY, .ref qo, .int mO, .int mS, .int mW, .long mH])), (qz, .inl (gI X.1, 1027, .inl mZ)), (qv, .inl (gI X.1, 6162, .inl mU)), (qp, .inl (gI X.1, 512, .inl mP)), (qf, .inl (gI X.1, 60, .inl mB)), (qo, .inl (gI X.1, 60, .inl mR))] (fin1 (some (.int s)) [(h8, .inr (8, [.int mT', .ref qz, .ref qv, .int mV, .ref qp, .ref qf, .int mY, .ref qo, .int mO, .int mS, .int mW, .long mH])), (qz, .inl (gI X.1, 1027, .inl mZ)), (qv, .inl (gI X.1, 6162, .inl mU)), (qp, .inl (gI X.1, 512, .inl mP)), (qf, .inl (gI X.1, 60, .inl mB)), (qo, .inl (gI X.1, 60, .inl mR))]) 0 0) (hk : mT' = kk) (hs : kk = 0 → uO' 0 = s.toInt64) (K : Jt X (LW X.1 h7 h5 qn qm h2 qh sa sn sm h6 qs h4 a1 a2 a3 a4 h0 h3 h1 qb h8 qz qv qp qf qo qu vD vA vL vN vM oO oS hv tL tS lD lS lF lG lR dP' dS' dG' dF' eA eM eR hA hF hL hS nB mT' mZ mU mV mP mB mY mR mO mS mW mH uO') (ck + 1) (sk + 6) 1608 (LLv b h7 h8 qu (nI (6 * t))) []) : Jt X (LW X.1 h7 h5 qn qm h2 qh sa sn sm h6 qs h4 a1 a2 a3 a4 h0 h3 h1 qb h8 qz qv qp qf qo qu vD vA vL vN vM oO oS hv tL tS lD lS lF lG lR dP dS dG dF eA eM eR hA hF hL hS nB mT mZ mU mV mP mB mY mR mO mS mW mH uO) ck sk 1169 (LLv b h7 h8 qu (nI (6 * t))) [] := by
  have C := hC.1
  refine j_aload_n C dL_law_1169 rfl 3 rfl ?_
  refine j_aload_n C dL_law_1170 rfl 4 rfl ?_
  refine j_iload C dL_law_1171 0 rfl ?_
  refine j_iconst C (v := 1) dL_law_1173 (by decide) ?_
  refine j_iadd C dL_law_1174 ?_
  refine j_sld hC (6 * t) 1 (by omega) hp1 dL_law_1175 ?_
  refine j_aload_n C dL_law_1176 rfl 1 rfl ?_
  refine j_cSW (ws' := (LW X.1 h7 h5 qn qm h2 qh sa sn sm h6 qs h4 a1 a2 a3 a4 h0 h3 h1 qb h8 qz qv qp qf qo qu vD vA vL vN vM oO oS hv tL tS lD lS lF lG lR dP' dS' dG' dF' eA eM eR hA hF hL hS nB mT mZ mU mV mP mB mY mR mO mS mW mH uO')) (st' := [.int kk]) C hc1 k_L_difference gL_law_L_difference (As := [.ref h7, .int p1, .ref qu]) (rest := []) rfl rfl dL_law_1177 [0, 34, 1, 2, 3, 31, 41] [4, 5, 6, 7, 8, 9, 10, 11, 12, 13, 14, 15, 16, 17, 18, 19, 20, 21, 22, 23, 24, 25, 26, 27, 28, 29, 30, 32, 33, 35, 36, 37, 38, 39, 40] [36, 38, 39, 40, 0, 1, 2, 3, 4, 5, 6, 7, 8, 9, 10, 11, 12, 13, 14, 15, 16, 17, 18, 19, 20, 21, 22, 23, 24, 25, 26, 41, 27, 28, 37, 29, 30, 31, 32, 33, 34, 35] rfl rfl rfl rfl rfl rfl hcn hsn ?_
  refine j_istore (lv' := [(5, .int kk), (4, .int (nI (6 * t))), (3, .ref qu), (2, .ref h8), (1, .ref h7), (0, .ref b)]) C dL_law_1180 (by decide) rfl ?_
  refine j_aload_n C dL_law_1182 rfl 3 rfl ?_
  refine j_aload_n C dL_law_1183 rfl 5 rfl ?_
  refine j_iload C dL_law_1184 1 rfl ?_
  refine j_iconst C (v := 1) dL_law_1186 (by decide) ?_
  refine j_iadd C dL_law_1187 ?_
  refine j_sld hC (6 * t) 1 (by omega) hp1 dL_law_1188 ?_
  refine j_cVQ (ws' := (LW X.1 h7 h5 qn qm h2 qh sa sn sm h6 qs h4 a1 a2 a3 a4 h0 h3 h1 qb h8 qz qv qp qf qo qu vD vA vL vN vM oO oS hv tL tS lD lS lF lG lR dP' dS' dG' dF' eA eM eR hA hF hL hS nB mT' mZ mU mV mP mB mY mR mO mS mW mH uO')) (st' := [.int s]) C hc2 k_X8_difference gL_law_X8_difference rfl (ci := 8) (q0 := 0) rfl rfl (As := [.int p1]) (rest := []) rfl rfl dL_law_1189 [35, 36, 37, 38, 39, 40] [0, 1, 2, 3, 4, 5, 6, 7, 8, 9, 10, 11, 12, 13, 14, 15, 16, 17, 18, 19, 20, 21, 22, 23, 24, 25, 26, 27, 28, 29, 30, 31, 32, 33, 34, 41] [0, 1, 2, 3, 4, 5, 6, 7, 8, 9, 10, 11, 12, 13, 14, 15, 16, 17, 18, 19, 20, 21, 22, 23, 24, 25, 26, 27, 28, 29, 30, 31, 32, 33, 34, 36, 37, 38, 39, 40, 41, 35] rfl rfl rfl rfl rfl rfl hcn hsn ?_
  refine j_istore (lv' := [(6, .int s), (5, .int kk), (4, .int (nI (6 * t))), (3, .ref qu), (2, .ref h8), (1, .ref h7), (0, .ref b)]) C dL_law_1192 (by decide) rfl ?_
  have k217 : Jt X (LW X.1 h7 h5 qn qm h2 qh sa sn sm h6 qs h4 a1 a2 a3 a4 h0 h3 h1 qb h8 qz qv qp qf qo qu vD vA vL vN vM oO oS hv tL tS lD lS lF lG lR dP' dS' dG' dF' eA eM eR hA hF hL hS nB mT' mZ mU mV mP mB mY mR mO mS mW mH uO') (ck + 1) (sk + 6) 1222 [(6, .int s), (5, .int kk), (4, .int (nI (6 * t))), (3, .ref qu), (2, .ref h8), (1, .ref h7), (0, .ref b)] [] := by
    refine j_goto C (tgt := 1608) dL_law_1222 (by decide) ?_
    exact j_loc [2, 3, 4, 5, 6] rfl K
  refine j_aload_n C dL_law_1194 rfl 4 rfl ?_
  refine j_cVQ (ws' := (LW X.1 h7 h5 qn qm h2 qh sa sn sm h6 qs h4 a1 a2 a3 a4 h0 h3 h1 qb h8 qz qv qp qf qo qu vD vA vL vN vM oO oS hv tL tS lD lS lF lG lR dP' dS' dG' dF' eA eM eR hA hF hL hS nB mT' mZ mU mV mP mB mY mR mO mS mW mH uO')) (st' := [.int mT']) C (b_X8_thrown X.1 hC.2.2.2.2.2 h8 qz qv qp qf qo mT' mZ mU mV mP mB mY mR mO mS mW mH mT' rfl) k_X8_thrown gL_law_X8_thrown rfl (ci := 8) (q0 := 0) rfl rfl (As := []) (rest := []) rfl rfl dL_law_1195 [35, 36, 37, 38, 39, 40] [0, 1, 2, 3, 4, 5, 6, 7, 8, 9, 10, 11, 12, 13, 14, 15, 16, 17, 18, 19, 20, 21, 22, 23, 24, 25, 26, 27, 28, 29, 30, 31, 32, 33, 34, 41] [0, 1, 2, 3, 4, 5, 6, 7, 8, 9, 10, 11, 12, 13, 14, 15, 16, 17, 18, 19, 20, 21, 22, 23, 24, 25, 26, 27, 28, 29, 30, 31, 32, 33, 34, 36, 37, 38, 39, 40, 41, 35] rfl rfl rfl rfl rfl rfl hcn hsn ?_
  refine j_iload C dL_law_1198 1 rfl ?_
  refine j_icmp_eq C (tgt := 1205) dL_law_1200 (by decide) (fun _ => ?_) (fun e => absurd hk e)
  refine j_iload C dL_law_1205 1 rfl ?_
  refine j_if_ne C (tgt := 1222) dL_law_1207 (by decide) (fun _ => k217) (fun ek => ?_)
  refine j_aload_n C dL_law_1210 rfl 3 rfl ?_
  refine j_iconst C (v := 0) dL_law_1211 (by decide) ?_
  refine j_lald C (f := uO') 41 rfl vin0 dL_law_1212 ?_
  refine j_iload C dL_law_1213 0 rfl ?_
  refine j_i2l C dL_law_1215 ?_
  refine j_lcmp C dL_law_1216 ?_
  exact j_if_eq C (tgt := 1222) dL_law_1217 (by decide) (fun _ => k217) (fun e => absurd (show lg_cmp (uO' 0) s.toInt64 = 0 by rw [hs ek]; exact lg_cmp_self _) e)
end JLW
end
