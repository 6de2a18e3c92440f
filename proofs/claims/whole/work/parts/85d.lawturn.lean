noncomputable section
section JLT
variable {X : CX} {b Ls : Nat} {xs : Nat → Int32} {ck sk : Nat} {h7 h5 qn qm h2 qh : Nat} {sa sn sm : Nat → Nat} {h6 qs h4 a1 a2 a3 a4 h0 h3 h1 qb h8 qz qv qp qf qo qu : Nat}
set_option maxHeartbeats 4000000 in
theorem tM_ordered (hC : LC X b Ls xs) {t : Nat} (ht : 6 * t + 6 ≤ Ls) (hcn : ck + 1 ≤ 601024) (hsn : sk + 6 ≤ 7293034) (hK : LK X b h7 h5 qn qm h2 qh sa sn sm h6 qs h4 a1 a2 a3 a4 h0 h3 h1 qb h8 qz qv qp qf qo qu 1608 (ck + 1) (sk + 6) t) (vD : Int32) (vA : Int32) (vL : Int32) (vN : Nat → Int32) (vM : Nat → Int32) (oO : Int32) (oS : Int32) (hv : Nat → SV) (tL : Int32) (tS : Nat → Int32) (lD : Int32) (lS : Nat → Int32) (lF : Nat → Int32) (lG : Nat → Int32) (lR : Nat → Int32) (dP : Int32) (dS : Int32) (dG : Int32) (dF : Int32) (eA : Int32) (eM : Int32) (eR : Int32) (hA : Int32) (hF : Int32) (hL : Int32) (hS : Int32) (nB : Nat → Int32) (mT : Int32) (mZ : Nat → Int32) (mU : Nat → Int32) (mV : Int32) (mP : Nat → Int32) (mB : Nat → Int32) (mY : Int32) (mR : Nat → Int32) (mO : Int32) (mS : Int32) (mW : Int32) (mH : Int64) (uO : Nat → Int64) (hI : LI vD vA vL vN vM oO oS hv tL tS mZ mU mV mB mY) : Jt X (LW X.1 h7 h5 qn qm h2 qh sa sn sm h6 qs h4 a1 a2 a3 a4 h0 h3 h1 qb h8 qz qv qp qf qo qu vD vA vL vN vM oO oS hv tL tS lD lS lF lG lR dP dS dG dF eA eM eR hA hF hL hS nB mT mZ mU mV mP mB mY mR mO mS mW mH uO) ck sk 1101 (LLv b h7 h8 qu (nI (6 * t))) [] := by
  obtain ⟨n, a, m, rfl, rfl, rfl, hCR, hHR, hTR⟩ := hI
  have hl := hC.2.2.2.2.2
  obtain ⟨p1, hp1⟩ : ∃ p, xs (nI (6 * t) + nI 1).toNatClampNeg = p := ⟨_, rfl⟩
  obtain ⟨p2, hp2⟩ : ∃ p, xs (nI (6 * t) + nI 2).toNatClampNeg = p := ⟨_, rfl⟩
  have ho := o_ordered hCR.1.1 hCR.1.2.1 hCR.1.2.2.1 p1 p2
  rcases ho with ⟨f7, f8⟩ | ⟨s, f7, f8⟩
  · have h1 := (b_X7_ordered X.1 hl h7 h5 h2 h6 h4 h0 h3 h1 qb qn qm (nI n) (nI a) (nI m) vN vM nB p1 p2 _ f7).inl2 rfl
    exact w_ordered hC ht hcn hsn hp1 hp2 (tA_L_ordered X.1 hl h7 qu p1 p2 _ [] _ uO 0 (by exact rfl) h1) (b_X8_ordered X.1 hl h8 qz qv qp qf qo mT mZ mU mV mP mB mY mR mO mS mW mH p1 p2 _ f8) rfl (fun e => absurd e (by decide)) (hK _ _ _ _ _ _ _ _ _ _ _ _ _ _ _ _ _ _ _ _ _ _ _ _ _ _ _ _ _ _ _ _ _ _ _ _ _ _ _ _ ⟨n, a, m, rfl, rfl, rfl, hCR, hHR, hTR⟩)
  · have h1 := (b_X7_ordered X.1 hl h7 h5 h2 h6 h4 h0 h3 h1 qb qn qm (nI n) (nI a) (nI m) vN vM nB p1 p2 _ f7).inr rfl
    exact w_ordered hC ht hcn hsn hp1 hp2 (r_L_ordered X.1 hl h7 qu p1 p2 _ _ _ uO _ (by exact rfl) h1) (b_X8_ordered X.1 hl h8 qz qv qp qf qo mT mZ mU mV mP mB mY mR mO mS mW mH p1 p2 _ f8) rfl (fun _ => rfl) (hK _ _ _ _ _ _ _ _ _ _ _ _ _ _ _ _ _ _ _ _ _ _ _ _ _ _ _ _ _ _ _ _ _ _ _ _ _ _ _ _ ⟨n, a, m, rfl, rfl, rfl, hCR, hHR, hTR⟩)
set_option maxHeartbeats 4000000 in
theorem tM_difference (hC : LC X b Ls xs) {t : Nat} (ht : 6 * t + 6 ≤ Ls) (hcn : ck + 1 ≤ 601024) (hsn : sk + 6 ≤ 7293034) (hK : LK X b h7 h5 qn qm h2 qh sa sn sm h6 qs h4 a1 a2 a3 a4 h0 h3 h1 qb h8 qz qv qp qf qo qu 1608 (ck + 1) (sk + 6) t) (vD : Int32) (vA : Int32) (vL : Int32) (vN : Nat → Int32) (vM : Nat → Int32) (oO : Int32) (oS : Int32) (hv : Nat → SV) (tL : Int32) (tS : Nat → Int32) (lD : Int32) (lS : Nat → Int32) (lF : Nat → Int32) (lG : Nat → Int32) (lR : Nat → Int32) (dP : Int32) (dS : Int32) (dG : Int32) (dF : Int32) (eA : Int32) (eM : Int32) (eR : Int32) (hA : Int32) (hF : Int32) (hL : Int32) (hS : Int32) (nB : Nat → Int32) (mT : Int32) (mZ : Nat → Int32) (mU : Nat → Int32) (mV : Int32) (mP : Nat → Int32) (mB : Nat → Int32) (mY : Int32) (mR : Nat → Int32) (mO : Int32) (mS : Int32) (mW : Int32) (mH : Int64) (uO : Nat → Int64) (hI : LI vD vA vL vN vM oO oS hv tL tS mZ mU mV mB mY) : Jt X (LW X.1 h7 h5 qn qm h2 qh sa sn sm h6 qs h4 a1 a2 a3 a4 h0 h3 h1 qb h8 qz qv qp qf qo qu vD vA vL vN vM oO oS hv tL tS lD lS lF lG lR dP dS dG dF eA eM eR hA hF hL hS nB mT mZ mU mV mP mB mY mR mO mS mW mH uO) ck sk 1169 (LLv b h7 h8 qu (nI (6 * t))) [] := by
  obtain ⟨n, a, m, rfl, rfl, rfl, hCR, hHR, hTR⟩ := hI
  have hl := hC.2.2.2.2.2
  obtain ⟨p1, hp1⟩ : ∃ p, xs (nI (6 * t) + nI 1).toNatClampNeg = p := ⟨_, rfl⟩
  have ho := o_difference hCR.1 p1
  rcases ho with ⟨f7, f8⟩ | ⟨s, t2, f7, f8⟩
  · have h1 := (b_X7_difference X.1 hl h7 h5 h2 h6 h4 h0 h3 h1 qb qn qm (nI n) (nI a) (nI m) vN vM dP dS dG dF nB p1 _ f7).inl2 rfl
    exact w_difference hC ht hcn hsn hp1 (tA_L_difference X.1 hl h7 qu p1 _ [] _ uO 0 (by exact rfl) h1) (b_X8_difference X.1 hl h8 qz qv qp qf qo mT mZ mU mV mP mB mY mR mO mS mW mH p1 _ f8) rfl (fun e => absurd e (by decide)) (hK _ _ _ _ _ _ _ _ _ _ _ _ _ _ _ _ _ _ _ _ _ _ _ _ _ _ _ _ _ _ _ _ _ _ _ _ _ _ _ _ ⟨n, a, m, rfl, rfl, rfl, hCR, hHR, hTR⟩)
  · have h1 := (b_X7_difference X.1 hl h7 h5 h2 h6 h4 h0 h3 h1 qb qn qm (nI n) (nI a) (nI m) vN vM dP dS dG dF nB p1 _ f7).inr rfl
    exact w_difference hC ht hcn hsn hp1 (r_L_difference X.1 hl h7 qu p1 _ _ _ uO _ (by exact rfl) h1) (b_X8_difference X.1 hl h8 qz qv qp qf qo mT mZ mU mV mP mB mY mR mO mS mW mH p1 _ f8) rfl (fun _ => rfl) (hK _ _ _ _ _ _ _ _ _ _ _ _ _ _ _ _ _ _ _ _ _ _ _ _ _ _ _ _ _ _ _ _ _ _ _ _ _ _ _ _ ⟨n, a, m, rfl, rfl, rfl, hCR, hHR, hTR⟩)
set_option maxHeartbeats 4000000 in
theorem tM_count (hC : LC X b Ls xs) {t : Nat} (ht : 6 * t + 6 ≤ Ls) (hcn : ck + 1 ≤ 601024) (hsn : sk + 6 ≤ 7293034) (hK : LK X b h7 h5 qn qm h2 qh sa sn sm h6 qs h4 a1 a2 a3 a4 h0 h3 h1 qb h8 qz qv qp qf qo qu 1608 (ck + 1) (sk + 6) t) (vD : Int32) (vA : Int32) (vL : Int32) (vN : Nat → Int32) (vM : Nat → Int32) (oO : Int32) (oS : Int32) (hv : Nat → SV) (tL : Int32) (tS : Nat → Int32) (lD : Int32) (lS : Nat → Int32) (lF : Nat → Int32) (lG : Nat → Int32) (lR : Nat → Int32) (dP : Int32) (dS : Int32) (dG : Int32) (dF : Int32) (eA : Int32) (eM : Int32) (eR : Int32) (hA : Int32) (hF : Int32) (hL : Int32) (hS : Int32) (nB : Nat → Int32) (mT : Int32) (mZ : Nat → Int32) (mU : Nat → Int32) (mV : Int32) (mP : Nat → Int32) (mB : Nat → Int32) (mY : Int32) (mR : Nat → Int32) (mO : Int32) (mS : Int32) (mW : Int32) (mH : Int64) (uO : Nat → Int64) (hI : LI vD vA vL vN vM oO oS hv tL tS mZ mU mV mB mY) : Jt X (LW X.1 h7 h5 qn qm h2 qh sa sn sm h6 qs h4 a1 a2 a3 a4 h0 h3 h1 qb h8 qz qv qp qf qo qu vD vA vL vN vM oO oS hv tL tS lD lS lF lG lR dP dS dG dF eA eM eR hA hF hL hS nB mT mZ mU mV mP mB mY mR mO mS mW mH uO) ck sk 1225 (LLv b h7 h8 qu (nI (6 * t))) [] := by
  obtain ⟨n, a, m, rfl, rfl, rfl, hCR, hHR, hTR⟩ := hI
  have hl := hC.2.2.2.2.2
  obtain ⟨p1, hp1⟩ : ∃ p, xs (nI (6 * t) + nI 1).toNatClampNeg = p := ⟨_, rfl⟩
  have hV : mV = oS := by
    obtain ⟨o9, s9, -, -, -, e1, e2, -⟩ := hHR
    rw [e1, e2]
  subst hV
  have ho := o_count hCR.1 mV p1 lD lS lF lG lR
  rcases ho with ⟨f7, f8⟩ | ⟨s, t2, f7, f8⟩
  · have h1 := (b_X7_count X.1 hl h7 h5 h2 h6 h4 h0 h3 h1 qb qn qm qh sa sn sm a1 a2 a3 a4 (nI n) (nI a) (nI m) vN vM oO mV hv lD lS lF lG lR nB p1 _ f7).inl2 rfl
    exact w_count hC ht hcn hsn hp1 (tA_L_count X.1 hl h7 qu p1 _ [] _ uO 0 (by exact rfl) h1) (b_X8_count X.1 hl h8 qz qv qp qf qo mT mZ mU mV mP mB mY mR mO mS mW mH p1 _ f8) rfl (fun e => absurd e (by decide)) (hK _ _ _ _ _ _ _ _ _ _ _ _ _ _ _ _ _ _ _ _ _ _ _ _ _ _ _ _ _ _ _ _ _ _ _ _ _ _ _ _ ⟨n, a, m, rfl, rfl, rfl, hCR, hHR, hTR⟩)
  · have h1 := (b_X7_count X.1 hl h7 h5 h2 h6 h4 h0 h3 h1 qb qn qm qh sa sn sm a1 a2 a3 a4 (nI n) (nI a) (nI m) vN vM oO mV hv lD lS lF lG lR nB p1 _ f7).inr rfl
    exact w_count hC ht hcn hsn hp1 (r_L_count X.1 hl h7 qu p1 _ _ _ uO _ (by exact rfl) h1) (b_X8_count X.1 hl h8 qz qv qp qf qo mT mZ mU mV mP mB mY mR mO mS mW mH p1 _ f8) rfl (fun _ => rfl) (hK _ _ _ _ _ _ _ _ _ _ _ _ _ _ _ _ _ _ _ _ _ _ _ _ _ _ _ _ _ _ _ _ _ _ _ _ _ _ _ _ ⟨n, a, m, rfl, rfl, rfl, hCR, hHR, hTR⟩)
set_option maxHeartbeats 4000000 in
theorem tM_ifKept (hC : LC X b Ls xs) {t : Nat} (ht : 6 * t + 6 ≤ Ls) (hcn : ck + 1 ≤ 601024) (hsn : sk + 6 ≤ 7293034) (hK : LK X b h7 h5 qn qm h2 qh sa sn sm h6 qs h4 a1 a2 a3 a4 h0 h3 h1 qb h8 qz qv qp qf qo qu 1608 (ck + 1) (sk + 6) t) (vD : Int32) (vA : Int32) (vL : Int32) (vN : Nat → Int32) (vM : Nat → Int32) (oO : Int32) (oS : Int32) (hv : Nat → SV) (tL : Int32) (tS : Nat → Int32) (lD : Int32) (lS : Nat → Int32) (lF : Nat → Int32) (lG : Nat → Int32) (lR : Nat → Int32) (dP : Int32) (dS : Int32) (dG : Int32) (dF : Int32) (eA : Int32) (eM : Int32) (eR : Int32) (hA : Int32) (hF : Int32) (hL : Int32) (hS : Int32) (nB : Nat → Int32) (mT : Int32) (mZ : Nat → Int32) (mU : Nat → Int32) (mV : Int32) (mP : Nat → Int32) (mB : Nat → Int32) (mY : Int32) (mR : Nat → Int32) (mO : Int32) (mS : Int32) (mW : Int32) (mH : Int64) (uO : Nat → Int64) (hI : LI vD vA vL vN vM oO oS hv tL tS mZ mU mV mB mY) : Jt X (LW X.1 h7 h5 qn qm h2 qh sa sn sm h6 qs h4 a1 a2 a3 a4 h0 h3 h1 qb h8 qz qv qp qf qo qu vD vA vL vN vM oO oS hv tL tS lD lS lF lG lR dP dS dG dF eA eM eR hA hF hL hS nB mT mZ mU mV mP mB mY mR mO mS mW mH uO) ck sk 1281 (LLv b h7 h8 qu (nI (6 * t))) [] := by
  obtain ⟨n, a, m, rfl, rfl, rfl, hCR, hHR, hTR⟩ := hI
  have hl := hC.2.2.2.2.2
  obtain ⟨p1, hp1⟩ : ∃ p, xs (nI (6 * t) + nI 1).toNatClampNeg = p := ⟨_, rfl⟩
  have ho := o_ifKept hCR.1.1 p1 lD lS lF lG lR
  rw [hCR.1.2.2.2.1] at ho
  rcases ho with ⟨f7, f8⟩ | ⟨s, t2, f7, f8⟩
  · have h1 := (b_X7_ifKept X.1 hl h7 h5 h2 h6 h4 h0 h3 h1 qb qn qm a1 a2 a3 a4 (nI n) (nI a) (nI m) vN vM lD lS lF lG lR nB p1 _ f7).inl2 rfl
    exact w_ifKept hC ht hcn hsn hp1 (tA_L_ifKept X.1 hl h7 qu p1 _ [] _ uO 0 (by exact rfl) h1) (b_X8_ifKept X.1 hl h8 qz qv qp qf qo mT mZ mU mV mP mB mY mR mO mS mW mH p1 _ f8) rfl (fun e => absurd e (by decide)) (hK _ _ _ _ _ _ _ _ _ _ _ _ _ _ _ _ _ _ _ _ _ _ _ _ _ _ _ _ _ _ _ _ _ _ _ _ _ _ _ _ ⟨n, a, m, rfl, rfl, rfl, hCR, hHR, hTR⟩)
  · have h1 := (b_X7_ifKept X.1 hl h7 h5 h2 h6 h4 h0 h3 h1 qb qn qm a1 a2 a3 a4 (nI n) (nI a) (nI m) vN vM lD lS lF lG lR nB p1 _ f7).inr rfl
    exact w_ifKept hC ht hcn hsn hp1 (r_L_ifKept X.1 hl h7 qu p1 _ _ _ uO _ (by exact rfl) h1) (b_X8_ifKept X.1 hl h8 qz qv qp qf qo mT mZ mU mV mP mB mY mR mO mS mW mH p1 _ f8) rfl (fun _ => rfl) (hK _ _ _ _ _ _ _ _ _ _ _ _ _ _ _ _ _ _ _ _ _ _ _ _ _ _ _ _ _ _ _ _ _ _ _ _ _ _ _ _ ⟨n, a, m, rfl, rfl, rfl, hCR, hHR, hTR⟩)
set_option maxHeartbeats 4000000 in
theorem tM_ifPut (hC : LC X b Ls xs) {t : Nat} (ht : 6 * t + 6 ≤ Ls) (hcn : ck + 1 ≤ 601024) (hsn : sk + 6 ≤ 7293034) (hK : LK X b h7 h5 qn qm h2 qh sa sn sm h6 qs h4 a1 a2 a3 a4 h0 h3 h1 qb h8 qz qv qp qf qo qu 1608 (ck + 1) (sk + 6) t) (vD : Int32) (vA : Int32) (vL : Int32) (vN : Nat → Int32) (vM : Nat → Int32) (oO : Int32) (oS : Int32) (hv : Nat → SV) (tL : Int32) (tS : Nat → Int32) (lD : Int32) (lS : Nat → Int32) (lF : Nat → Int32) (lG : Nat → Int32) (lR : Nat → Int32) (dP : Int32) (dS : Int32) (dG : Int32) (dF : Int32) (eA : Int32) (eM : Int32) (eR : Int32) (hA : Int32) (hF : Int32) (hL : Int32) (hS : Int32) (nB : Nat → Int32) (mT : Int32) (mZ : Nat → Int32) (mU : Nat → Int32) (mV : Int32) (mP : Nat → Int32) (mB : Nat → Int32) (mY : Int32) (mR : Nat → Int32) (mO : Int32) (mS : Int32) (mW : Int32) (mH : Int64) (uO : Nat → Int64) (hI : LI vD vA vL vN vM oO oS hv tL tS mZ mU mV mB mY) : Jt X (LW X.1 h7 h5 qn qm h2 qh sa sn sm h6 qs h4 a1 a2 a3 a4 h0 h3 h1 qb h8 qz qv qp qf qo qu vD vA vL vN vM oO oS hv tL tS lD lS lF lG lR dP dS dG dF eA eM eR hA hF hL hS nB mT mZ mU mV mP mB mY mR mO mS mW mH uO) ck sk 1337 (LLv b h7 h8 qu (nI (6 * t))) [] := by
  obtain ⟨n, a, m, rfl, rfl, rfl, hCR, hHR, hTR⟩ := hI
  have hl := hC.2.2.2.2.2
  obtain ⟨p1, hp1⟩ : ∃ p, xs (nI (6 * t) + nI 1).toNatClampNeg = p := ⟨_, rfl⟩
  obtain ⟨p2, hp2⟩ : ∃ p, xs (nI (6 * t) + nI 2).toNatClampNeg = p := ⟨_, rfl⟩
  obtain ⟨p3, hp3⟩ : ∃ p, xs (nI (6 * t) + nI 3).toNatClampNeg = p := ⟨_, rfl⟩
  obtain ⟨p4, hp4⟩ : ∃ p, xs (nI (6 * t) + nI 4).toNatClampNeg = p := ⟨_, rfl⟩
  obtain ⟨p5, hp5⟩ : ∃ p, xs (nI (6 * t) + nI 5).toNatClampNeg = p := ⟨_, rfl⟩
  have ho := o_ifPut hCR.1.1 hCR.1.2.1 hCR.1.2.2.1 p1 p2 p3 p4 p5 lD lS lF lG lR
  rw [hCR.1.2.2.2.1] at ho
  rcases ho with ⟨f7, f8⟩ | ⟨f7, f8⟩ | ⟨s, t2, f7, f8⟩
  · have h1 := (b_X7_ifPut X.1 hl h7 h5 h2 h6 h4 h0 h3 h1 qb qn qm a1 a2 a3 a4 (nI n) (nI a) (nI m) vN vM lD lS lF lG lR nB p1 p2 p3 p4 p5 _ f7).inl1 rfl
    exact w_ifPut hC ht hcn hsn hp1 hp2 hp3 hp4 hp5 (tI_L_ifPut X.1 hl h7 qu p1 p2 p3 p4 p5 _ [] _ uO 0 (by exact rfl) h1) (b_X8_ifPut X.1 hl h8 qz qv qp qf qo mT mZ mU mV mP mB mY mR mO mS mW mH p1 p2 p3 p4 p5 _ f8) rfl (fun e => absurd e (by decide)) (hK _ _ _ _ _ _ _ _ _ _ _ _ _ _ _ _ _ _ _ _ _ _ _ _ _ _ _ _ _ _ _ _ _ _ _ _ _ _ _ _ ⟨n, a, m, rfl, rfl, rfl, hCR, hHR, hTR⟩)
  · have h1 := (b_X7_ifPut X.1 hl h7 h5 h2 h6 h4 h0 h3 h1 qb qn qm a1 a2 a3 a4 (nI n) (nI a) (nI m) vN vM lD lS lF lG lR nB p1 p2 p3 p4 p5 _ f7).inl2 rfl
    exact w_ifPut hC ht hcn hsn hp1 hp2 hp3 hp4 hp5 (tA_L_ifPut X.1 hl h7 qu p1 p2 p3 p4 p5 _ [] _ uO 0 (by exact rfl) h1) (b_X8_ifPut X.1 hl h8 qz qv qp qf qo mT mZ mU mV mP mB mY mR mO mS mW mH p1 p2 p3 p4 p5 _ f8) rfl (fun e => absurd e (by decide)) (hK _ _ _ _ _ _ _ _ _ _ _ _ _ _ _ _ _ _ _ _ _ _ _ _ _ _ _ _ _ _ _ _ _ _ _ _ _ _ _ _ ⟨n, a, m, rfl, rfl, rfl, hCR, hHR, hTR⟩)
  · have h1 := (b_X7_ifPut X.1 hl h7 h5 h2 h6 h4 h0 h3 h1 qb qn qm a1 a2 a3 a4 (nI n) (nI a) (nI m) vN vM lD lS lF lG lR nB p1 p2 p3 p4 p5 _ f7).inr rfl
    exact w_ifPut hC ht hcn hsn hp1 hp2 hp3 hp4 hp5 (r_L_ifPut X.1 hl h7 qu p1 p2 p3 p4 p5 _ _ _ uO _ (by exact rfl) h1) (b_X8_ifPut X.1 hl h8 qz qv qp qf qo mT mZ mU mV mP mB mY mR mO mS mW mH p1 p2 p3 p4 p5 _ f8) rfl (fun _ => rfl) (hK _ _ _ _ _ _ _ _ _ _ _ _ _ _ _ _ _ _ _ _ _ _ _ _ _ _ _ _ _ _ _ _ _ _ _ _ _ _ _ _ ⟨n, a, m, rfl, rfl, rfl, hCR, hHR, hTR⟩)
set_option maxHeartbeats 4000000 in
theorem tM_best (hC : LC X b Ls xs) {t : Nat} (ht : 6 * t + 6 ≤ Ls) (hcn : ck + 1 ≤ 601024) (hsn : sk + 6 ≤ 7293034) (hK : LK X b h7 h5 qn qm h2 qh sa sn sm h6 qs h4 a1 a2 a3 a4 h0 h3 h1 qb h8 qz qv qp qf qo qu 1608 (ck + 1) (sk + 6) t) (vD : Int32) (vA : Int32) (vL : Int32) (vN : Nat → Int32) (vM : Nat → Int32) (oO : Int32) (oS : Int32) (hv : Nat → SV) (tL : Int32) (tS : Nat → Int32) (lD : Int32) (lS : Nat → Int32) (lF : Nat → Int32) (lG : Nat → Int32) (lR : Nat → Int32) (dP : Int32) (dS : Int32) (dG : Int32) (dF : Int32) (eA : Int32) (eM : Int32) (eR : Int32) (hA : Int32) (hF : Int32) (hL : Int32) (hS : Int32) (nB : Nat → Int32) (mT : Int32) (mZ : Nat → Int32) (mU : Nat → Int32) (mV : Int32) (mP : Nat → Int32) (mB : Nat → Int32) (mY : Int32) (mR : Nat → Int32) (mO : Int32) (mS : Int32) (mW : Int32) (mH : Int64) (uO : Nat → Int64) (hI : LI vD vA vL vN vM oO oS hv tL tS mZ mU mV mB mY) : Jt X (LW X.1 h7 h5 qn qm h2 qh sa sn sm h6 qs h4 a1 a2 a3 a4 h0 h3 h1 qb h8 qz qv qp qf qo qu vD vA vL vN vM oO oS hv tL tS lD lS lF lG lR dP dS dG dF eA eM eR hA hF hL hS nB mT mZ mU mV mP mB mY mR mO mS mW mH uO) ck sk 1441 (LLv b h7 h8 qu (nI (6 * t))) [] := by
  obtain ⟨n, a, m, rfl, rfl, rfl, hCR, hHR, hTR⟩ := hI
  have hl := hC.2.2.2.2.2
  obtain ⟨p1, hp1⟩ : ∃ p, xs (nI (6 * t) + nI 1).toNatClampNeg = p := ⟨_, rfl⟩
  have ho := o_best hCR.1.1 p1 lD lS lF lG lR eA eM
  rcases ho with ⟨f7, f8⟩ | ⟨s, t2, f7, f8⟩
  · have h1 := (b_X7_best X.1 hl h7 h5 h2 h6 h4 h0 h3 h1 qb qn qm a1 a2 a3 a4 (nI n) (nI a) (nI m) vN vM lD lS lF lG lR eA eM eR nB p1 _ f7).inl2 rfl
    exact w_best hC ht hcn hsn hp1 (tA_L_best X.1 hl h7 qu p1 _ [] _ uO 0 (by exact rfl) h1) (b_X8_best X.1 hl h8 qz qv qp qf qo mT mZ mU mV mP mB mY mR mO mS mW mH p1 _ f8) rfl (fun e => absurd e (by decide)) (hK _ _ _ _ _ _ _ _ _ _ _ _ _ _ _ _ _ _ _ _ _ _ _ _ _ _ _ _ _ _ _ _ _ _ _ _ _ _ _ _ ⟨n, a, m, rfl, rfl, rfl, hCR, hHR, hTR⟩)
  · have h1 := (b_X7_best X.1 hl h7 h5 h2 h6 h4 h0 h3 h1 qb qn qm a1 a2 a3 a4 (nI n) (nI a) (nI m) vN vM lD lS lF lG lR eA eM eR nB p1 _ f7).inr rfl
    exact w_best hC ht hcn hsn hp1 (r_L_best X.1 hl h7 qu p1 _ _ _ uO _ (by exact rfl) h1) (b_X8_best X.1 hl h8 qz qv qp qf qo mT mZ mU mV mP mB mY mR mO mS mW mH p1 _ f8) rfl (fun _ => rfl) (hK _ _ _ _ _ _ _ _ _ _ _ _ _ _ _ _ _ _ _ _ _ _ _ _ _ _ _ _ _ _ _ _ _ _ _ _ _ _ _ _ ⟨n, a, m, rfl, rfl, rfl, hCR, hHR, hTR⟩)
set_option maxHeartbeats 4000000 in
theorem tM_heaviest (hC : LC X b Ls xs) {t : Nat} (ht : 6 * t + 6 ≤ Ls) (hcn : ck + 1 ≤ 601024) (hsn : sk + 6 ≤ 7293034) (hK : LK X b h7 h5 qn qm h2 qh sa sn sm h6 qs h4 a1 a2 a3 a4 h0 h3 h1 qb h8 qz qv qp qf qo qu 1608 (ck + 1) (sk + 6) t) (vD : Int32) (vA : Int32) (vL : Int32) (vN : Nat → Int32) (vM : Nat → Int32) (oO : Int32) (oS : Int32) (hv : Nat → SV) (tL : Int32) (tS : Nat → Int32) (lD : Int32) (lS : Nat → Int32) (lF : Nat → Int32) (lG : Nat → Int32) (lR : Nat → Int32) (dP : Int32) (dS : Int32) (dG : Int32) (dF : Int32) (eA : Int32) (eM : Int32) (eR : Int32) (hA : Int32) (hF : Int32) (hL : Int32) (hS : Int32) (nB : Nat → Int32) (mT : Int32) (mZ : Nat → Int32) (mU : Nat → Int32) (mV : Int32) (mP : Nat → Int32) (mB : Nat → Int32) (mY : Int32) (mR : Nat → Int32) (mO : Int32) (mS : Int32) (mW : Int32) (mH : Int64) (uO : Nat → Int64) (hI : LI vD vA vL vN vM oO oS hv tL tS mZ mU mV mB mY) : Jt X (LW X.1 h7 h5 qn qm h2 qh sa sn sm h6 qs h4 a1 a2 a3 a4 h0 h3 h1 qb h8 qz qv qp qf qo qu vD vA vL vN vM oO oS hv tL tS lD lS lF lG lR dP dS dG dF eA eM eR hA hF hL hS nB mT mZ mU mV mP mB mY mR mO mS mW mH uO) ck sk 1497 (LLv b h7 h8 qu (nI (6 * t))) [] := by
  obtain ⟨n, a, m, rfl, rfl, rfl, hCR, hHR, hTR⟩ := hI
  have hl := hC.2.2.2.2.2
  obtain ⟨p1, hp1⟩ : ∃ p, xs (nI (6 * t) + nI 1).toNatClampNeg = p := ⟨_, rfl⟩
  have ho := o_heaviest hCR.1.1 hCR.2.1 p1 hA hF hL
  rcases ho with ⟨f7, f8⟩ | ⟨s, t2, f7, f8⟩
  · have h1 := (b_X7_heaviest X.1 hl h7 h5 h2 h6 h4 h0 h3 h1 qb qn qm (nI n) (nI a) (nI m) vN vM hA hF hL hS nB p1 _ f7).inl2 rfl
    exact w_heaviest hC ht hcn hsn hp1 (tA_L_heaviest X.1 hl h7 qu p1 _ [] _ uO 0 (by exact rfl) h1) (b_X8_heaviest X.1 hl h8 qz qv qp qf qo mT mZ mU mV mP mB mY mR mO mS mW mH p1 _ f8) rfl (fun e => absurd e (by decide)) (hK _ _ _ _ _ _ _ _ _ _ _ _ _ _ _ _ _ _ _ _ _ _ _ _ _ _ _ _ _ _ _ _ _ _ _ _ _ _ _ _ ⟨n, a, m, rfl, rfl, rfl, hCR, hHR, hTR⟩)
  · have h1 := (b_X7_heaviest X.1 hl h7 h5 h2 h6 h4 h0 h3 h1 qb qn qm (nI n) (nI a) (nI m) vN vM hA hF hL hS nB p1 _ f7).inr rfl
    exact w_heaviest hC ht hcn hsn hp1 (r_L_heaviest X.1 hl h7 qu p1 _ _ _ uO _ (by exact rfl) h1) (b_X8_heaviest X.1 hl h8 qz qv qp qf qo mT mZ mU mV mP mB mY mR mO mS mW mH p1 _ f8) rfl (fun _ => rfl) (hK _ _ _ _ _ _ _ _ _ _ _ _ _ _ _ _ _ _ _ _ _ _ _ _ _ _ _ _ _ _ _ _ _ _ _ _ _ _ _ _ ⟨n, a, m, rfl, rfl, rfl, hCR, hHR, hTR⟩)
set_option maxHeartbeats 4000000 in
theorem tM_roomShare (hC : LC X b Ls xs) {t : Nat} (ht : 6 * t + 6 ≤ Ls) (hcn : ck + 1 ≤ 601024) (hsn : sk + 6 ≤ 7293034) (hK : LK X b h7 h5 qn qm h2 qh sa sn sm h6 qs h4 a1 a2 a3 a4 h0 h3 h1 qb h8 qz qv qp qf qo qu 1608 (ck + 1) (sk + 6) t) (vD : Int32) (vA : Int32) (vL : Int32) (vN : Nat → Int32) (vM : Nat → Int32) (oO : Int32) (oS : Int32) (hv : Nat → SV) (tL : Int32) (tS : Nat → Int32) (lD : Int32) (lS : Nat → Int32) (lF : Nat → Int32) (lG : Nat → Int32) (lR : Nat → Int32) (dP : Int32) (dS : Int32) (dG : Int32) (dF : Int32) (eA : Int32) (eM : Int32) (eR : Int32) (hA : Int32) (hF : Int32) (hL : Int32) (hS : Int32) (nB : Nat → Int32) (mT : Int32) (mZ : Nat → Int32) (mU : Nat → Int32) (mV : Int32) (mP : Nat → Int32) (mB : Nat → Int32) (mY : Int32) (mR : Nat → Int32) (mO : Int32) (mS : Int32) (mW : Int32) (mH : Int64) (uO : Nat → Int64) (hI : LI vD vA vL vN vM oO oS hv tL tS mZ mU mV mB mY) : Jt X (LW X.1 h7 h5 qn qm h2 qh sa sn sm h6 qs h4 a1 a2 a3 a4 h0 h3 h1 qb h8 qz qv qp qf qo qu vD vA vL vN vM oO oS hv tL tS lD lS lF lG lR dP dS dG dF eA eM eR hA hF hL hS nB mT mZ mU mV mP mB mY mR mO mS mW mH uO) ck sk 1553 (LLv b h7 h8 qu (nI (6 * t))) [] := by
  obtain ⟨n, a, m, rfl, rfl, rfl, hCR, hHR, hTR⟩ := hI
  have hl := hC.2.2.2.2.2
  have ho := o_roomShare2 hCR.1 lD lS lF lG lR
  obtain ⟨s, t2, f7, f8, hcmp⟩ := ho
  exact w_roomShare hC ht hcn hsn (b_X7_roomShare X.1 hl h7 h5 h2 h6 h4 h0 h3 h1 qb qn qm a1 a2 a3 a4 (nI n) (nI a) (nI m) vN vM lD lS lF lG lR nB _ f7) (b_X8_roomShare X.1 hl h8 qz qv qp qf qo mT mZ mU mV mP mB mY mR mO mS mW mH _ f8) hcmp (hK _ _ _ _ _ _ _ _ _ _ _ _ _ _ _ _ _ _ _ _ _ _ _ _ _ _ _ _ _ _ _ _ _ _ _ _ _ _ _ _ ⟨n, a, m, rfl, rfl, rfl, hCR, hHR, hTR⟩)
set_option maxHeartbeats 4000000 in
theorem tM_digest (hC : LC X b Ls xs) {t : Nat} (ht : 6 * t + 6 ≤ Ls) (hcn : ck + 1 ≤ 601024) (hsn : sk + 6 ≤ 7293034) (hK : LK X b h7 h5 qn qm h2 qh sa sn sm h6 qs h4 a1 a2 a3 a4 h0 h3 h1 qb h8 qz qv qp qf qo qu 1608 (ck + 1) (sk + 6) t) (vD : Int32) (vA : Int32) (vL : Int32) (vN : Nat → Int32) (vM : Nat → Int32) (oO : Int32) (oS : Int32) (hv : Nat → SV) (tL : Int32) (tS : Nat → Int32) (lD : Int32) (lS : Nat → Int32) (lF : Nat → Int32) (lG : Nat → Int32) (lR : Nat → Int32) (dP : Int32) (dS : Int32) (dG : Int32) (dF : Int32) (eA : Int32) (eM : Int32) (eR : Int32) (hA : Int32) (hF : Int32) (hL : Int32) (hS : Int32) (nB : Nat → Int32) (mT : Int32) (mZ : Nat → Int32) (mU : Nat → Int32) (mV : Int32) (mP : Nat → Int32) (mB : Nat → Int32) (mY : Int32) (mR : Nat → Int32) (mO : Int32) (mS : Int32) (mW : Int32) (mH : Int64) (uO : Nat → Int64) (hI : LI vD vA vL vN vM oO oS hv tL tS mZ mU mV mB mY) : Jt X (LW X.1 h7 h5 qn qm h2 qh sa sn sm h6 qs h4 a1 a2 a3 a4 h0 h3 h1 qb h8 qz qv qp qf qo qu vD vA vL vN vM oO oS hv tL tS lD lS lF lG lR dP dS dG dF eA eM eR hA hF hL hS nB mT mZ mU mV mP mB mY mR mO mS mW mH uO) ck sk 1594 (LLv b h7 h8 qu (nI (6 * t))) [] := by
  obtain ⟨n, a, m, rfl, rfl, rfl, hCR, hHR, hTR⟩ := hI
  have hl := hC.2.2.2.2.2
  have hV : mV = oS := by
    obtain ⟨o9, s9, -, -, -, e1, e2, -⟩ := hHR
    rw [e1, e2]
  subst hV
  have ho := o_digest hCR hTR mV lD lS lF lG lR eA eM hA hF hL
  obtain ⟨s, t2, f7, f8⟩ := ho
  exact w_digest hC ht hcn hsn (b_X7_digest X.1 hl h7 h5 h2 h6 h4 h0 h3 h1 qb qn qm qh sa sn sm qs a1 a2 a3 a4 (nI n) (nI a) (nI m) vN vM oO mV hv tL tS lD lS lF lG lR dP dS dG dF eA eM eR hA hF hL hS nB _ f7) (b_X8_digest X.1 hl h8 qz qv qp qf qo mT mZ mU mV mP mB mY mR mO mS mW mH _ f8) (hK _ _ _ _ _ _ _ _ _ _ _ _ _ _ _ _ _ _ _ _ _ _ _ _ _ _ _ _ _ _ _ _ _ _ _ _ _ _ _ _ ⟨n, a, m, rfl, rfl, rfl, hCR, hHR, hTR⟩)
end JLT
end
