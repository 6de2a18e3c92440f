noncomputable section
section JLA
variable {X : CX} {cc : ByteArray} {own : String} {Ts : List Cond} {rm : Room} {N : Nat} {ret0 : Option FieldType} {ws ws' : va_W} {cn sn pc : Nat} {lv lv' : List (Nat × Value)} {st st' rest : List Value}
/-- the law's world: the cube, the model, the answer's row -/
def LW (G : CG) (h7 h5 qn qm h2 qh : Nat) (sa sn sm : Nat → Nat) (h6 qs h4 a1 a2 a3 a4 h0 h3 h1 qb h8 qz qv qp qf qo qu : Nat) (vD : Int32) (vA : Int32) (vL : Int32) (vN : Nat → Int32) (vM : Nat → Int32) (oO : Int32) (oS : Int32) (hv : Nat → SV) (tL : Int32) (tS : Nat → Int32) (lD : Int32) (lS : Nat → Int32) (lF : Nat → Int32) (lG : Nat → Int32) (lR : Nat → Int32) (dP : Int32) (dS : Int32) (dG : Int32) (dF : Int32) (eA : Int32) (eM : Int32) (eR : Int32) (hA : Int32) (hF : Int32) (hL : Int32) (hS : Int32) (nB : Nat → Int32) (mT : Int32) (mZ : Nat → Int32) (mU : Nat → Int32) (mV : Int32) (mP : Nat → Int32) (mB : Nat → Int32) (mY : Int32) (mR : Nat → Int32) (mO : Int32) (mS : Int32) (mW : Int32) (mH : Int64) (uO : Nat → Int64) : va_W := [(h7, .inr (7, [.ref h5, .ref h2, .ref h6, .ref h4, .ref h0, .ref h3, .ref h1, .ref qb])), (h5, .inr (5, [.int vD, .int vA, .int vL, .ref qn, .ref qm])), (qn, .inl (gI G, 512, .inl vN)), (qm, .inl (gI G, 512, .inl vM)), (h2, .inr (2, [.ref qh, .int oO, .int oS])), (qh, .inl (gO G, 6, .inr (.inr (.inr (.inr (fun k => some (sa k))))))), (sa 0, .inr (5, [.int (hv 0).1, .int (hv 0).2.1, .int (hv 0).2.2.1, .ref (sn 0), .ref (sm 0)])), (sn 0, .inl (gI G, 512, .inl (hv 0).2.2.2.1)), (sm 0, .inl (gI G, 512, .inl (hv 0).2.2.2.2)), (sa 1, .inr (5, [.int (hv 1).1, .int (hv 1).2.1, .int (hv 1).2.2.1, .ref (sn 1), .ref (sm 1)])), (sn 1, .inl (gI G, 512, .inl (hv 1).2.2.2.1)), (sm 1, .inl (gI G, 512, .inl (hv 1).2.2.2.2)), (sa 2, .inr (5, [.int (hv 2).1, .int (hv 2).2.1, .int (hv 2).2.2.1, .ref (sn 2), .ref (sm 2)])), (sn 2, .inl (gI G, 512, .inl (hv 2).2.2.2.1)), (sm 2, .inl (gI G, 512, .inl (hv 2).2.2.2.2)), (sa 3, .inr (5, [.int (hv 3).1, .int (hv 3).2.1, .int (hv 3).2.2.1, .ref (sn 3), .ref (sm 3)])), (sn 3, .inl (gI G, 512, .inl (hv 3).2.2.2.1)), (sm 3, .inl (gI G, 512, .inl (hv 3).2.2.2.2)), (sa 4, .inr (5, [.int (hv 4).1, .int (hv 4).2.1, .int (hv 4).2.2.1, .ref (sn 4), .ref (sm 4)])), (sn 4, .inl (gI G, 512, .inl (hv 4).2.2.2.1)), (sm 4, .inl (gI G, 512, .inl (hv 4).2.2.2.2)), (sa 5, .inr (5, [.int (hv 5).1, .int (hv 5).2.1, .int (hv 5).2.2.1, .ref (sn 5), .ref (sm 5)])), (sn 5, .inl (gI G, 512, .inl (hv 5).2.2.2.1)), (sm 5, .inl (gI G, 512, .inl (hv 5).2.2.2.2)), (h6, .inr (6, [.ref qs, .int tL])), (qs, .inl (gI G, 60, .inl tS)), (h4, .inr (4, [.int lD, .ref a1, .ref a2, .ref a3, .ref a4])), (a1, .inl (gI G, 8, .inl lS)), (a2, .inl (gI G, 8, .inl lF)), (a3, .inl (gI G, 8, .inl lG)), (a4, .inl (gI G, 8, .inl lR)), (h0, .inr (0, [.int dP, .int dS, .int dG, .int dF])), (h3, .inr (3, [.int eA, .int eM, .int eR])), (h1, .inr (1, [.int hA, .int hF, .int hL, .int hS])), (qb, .inl (gI G, 512, .inl nB)), (h8, .inr (8, [.int mT, .ref qz, .ref qv, .int mV, .ref qp, .ref qf, .int mY, .ref qo, .int mO, .int mS, .int mW, .long mH])), (qz, .inl (gI G, 1027, .inl mZ)), (qv, .inl (gI G, 6162, .inl mU)), (qp, .inl (gI G, 512, .inl mP)), (qf, .inl (gI G, 60, .inl mB)), (qo, .inl (gI G, 60, .inl mR)), (qu, .inl (gJ G, 1, .inr (.inl uO)))]
def LLv (b h7 h8 qu : Nat) (i : Int32) : List (Nat × Value) := [(4, .int i), (3, .ref qu), (2, .ref h8), (1, .ref h7), (0, .ref b)]
/-- what holds between two commands -/
def LI (vD : Int32) (vA : Int32) (vL : Int32) (vN : Nat → Int32) (vM : Nat → Int32) (oO : Int32) (oS : Int32) (hv : Nat → SV) (tL : Int32) (tS : Nat → Int32) (mZ : Nat → Int32) (mU : Nat → Int32) (mV : Int32) (mB : Nat → Int32) (mY : Int32) : Prop := ∃ n a m, vD = nI n ∧ vA = nI a ∧ vL = nI m ∧ CR mZ vN vM n a m ∧ HR oO oS hv mU mV ∧ TR tL tS mB mY
def LK (X : CX) (b : Nat) (h7 h5 qn qm h2 qh : Nat) (sa sn sm : Nat → Nat) (h6 qs h4 a1 a2 a3 a4 h0 h3 h1 qb h8 qz qv qp qf qo qu : Nat) (pc ck sk t : Nat) : Prop := ∀ (vD : Int32) (vA : Int32) (vL : Int32) (vN : Nat → Int32) (vM : Nat → Int32) (oO : Int32) (oS : Int32) (hv : Nat → SV) (tL : Int32) (tS : Nat → Int32) (lD : Int32) (lS : Nat → Int32) (lF : Nat → Int32) (lG : Nat → Int32) (lR : Nat → Int32) (dP : Int32) (dS : Int32) (dG : Int32) (dF : Int32) (eA : Int32) (eM : Int32) (eR : Int32) (hA : Int32) (hF : Int32) (hL : Int32) (hS : Int32) (nB : Nat → Int32) (mT : Int32) (mZ : Nat → Int32) (mU : Nat → Int32) (mV : Int32) (mP : Nat → Int32) (mB : Nat → Int32) (mY : Int32) (mR : Nat → Int32) (mO : Int32) (mS : Int32) (mW : Int32) (mH : Int64) (uO : Nat → Int64), LI vD vA vL vN vM oO oS hv tL tS mZ mU mV mB mY → Jt X (LW X.1 h7 h5 qn qm h2 qh sa sn sm h6 qs h4 a1 a2 a3 a4 h0 h3 h1 qb h8 qz qv qp qf qo qu vD vA vL vN vM oO oS hv tL tS lD lS lF lG lR dP dS dG dF eA eM eR hA hF hL hS nB mT mZ mU mV mP mB mY mR mO mS mW mH uO) ck sk pc (LLv b h7 h8 qu (nI (6 * t))) []
/-- the law's standing facts -/
def LC (X : CX) (b L : Nat) (xs : Nat → Int32) : Prop := Cok X cL_law RL wsL_law room_1 9 ret ∧ va_X b L xs X.2.2.2.2.1 X.2.2.2.2.1.heap ∧ b < X.2.2.2.2.1.heap.size ∧ (¬ X.2.2.2.2.2.2.2.2.2.2.2 b) ∧ L ≤ 3072 ∧ (gL X.1).stackTraces = false
theorem j_sld {b L : Nat} {xs : Nat → Int32} (h : LC X b L xs) (a k : Nat) (hk : a + k < L) {v : Int32} (hv : xs (nI a + nI k).toNatClampNeg = v) (hd : decode cL_law pc = .ok (.iaload, 1)) (kk : Jt X ws cn sn (pc + 1) lv (.int v :: rest)) : Jt X ws cn sn pc lv (.int (nI a + nI k) :: .ref b :: rest) := by
  obtain ⟨G, p, e, R, s, m, args, below, meth, c, Q, A⟩ := X
  obtain ⟨⟨hx, hb, hml, hown, hts, hK, hG, hZ, hA, hlocks, hR, htr, hr⟩, hX, hbl, hbA, hL, -⟩ := h
  intro H locs ls hP hD hS hl
  subst hv
  refine va_sld hx hb hX hbl hbA hS ?_ hd (kk H locs ls hP hD hS hl)
  rw [nI_add]
  exact nI_in hk (Nat.lt_of_le_of_lt hL (by decide))
theorem j_sld0 {b L : Nat} {xs : Nat → Int32} (h : LC X b L xs) {a : Nat} (hk : a < L) {v : Int32} (hv : xs (nI a).toNatClampNeg = v) (hd : decode cL_law pc = .ok (.iaload, 1)) (kk : Jt X ws cn sn (pc + 1) lv (.int v :: rest)) : Jt X ws cn sn pc lv (.int (nI a) :: .ref b :: rest) := by
  obtain ⟨G, p, e, R, s, m, args, below, meth, c, Q, A⟩ := X
  obtain ⟨⟨hx, hb, hml, hown, hts, hK, hG, hZ, hA, hlocks, hR, htr, hr⟩, hX, hbl, hbA, hL, -⟩ := h
  intro H locs ls hP hD hS hl
  subst hv
  exact va_sld hx hb hX hbl hbA hS (nI_in hk (Nat.lt_of_le_of_lt hL (by decide))) hd (kk H locs ls hP hD hS hl)
theorem j_slen {b L : Nat} {xs : Nat → Int32} (h : LC X b L xs) (hd : decode cL_law pc = .ok (.arraylength, 1)) (kk : Jt X ws cn sn (pc + 1) lv (.int (nI L) :: rest)) : Jt X ws cn sn pc lv (.ref b :: rest) := by
  obtain ⟨G, p, e, R, s, m, args, below, meth, c, Q, A⟩ := X
  obtain ⟨⟨hx, hb, hml, hown, hts, hK, hG, hZ, hA, hlocks, hR, htr, hr⟩, hX, hbl, hbA, hL, -⟩ := h
  intro H locs ls hP hD hS hl
  exact va_slen hx hb hX hbl hbA hS hd (kk H locs ls hP hD hS hl)
theorem lg_cmp_self (x : Int64) : lg_cmp x x = 0 := by
  unfold lg_cmp
  rw [if_neg (show ¬ x > x from Int64.lt_irrefl), if_pos rfl]
theorem j_cVQ (C : Cok X cc own Ts rm N ret0) {y : MethodName} {wy : List Cond} {rmy : Room} {bytes : ByteArray} {maxL n index mc ms : Nat} {rt : Option FieldType} {wc w1 : va_W} {v : Option Value} {b : Nat} {As : List Value} (hc : Ct X.1 y wy rmy (.ref b :: As) wc (fin1 v w1) mc ms) (hcf : Cf y wy rmy bytes maxL rt n) {Cn : String} (hg : GoodIn Ts (wsV own index Cn y wy)) (hcn : y.cls = Cn) {ci q0 : Nat} {T : u_T} {Nn : Nat} {fs : List Value} (hcl : vwCl[ci]? = some (Cn, T, Nn)) (hrv : wc[q0]? = some (b, .inr (ci, fs))) (hn : As.length = n) (hst : st = As.reverse ++ .ref b :: rest) (hd : decode cc pc = .ok (.invokevirtual index, 3)) (isC isR isF : List Nat) (hC : isC.map (fun i => ws[i]?) = wc.map some) (hR2 : isR.map (fun i => ws[i]?) = (isR.filterMap (fun i => ws[i]?)).map some) (hF : isF.map (fun i => (isR.filterMap (fun i => ws[i]?) ++ w1)[i]?) = ws'.map some) (hst2 : v.toList ++ rest = st') (hnd : (va_nd isC && va_nd isR && isR.all (fun i => !isC.contains i) && va_nd isF && Nat.ble ((rest.map fun v => v.category).sum) 8) = true) (hrm : (Nat.ble (rmy.frames + 1) rm.frames && Nat.ble (8 + (maxL + 11) + rmy.locals) rm.locals && Nat.beq rmy.cells mc && Nat.beq rmy.slots ms) = true) (hcn2 : cn + mc ≤ rm.cells) (hsn2 : sn + ms ≤ rm.slots) (k : Jt X ws' (cn + mc) (sn + ms) (pc + 3) lv st') : Jt X ws cn sn pc lv st := by
  simp only [Bool.and_eq_true] at hnd hrm
  obtain ⟨⟨⟨⟨n1, n2⟩, n3⟩, n4⟩, n5⟩ := hnd
  obtain ⟨⟨⟨r1, r2⟩, r3⟩, r4⟩ := hrm
  refine j_callV C hc fin1_ne hcf hg hcn hcl hrv hn hst hd isC isR hC hR2 (by simp only [Bool.and_eq_true]; exact ⟨⟨n1, n2⟩, n3⟩) ⟨Nat.le_of_ble_eq_true r1, Nat.le_of_ble_eq_true r2, Nat.eq_of_beq_eq_true r3, Nat.eq_of_beq_eq_true r4, hcn2, hsn2⟩ (Nat.le_of_ble_eq_true n5) (fun v1 wx hv => ?_)
  obtain ⟨hv1, rfl⟩ := hv
  cases hv1
  rw [hst2]
  exact j_sub isF ((List.range lv.length)) hF n4 (j_pickAll lv) k
theorem Ct.inl1 {G : CG} {y : MethodName} {ws : List Cond} {rm : Room} {av : List Value} {w0 : va_W} {β : Type} {r : Nat ⊕ β} {v : β → Option Value} {w1 : β → va_W} {mc ms : Nat} (h : Ct G y ws rm av w0 (finX r v w0 w1) mc ms) (hr : r = .inl 1) : Ct G y ws rm av w0 (finT "java/lang/IndexOutOfBoundsException" w0) mc ms := by
  subst hr
  exact h.fin (fun o w q => q)
theorem Ct.inl2 {G : CG} {y : MethodName} {ws : List Cond} {rm : Room} {av : List Value} {w0 : va_W} {β : Type} {r : Nat ⊕ β} {v : β → Option Value} {w1 : β → va_W} {mc ms : Nat} (h : Ct G y ws rm av w0 (finX r v w0 w1) mc ms) (hr : r = .inl 2) : Ct G y ws rm av w0 (finT "java/lang/IllegalArgumentException" w0) mc ms := by
  subst hr
  exact h.fin (fun o w q => q)
theorem Ct.inl3 {G : CG} {y : MethodName} {ws : List Cond} {rm : Room} {av : List Value} {w0 : va_W} {β : Type} {r : Nat ⊕ β} {v : β → Option Value} {w1 : β → va_W} {mc ms : Nat} (h : Ct G y ws rm av w0 (finX r v w0 w1) mc ms) (hr : r = .inl 3) : Ct G y ws rm av w0 (finT "java/lang/IllegalStateException" w0) mc ms := by
  subst hr
  exact h.fin (fun o w q => q)
end JLA
end
