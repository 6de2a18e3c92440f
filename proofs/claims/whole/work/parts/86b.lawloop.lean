noncomputable section
section JLL
variable {X : CX} {b Ls : Nat} {xs : Nat → Int32} {ck sk : Nat} {h7 h5 qn qm h2 qh : Nat} {sa sn sm : Nat → Nat} {h6 qs h4 a1 a2 a3 a4 h0 h3 h1 qb h8 qz qv qp qf qo qu : Nat}
/-- the law's end, from any world -/
def LE (X : CX) (b : Nat) (h7 h5 qn qm h2 qh : Nat) (sa sn sm : Nat → Nat) (h6 qs h4 a1 a2 a3 a4 h0 h3 h1 qb h8 qz qv qp qf qo qu : Nat) : Prop := ∀ (ck sk : Nat) (i : Int32) (vD : Int32) (vA : Int32) (vL : Int32) (vN : Nat → Int32) (vM : Nat → Int32) (oO : Int32) (oS : Int32) (hv : Nat → SV) (tL : Int32) (tS : Nat → Int32) (lD : Int32) (lS : Nat → Int32) (lF : Nat → Int32) (lG : Nat → Int32) (lR : Nat → Int32) (dP : Int32) (dS : Int32) (dG : Int32) (dF : Int32) (eA : Int32) (eM : Int32) (eR : Int32) (hA : Int32) (hF : Int32) (hL : Int32) (hS : Int32) (nB : Nat → Int32) (mT : Int32) (mZ : Nat → Int32) (mU : Nat → Int32) (mV : Int32) (mP : Nat → Int32) (mB : Nat → Int32) (mY : Int32) (mR : Nat → Int32) (mO : Int32) (mS : Int32) (mW : Int32) (mH : Int64) (uO : Nat → Int64), ck ≤ 601024 → sk ≤ 7293034 → Jt X (LW X.1 h7 h5 qn qm h2 qh sa sn sm h6 qs h4 a1 a2 a3 a4 h0 h3 h1 qb h8 qz qv qp qf qo qu vD vA vL vN vM oO oS hv tL tS lD lS lF lG lR dP dS dG dF eA eM eR hA hF hL hS nB mT mZ mU mV mP mB mY mR mO mS mW mH uO) ck sk 1614 (LLv b h7 h8 qu i) []
theorem loop_le {Ls t : Nat} (hL : Ls ≤ 3072) (ht : 6 * t ≤ Ls) (e : ¬ nI Ls - 6 < nI (6 * t)) : 6 * t + 6 ≤ Ls := by
  by_cases h : Ls < 6
  · have h0 : t = 0 := by omega
    subst h0
    exfalso
    apply e
    have : Ls = 0 ∨ Ls = 1 ∨ Ls = 2 ∨ Ls = 3 ∨ Ls = 4 ∨ Ls = 5 := by omega
    rcases this with rfl | rfl | rfl | rfl | rfl | rfl <;> decide
  · rw [show (6 : Int32) = nI 6 from rfl, pk_sub (by omega), nI_ltI (by omega) (by omega)] at e
    omega
set_option maxRecDepth 100000 in
set_option maxHeartbeats 8000000 in
theorem law_loop (hC : LC X b Ls xs) (hE : LE X b h7 h5 qn qm h2 qh sa sn sm h6 qs h4 a1 a2 a3 a4 h0 h3 h1 qb h8 qz qv qp qf qo qu) : ∀ r t, Ls ≤ 6 * t + r → 6 * t ≤ Ls → LK X b h7 h5 qn qm h2 qh sa sn sm h6 qs h4 a1 a2 a3 a4 h0 h3 h1 qb h8 qz qv qp qf qo qu 23 (42 + t) (15676 + 6 * t) t := by
  have C := hC.1
  have hLs3 : Ls ≤ 3072 := hC.2.2.2.2.1
  intro r
  induction r using Nat.strongRecOn with
  | ind r ih =>
  intro t hr ht vD vA vL vN vM oO oS hv tL tS lD lS lF lG lR dP dS dG dF eA eM eR hA hF hL hS nB mT mZ mU mV mP mB mY mR mO mS mW mH uO hI
  have hck : 42 + t + 1 ≤ 601024 := by omega
  have hsk : 15676 + 6 * t + 6 ≤ 7293034 := by omega
  refine j_iload C dL_law_23 0 rfl ?_
  refine j_aload_n C dL_law_25 rfl 4 rfl ?_
  refine j_slen hC dL_law_26 ?_
  refine j_bipush C (v := 6) dL_law_27 (by decide) ?_
  refine j_isub C dL_law_29 ?_
  refine j_icmp_gt C (tgt := 1614) dL_law_30 (by decide) (fun _ => hE _ _ _ _ _ _ _ _ _ _ _ _ _ _ _ _ _ _ _ _ _ _ _ _ _ _ _ _ _ _ _ _ _ _ _ _ _ _ _ _ _ _ _ (by omega) (by omega)) (fun e => ?_)
  have ht6 := loop_le hLs3 ht e
  refine j_aload_n C dL_law_33 rfl 4 rfl ?_
  refine j_iload C dL_law_34 0 rfl ?_
  obtain ⟨v, hvx⟩ : ∃ v, xs (nI (6 * t)).toNatClampNeg = v := ⟨_, rfl⟩
  refine j_sld0 hC (by omega) hvx dL_law_36 ?_
  refine j_bipush C (v := 31) dL_law_37 (by decide) ?_
  refine j_iand C dL_law_39 ?_
  obtain ⟨k, hk, ek⟩ := pk_andE v (m := 31) 5 (by decide)
  rw [ek]
  have hK : LK X b h7 h5 qn qm h2 qh sa sn sm h6 qs h4 a1 a2 a3 a4 h0 h3 h1 qb h8 qz qv qp qf qo qu 1608 (42 + t + 1) (15676 + 6 * t + 6) t := by
    intro vD9 vA9 vL9 vN9 vM9 oO9 oS9 hv9 tL9 tS9 lD9 lS9 lF9 lG9 lR9 dP9 dS9 dG9 dF9 eA9 eM9 eR9 hA9 hF9 hL9 hS9 nB9 mT9 mZ9 mU9 mV9 mP9 mB9 mY9 mR9 mO9 mS9 mW9 mH9 uO9 hI9
    refine j_iinc C (i := 4) (v := nI (6 * (t + 1))) (lv' := LLv b h7 h8 qu (nI (6 * (t + 1)))) dL_law_1608 0 rfl (by rw [show Int32.ofInt 6 = nI 6 from by decide, nI_add, Nat.mul_add]) (by decide) rfl ?_
    refine j_goto C (tgt := 23) dL_law_1611 (by decide) ?_
    have h9 := ih (r - 6) (by omega) (t + 1) (by omega) (by omega) vD9 vA9 vL9 vN9 vM9 oO9 oS9 hv9 tL9 tS9 lD9 lS9 lF9 lG9 lR9 dP9 dS9 dG9 dF9 eA9 eM9 eR9 hA9 hF9 hL9 hS9 nB9 mT9 mZ9 mU9 mV9 mP9 mB9 mY9 mR9 mO9 mS9 mW9 mH9 uO9 hI9
    rw [show 15676 + 6 * (t + 1) = 15676 + 6 * t + 6 by omega, show 42 + (t + 1) = 42 + t + 1 by omega] at h9
    exact h9
  have hk32 : k = 0 ∨ k = 1 ∨ k = 2 ∨ k = 3 ∨ k = 4 ∨ k = 5 ∨ k = 6 ∨ k = 7 ∨ k = 8 ∨ k = 9 ∨ k = 10 ∨ k = 11 ∨ k = 12 ∨ k = 13 ∨ k = 14 ∨ k = 15 ∨ k = 16 ∨ k = 17 ∨ k = 18 ∨ k = 19 ∨ k = 20 ∨ k = 21 ∨ k = 22 ∨ k = 23 ∨ k = 24 ∨ k = 25 ∨ k = 26 ∨ k = 27 ∨ k = 28 ∨ k = 29 ∨ k = 30 ∨ k = 31 := by omega
  rcases hk32 with rfl | rfl | rfl | rfl | rfl | rfl | rfl | rfl | rfl | rfl | rfl | rfl | rfl | rfl | rfl | rfl | rfl | rfl | rfl | rfl | rfl | rfl | rfl | rfl | rfl | rfl | rfl | rfl | rfl | rfl | rfl | rfl
  · exact j_tabIn C (off := 124) (tgt := 164) dL_law_40 (by decide) (by decide) (by decide) (by decide) (tM_begin hC ht6 hck hsk hK _ _ _ _ _ _ _ _ _ _ _ _ _ _ _ _ _ _ _ _ _ _ _ _ _ _ _ _ _ _ _ _ _ _ _ _ _ _ _ _ hI)
  · exact j_tabIn C (off := 180) (tgt := 220) dL_law_40 (by decide) (by decide) (by decide) (by decide) (tM_put hC ht6 hck hsk hK _ _ _ _ _ _ _ _ _ _ _ _ _ _ _ _ _ _ _ _ _ _ _ _ _ _ _ _ _ _ _ _ _ _ _ _ _ _ _ _ hI)
  · exact j_tabIn C (off := 272) (tgt := 312) dL_law_40 (by decide) (by decide) (by decide) (by decide) (tM_add hC ht6 hck hsk hK _ _ _ _ _ _ _ _ _ _ _ _ _ _ _ _ _ _ _ _ _ _ _ _ _ _ _ _ _ _ _ _ _ _ _ _ _ _ _ _ hI)
  · exact j_tabIn C (off := 376) (tgt := 416) dL_law_40 (by decide) (by decide) (by decide) (by decide) (tM_wipe hC ht6 hck hsk hK _ _ _ _ _ _ _ _ _ _ _ _ _ _ _ _ _ _ _ _ _ _ _ _ _ _ _ _ _ _ _ _ _ _ _ _ _ _ _ _ hI)
  · exact j_tabIn C (off := 444) (tgt := 484) dL_law_40 (by decide) (by decide) (by decide) (by decide) (tM_shift hC ht6 hck hsk hK _ _ _ _ _ _ _ _ _ _ _ _ _ _ _ _ _ _ _ _ _ _ _ _ _ _ _ _ _ _ _ _ _ _ _ _ _ _ _ _ hI)
  · exact j_tabIn C (off := 500) (tgt := 540) dL_law_40 (by decide) (by decide) (by decide) (by decide) (tM_turn hC ht6 hck hsk hK _ _ _ _ _ _ _ _ _ _ _ _ _ _ _ _ _ _ _ _ _ _ _ _ _ _ _ _ _ _ _ _ _ _ _ _ _ _ _ _ hI)
  · exact j_tabIn C (off := 513) (tgt := 553) dL_law_40 (by decide) (by decide) (by decide) (by decide) (tM_keep hC ht6 hck hsk hK _ _ _ _ _ _ _ _ _ _ _ _ _ _ _ _ _ _ _ _ _ _ _ _ _ _ _ _ _ _ _ _ _ _ _ _ _ _ _ _ hI)
  · exact j_tabIn C (off := 569) (tgt := 609) dL_law_40 (by decide) (by decide) (by decide) (by decide) (tM_mark hC ht6 hck hsk hK _ _ _ _ _ _ _ _ _ _ _ _ _ _ _ _ _ _ _ _ _ _ _ _ _ _ _ _ _ _ _ _ _ _ _ _ _ _ _ _ hI)
  · exact j_tabIn C (off := 582) (tgt := 622) dL_law_40 (by decide) (by decide) (by decide) (by decide) (tM_goBack hC ht6 hck hsk hK _ _ _ _ _ _ _ _ _ _ _ _ _ _ _ _ _ _ _ _ _ _ _ _ _ _ _ _ _ _ _ _ _ _ _ _ _ _ _ _ hI)
  · exact j_tabIn C (off := 595) (tgt := 635) dL_law_40 (by decide) (by decide) (by decide) (by decide) (tM_set hC ht6 hck hsk hK _ _ _ _ _ _ _ _ _ _ _ _ _ _ _ _ _ _ _ _ _ _ _ _ _ _ _ _ _ _ _ _ _ _ _ _ _ _ _ _ hI)
  · exact j_tabIn C (off := 651) (tgt := 691) dL_law_40 (by decide) (by decide) (by decide) (by decide) (tM_append hC ht6 hck hsk hK _ _ _ _ _ _ _ _ _ _ _ _ _ _ _ _ _ _ _ _ _ _ _ _ _ _ _ _ _ _ _ _ _ _ _ _ _ _ _ _ hI)
  · exact j_tabIn C (off := 707) (tgt := 747) dL_law_40 (by decide) (by decide) (by decide) (by decide) (tM_clearBuffer hC ht6 hck hsk hK _ _ _ _ _ _ _ _ _ _ _ _ _ _ _ _ _ _ _ _ _ _ _ _ _ _ _ _ _ _ _ _ _ _ _ _ _ _ _ _ hI)
  · exact j_tabIn C (off := 720) (tgt := 760) dL_law_40 (by decide) (by decide) (by decide) (by decide) (tM_firstError hC ht6 hck hsk hK _ _ _ _ _ _ _ _ _ _ _ _ _ _ _ _ _ _ _ _ _ _ _ _ _ _ _ _ _ _ _ _ _ _ _ _ _ _ _ _ hI)
  · exact j_tabIn C (off := 733) (tgt := 773) dL_law_40 (by decide) (by decide) (by decide) (by decide) (tM_read hC ht6 hck hsk hK _ _ _ _ _ _ _ _ _ _ _ _ _ _ _ _ _ _ _ _ _ _ _ _ _ _ _ _ _ _ _ _ _ _ _ _ _ _ _ _ hI)
  · exact j_tabIn C (off := 777) (tgt := 817) dL_law_40 (by decide) (by decide) (by decide) (by decide) (tM_undo hC ht6 hck hsk hK _ _ _ _ _ _ _ _ _ _ _ _ _ _ _ _ _ _ _ _ _ _ _ _ _ _ _ _ _ _ _ _ _ _ _ _ _ _ _ _ hI)
  · exact j_tabIn C (off := 821) (tgt := 861) dL_law_40 (by decide) (by decide) (by decide) (by decide) (tM_at hC ht6 hck hsk hK _ _ _ _ _ _ _ _ _ _ _ _ _ _ _ _ _ _ _ _ _ _ _ _ _ _ _ _ _ _ _ _ _ _ _ _ _ _ _ _ hI)
  · exact j_tabIn C (off := 901) (tgt := 941) dL_law_40 (by decide) (by decide) (by decide) (by decide) (tM_line hC ht6 hck hsk hK _ _ _ _ _ _ _ _ _ _ _ _ _ _ _ _ _ _ _ _ _ _ _ _ _ _ _ _ _ _ _ _ _ _ _ _ _ _ _ _ hI)
  · exact j_tabIn C (off := 981) (tgt := 1021) dL_law_40 (by decide) (by decide) (by decide) (by decide) (tM_slice hC ht6 hck hsk hK _ _ _ _ _ _ _ _ _ _ _ _ _ _ _ _ _ _ _ _ _ _ _ _ _ _ _ _ _ _ _ _ _ _ _ _ _ _ _ _ hI)
  · exact j_tabIn C (off := 1061) (tgt := 1101) dL_law_40 (by decide) (by decide) (by decide) (by decide) (tM_ordered hC ht6 hck hsk hK _ _ _ _ _ _ _ _ _ _ _ _ _ _ _ _ _ _ _ _ _ _ _ _ _ _ _ _ _ _ _ _ _ _ _ _ _ _ _ _ hI)
  · exact j_tabIn C (off := 1129) (tgt := 1169) dL_law_40 (by decide) (by decide) (by decide) (by decide) (tM_difference hC ht6 hck hsk hK _ _ _ _ _ _ _ _ _ _ _ _ _ _ _ _ _ _ _ _ _ _ _ _ _ _ _ _ _ _ _ _ _ _ _ _ _ _ _ _ hI)
  · exact j_tabIn C (off := 1185) (tgt := 1225) dL_law_40 (by decide) (by decide) (by decide) (by decide) (tM_count hC ht6 hck hsk hK _ _ _ _ _ _ _ _ _ _ _ _ _ _ _ _ _ _ _ _ _ _ _ _ _ _ _ _ _ _ _ _ _ _ _ _ _ _ _ _ hI)
  · exact j_tabIn C (off := 1241) (tgt := 1281) dL_law_40 (by decide) (by decide) (by decide) (by decide) (tM_ifKept hC ht6 hck hsk hK _ _ _ _ _ _ _ _ _ _ _ _ _ _ _ _ _ _ _ _ _ _ _ _ _ _ _ _ _ _ _ _ _ _ _ _ _ _ _ _ hI)
  · exact j_tabIn C (off := 1297) (tgt := 1337) dL_law_40 (by decide) (by decide) (by decide) (by decide) (tM_ifPut hC ht6 hck hsk hK _ _ _ _ _ _ _ _ _ _ _ _ _ _ _ _ _ _ _ _ _ _ _ _ _ _ _ _ _ _ _ _ _ _ _ _ _ _ _ _ hI)
  · exact j_tabIn C (off := 1401) (tgt := 1441) dL_law_40 (by decide) (by decide) (by decide) (by decide) (tM_best hC ht6 hck hsk hK _ _ _ _ _ _ _ _ _ _ _ _ _ _ _ _ _ _ _ _ _ _ _ _ _ _ _ _ _ _ _ _ _ _ _ _ _ _ _ _ hI)
  · exact j_tabIn C (off := 1457) (tgt := 1497) dL_law_40 (by decide) (by decide) (by decide) (by decide) (tM_heaviest hC ht6 hck hsk hK _ _ _ _ _ _ _ _ _ _ _ _ _ _ _ _ _ _ _ _ _ _ _ _ _ _ _ _ _ _ _ _ _ _ _ _ _ _ _ _ hI)
  · exact j_tabIn C (off := 1513) (tgt := 1553) dL_law_40 (by decide) (by decide) (by decide) (by decide) (tM_roomShare hC ht6 hck hsk hK _ _ _ _ _ _ _ _ _ _ _ _ _ _ _ _ _ _ _ _ _ _ _ _ _ _ _ _ _ _ _ _ _ _ _ _ _ _ _ _ hI)
  · exact j_tabIn C (off := 1554) (tgt := 1594) dL_law_40 (by decide) (by decide) (by decide) (by decide) (tM_digest hC ht6 hck hsk hK _ _ _ _ _ _ _ _ _ _ _ _ _ _ _ _ _ _ _ _ _ _ _ _ _ _ _ _ _ _ _ _ _ _ _ _ _ _ _ _ hI)
  · exact j_tabOut C (tgt := 1608) dL_law_40 (Or.inr (by decide)) (by decide) (j_widen (by omega) (by omega) (hK _ _ _ _ _ _ _ _ _ _ _ _ _ _ _ _ _ _ _ _ _ _ _ _ _ _ _ _ _ _ _ _ _ _ _ _ _ _ _ _ hI))
  · exact j_tabOut C (tgt := 1608) dL_law_40 (Or.inr (by decide)) (by decide) (j_widen (by omega) (by omega) (hK _ _ _ _ _ _ _ _ _ _ _ _ _ _ _ _ _ _ _ _ _ _ _ _ _ _ _ _ _ _ _ _ _ _ _ _ _ _ _ _ hI))
  · exact j_tabOut C (tgt := 1608) dL_law_40 (Or.inr (by decide)) (by decide) (j_widen (by omega) (by omega) (hK _ _ _ _ _ _ _ _ _ _ _ _ _ _ _ _ _ _ _ _ _ _ _ _ _ _ _ _ _ _ _ _ _ _ _ _ _ _ _ _ hI))
  · exact j_tabOut C (tgt := 1608) dL_law_40 (Or.inr (by decide)) (by decide) (j_widen (by omega) (by omega) (hK _ _ _ _ _ _ _ _ _ _ _ _ _ _ _ _ _ _ _ _ _ _ _ _ _ _ _ _ _ _ _ _ _ _ _ _ _ _ _ _ hI))
  · exact j_tabOut C (tgt := 1608) dL_law_40 (Or.inr (by decide)) (by decide) (j_widen (by omega) (by omega) (hK _ _ _ _ _ _ _ _ _ _ _ _ _ _ _ _ _ _ _ _ _ _ _ _ _ _ _ _ _ _ _ _ _ _ _ _ _ _ _ _ hI))
end JLL
end
