/-! what the law's start gives -/
theorem lg_nest : ∀ w ∈ jNest, w ∈ lw_tbl := by decide +kernel
theorem lg_cast : ∀ w ∈ jCast, w ∈ lw_tbl := by decide +kernel
theorem lg_str1 : ∀ q ∈ jStr, Cond.stringRef RX7 q.1 q.2 ∈ lw_tbl := by decide +kernel
theorem lg_str2 : ∀ q ∈ jStr, Cond.exactly (.string RX7 q.1) "java/lang/String" ∈ flatC (Jvm.Cond.and given_1 narrow_1) := by decide +kernel
theorem lg_ncs : ∀ q ∈ jNcs, Cond.not (.castable q.1 q.2) ∈ flatC (Jvm.Cond.and given_1 narrow_1) := by decide +kernel
theorem lg_arrI : Cond.arrayClass .int ∈ lw_tbl := by decide +kernel
theorem lg_arrJ : Cond.arrayClass .long ∈ lw_tbl := by decide +kernel
theorem lg_arrO : Cond.arrayOver (.object RX5) ∈ lw_tbl := by decide +kernel
theorem lg_z1 : Cond.laysStatic Bundle.tN "UNASSIGNED_STACK" Bundle.steD ∈ lw_tbl := by decide +kernel
theorem lg_z2 : Cond.laysStatic Bundle.tN "SUPPRESSED_SENTINEL" Bundle.listD ∈ lw_tbl := by decide +kernel
theorem lg_z3 : Cond.initialized Bundle.tN ∈ lw_tbl := by decide +kernel
theorem lg_z4 : Cond.isRef (.static Bundle.tN "UNASSIGNED_STACK" Bundle.steD) ∈ flatC (Jvm.Cond.and given_1 narrow_1) := by decide +kernel
theorem lg_z5 : Cond.isRef (.static Bundle.tN "SUPPRESSED_SENTINEL" Bundle.listD) ∈ flatC (Jvm.Cond.and given_1 narrow_1) := by decide +kernel
theorem law_given {s : State} {b : Nat} (l : Launch) (hts : ∀ w ∈ lw_tbl, w.before #[Value.ref b] s = true) (hgv : (Jvm.Cond.and given_1 narrow_1).before #[Value.ref b] s = true) : ∃ G : CG, gL G = l ∧ va_K (gD G) vwCl (gT G) s ∧ jGF G s ∧ jZ (fun q => s.heap.size ≤ q) s s.heap ∧ va_AO RX5 s := by
  have hs := flat_of_before _ hgv
  obtain ⟨c0, i0, k0⟩ := u_known (C := RX0) (T := TX0) (N := 4) (n := 4) hts inX0 (hts _ (by decide +kernel))
  obtain ⟨c1, i1, k1⟩ := u_known (C := RX1) (T := TX1) (N := 4) (n := 4) hts inX1 (hts _ (by decide +kernel))
  obtain ⟨c2, i2, k2⟩ := u_known (C := RX2) (T := TX2) (N := 3) (n := 3) hts inX2 (hts _ (by decide +kernel))
  obtain ⟨c3, i3, k3⟩ := u_known (C := RX3) (T := TX3) (N := 3) (n := 3) hts inX3 (hts _ (by decide +kernel))
  obtain ⟨c4, i4, k4⟩ := u_known (C := RX4) (T := TX4) (N := 5) (n := 5) hts inX4 (hts _ (by decide +kernel))
  obtain ⟨c5, i5, k5⟩ := u_known (C := RX5) (T := TX5) (N := 5) (n := 5) hts inX5 (hts _ (by decide +kernel))
  obtain ⟨c6, i6, k6⟩ := u_known (C := RX6) (T := TX6) (N := 2) (n := 2) hts inX6 (hts _ (by decide +kernel))
  obtain ⟨c7, i7, k7⟩ := u_known (C := RX7) (T := TX7) (N := 8) (n := 8) hts inX7 (hts _ (by decide +kernel))
  obtain ⟨c8, i8, k8⟩ := u_known (C := RX8) (T := TX8) (N := 12) (n := 12) hts inX8 (hts _ (by decide +kernel))
  obtain ⟨cI, kI, cpI, hI1, hI2, hI3⟩ := Cond.arrayClass_spec (hts _ lg_arrI)
  obtain ⟨cJ, kJ, cpJ, hJ1, hJ2, hJ3⟩ := Cond.arrayClass_spec (hts _ lg_arrJ)
  have hao : va_AO RX5 s := va_AO.of (hts _ lg_arrO)
  obtain ⟨cpO, cO, kO, hO1, -, hO2, hO3, hO4⟩ := Cond.arrayOver_spec (hts _ lg_arrO)
  have hstr : ∀ q ∈ jStr, ∃ a, (Term.string RX7 q.1).eval #[] s none [] s = some (.ref a) := fun q hq => by
    obtain ⟨a, -, -, -, ha, -⟩ := Cond.exactly_spec (hs _ (lg_str2 q hq))
    exact ⟨a, ha⟩
  classical
  obtain ⟨gS0, hgS⟩ : ∃ g : Nat → Nat, ∀ q ∈ jStr, (Term.string RX7 q.1).eval #[] s none [] s = some (.ref (g q.1)) := by
    refine ⟨fun k => if h : ∃ a, (Term.string RX7 k).eval #[] s none [] s = some (.ref a) then h.choose else 0, fun q hq => ?_⟩
    have h := hstr q hq
    show _ = some (Value.ref (if h : ∃ a, (Term.string RX7 q.1).eval #[] s none [] s = some (.ref a) then h.choose else 0))
    rw [dif_pos h]
    exact h.choose_spec
  have hA : ∀ a : Nat, a < s.heap.size → ¬ (fun q : Nat => s.heap.size ≤ q) a := fun a h => Nat.not_le.mpr h
  refine ⟨(l, (fun k => match k with | 0 => c0 | 1 => c1 | 2 => c2 | 3 => c3 | 4 => c4 | 5 => c5 | 6 => c6 | 7 => c7 | _ => c8, fun k => match k with | 0 => i0 | 1 => i1 | 2 => i2 | 3 => i3 | 4 => i4 | 5 => i5 | 6 => i6 | 7 => i7 | _ => i8), (cI, cJ, cO), gS0), rfl, ⟨fun k q hq => ?_, fun k q hq => ?_⟩, ⟨fun w hw => va_Nw.of (jNest_tab w hw) (hts w (lg_nest w hw)), fun w hw => va_Nw.of (jCast_tab w hw) (hts w (lg_cast w hw)), fun q hq => vk_R.of (A := #[Value.ref b]) (hts _ (lg_str1 q hq)) (hgS q hq), fun q hq => va_Nc.of (hs _ (lg_ncs q hq))⟩, ⟨vx_Zqof (hts _ lg_z1) (hts _ lg_z3) (hs _ lg_z4) hA, vx_Zqof (hts _ lg_z2) (hts _ lg_z3) (hs _ lg_z5) hA⟩, hao⟩
  · match k, hq with
    | 0, hq => cases hq; exact k0
    | 1, hq => cases hq; exact k1
    | 2, hq => cases hq; exact k2
    | 3, hq => cases hq; exact k3
    | 4, hq => cases hq; exact k4
    | 5, hq => cases hq; exact k5
    | 6, hq => cases hq; exact k6
    | 7, hq => cases hq; exact k7
    | 8, hq => cases hq; exact k8
    | k + 9, hq => cases hq
  · match k, hq with
    | 0, hq => cases hq; exact ⟨fun n z => ⟨fun k h => (by cases h), kI, hI2, cpI, hI3⟩, hI1⟩
    | 1, hq => cases hq; exact ⟨fun n z => ⟨fun k h => (by cases h), kJ, hJ2, cpJ, hJ3⟩, hJ1⟩
    | 2, hq => cases hq; exact ⟨fun n z => ⟨fun k h => (by cases h), kO, hO2, cpO, hO3⟩, kO, cpO, hO2, hO3, hO1, hO4⟩
    | k + 3, hq => cases hq
