noncomputable section
section JC
variable {X : CX} {cc : ByteArray} {own : String} {Ts : List Cond} {rm : Room} {N : Nat} {ret : Option FieldType} {ws ws' : va_W} {cn sn pc : Nat} {lv lv' : List (Nat × Value)} {st rest : List Value}
/-- a constructor's contract: that arrays of states can be made is known -/
def CtO (G : CG) (y : MethodName) (ws : List Cond) (rm : Room) (av : List Value) (w0 : va_W) (fin : jFin) (mc ms : Nat) : Prop := ∀ sz, vx_Met (gL G) y ws rm (fun v U => jPc G av w0 sz v U ∧ va_AO RX5 U) (jQc G (va_A w0 sz) fin) (jXC G (va_A w0 sz) fin) mc ms (va_A w0 sz)
theorem CtO.met {G : CG} {y : MethodName} {ws : List Cond} {rm : Room} {av : List Value} {w0 : va_W} {fin : jFin} {mc ms : Nat} (h : CtO G y ws rm av w0 fin mc ms) (hne : ∀ E w, ¬ fin (.inr E) w) (sz : Nat) : Met (gL G) y ws rm (fun v U => jPc G av w0 sz v U ∧ va_AO RX5 U) (jQc G (va_A w0 sz) fin) mc ms (va_A w0 sz) := by
  refine MetFree.mono (h sz) (fun _ _ q => q) (fun _ _ _ _ _ q => q) (fun a s o t _ q => ?_)
  rcases q with ⟨q1, q2⟩ | ⟨z, -, E, ce, L, hx, -⟩
  · exact ⟨q1, q2⟩
  · obtain ⟨⟨w, hw, -⟩, -⟩ := hx
    exact absurd hw (hne E w)
theorem CtO.of {G : CG} {y : MethodName} {cc : ByteArray} {N : Nat} {ret : Option FieldType} {Ts Ts' : List Cond} {rm : Room} {av : List Value} {w0 : va_W} {fin : jFin} {mc ms : Nat} (own : String) (hy : plainName y.cls = true) (how : y.cls = own) (hw : Ts = Cond.code y cc N ret :: Ts') (hl : (gL G).stackTraces = false) (hen : (lg_sl av).length ≤ N) {lv : List (Nat × Value)} (hlv : lv_args 0 av = lv)
    (k : ∀ X : CX, X.1 = G → Cok X cc own Ts rm N ret → va_AO RX5 X.2.2.2.2.1 → X.2.2.2.2.2.2.2.2.1.name = y.name → Rok X fin mc ms → Jt X w0 0 0 0 lv []) : CtO G y Ts rm av w0 fin mc ms := by
  intro sz
  refine vx_ofW (cc := cc) (maxL := N) (ret := ret) hy hw ?_
  intro p e s m args below meth c s₁ B hml hex hv
  obtain ⟨⟨rfl, hsz, hP, hK, hD0, hG, hZ⟩, hao⟩ := hv
  have hx := B.exec
  have hb := B.bytes
  have hr := B.returns
  have hts := atoms_spec (ws := Ts) B.pre
  have hown : s.vm.findClass own = some m.cls := by rw [← how]; exact findClass_of_methodNamed B.named
  have hlocks := B.notSynchronized
  have hin : meth.name = y.name := (name_of_methodNamed B.named B.method).1
  subst hsz
  have hD := hD0.self (sz := s.heap.size)
  have hA : ∀ q : Nat, s.heap.size ≤ q → va_A w0 s.heap.size q := fun q h => Or.inr h
  have hl2 := lv_entry av hen
  rw [lg_entry_eq]
  rw [hlv] at hl2
  have hl3 : lv_has ((lg_sl av ++ List.replicate (N - (lg_sl av).length) Slot.unset).toArray) c.maxLocals lv := by rw [hml]; exact hl2
  exact k (G, p, e, rm, s, m, av.toArray, below, meth, c, vx_MQ below (jQc G (va_A w0 s.heap.size) fin) (jXC G (va_A w0 s.heap.size) fin) av.toArray s mc ms (va_A w0 s.heap.size), va_A w0 s.heap.size) rfl
    ⟨hx, hb, hml, hown, hts, hK, hG, hZ, hA, hlocks, rfl, hl, hr⟩ hao hin rfl s.heap [] _ hP hD va_S.rf hl3
theorem j_objInit (C : Cok X cc own Ts rm N ret) {index a : Nat} (h1 : Cond.methodLink own index objectInit ∈ Ts) (h2 : Cond.instanceMethod objectInit ∈ Ts) (h3 : Cond.code objectInit ⟨#[0xb1]⟩ 1 none ∈ Ts) (hrm : (Nat.ble 1 rm.frames && Nat.ble ((rest.map fun v => v.category).sum + 12) rm.locals) = true) (hd : decode cc pc = .ok (.invokespecial index, 3)) (k : Jt X ws cn sn (pc + 3) lv rest) : Jt X ws cn sn pc lv (.ref a :: rest) := by
  simp only [Bool.and_eq_true] at hrm
  obtain ⟨G, p, e, R, s, m, args, below, meth, c, Q, A⟩ := X
  obtain ⟨hx, hb, hml, hown, hts, hK, hG, hZ, hA, hlocks, hR, htr, hr⟩ := C
  subst hR
  intro H locs ls hP hD hS hl
  refine W.objInit hx hb hown (hts _ h1) (hts _ h2) (hts _ h3) rfl hl.1 rfl hd (Nat.le_of_ble_eq_true hrm.1) ?_ ?_
  · have := Nat.le_of_ble_eq_true hrm.2
    rw [show 2 * (F0 m pc ls (.ref a :: rest)).monitorRoom = 0 from rfl, Nat.zero_add]
    exact this
  · exact W.eq (g2 := F0 m (pc + 3) ls rest) rfl (k H locs ls hP hD hS hl)
theorem j_newI (C : Cok X cc own Ts rm N ret) {n : Int32} {N' : Nat} (harr : Cond.arrayClass .int ∈ Ts) (hn : ¬ n < 0) (hN : n.toNatClampNeg = N') (hby : Nat.ble (N' * componentBytes .int) 536870912 = true) (hrm : (Nat.ble (cn + 1) rm.cells && Nat.ble (sn + N') rm.slots) = true) (hd : decode cc pc = .ok (.newarray .int, 2)) (k : ∀ q : Nat, Jt X (ws ++ [(q, .inl (gI X.1, N', .inl (fun _ => 0)))]) (cn + 1) (sn + N') (pc + 2) lv (.ref q :: rest)) : Jt X ws cn sn pc lv (.int n :: rest) := by
  simp only [Bool.and_eq_true] at hrm
  obtain ⟨G, p, e, R, s, m, args, below, meth, c, Q, A⟩ := X
  obtain ⟨hx, hb, hml, hown, hts, hK, hG, hZ, hA, hlocks, hR, htr, hr⟩ := C
  subst hR
  intro H locs ls hP hD hS hl
  refine va_newa (atype := .int) (ty := .int) (a0 := (N', .inl (fun _ => 0))) hx hb (hts _ harr) rfl hK hP hD hS hA (fun cA => rfl) hn hN (Nat.le_of_ble_eq_true hby) (Nat.le_of_ble_eq_true hrm.1) (Nat.le_of_ble_eq_true hrm.2) hd (fun q cA H1 hK1 hP1 hD1 hS1 => ?_)
  have e : cA = gI G := Option.some.inj ((va_nm_int (hK1.2 3 (cA, .int) rfl).2).symm.trans (va_nm_int (hK.2 0 (gI G, .int) rfl).2))
  subst e
  exact k q H1 locs ls hP1 hD1 hS1 hl
theorem j_newJ (C : Cok X cc own Ts rm N ret) {n : Int32} {N' : Nat} (harr : Cond.arrayClass .long ∈ Ts) (hn : ¬ n < 0) (hN : n.toNatClampNeg = N') (hby : Nat.ble (N' * componentBytes .long) 536870912 = true) (hrm : (Nat.ble (cn + 1) rm.cells && Nat.ble (sn + N') rm.slots) = true) (hd : decode cc pc = .ok (.newarray .long, 2)) (k : ∀ q : Nat, Jt X (ws ++ [(q, .inl (gJ X.1, N', .inr (.inl (fun _ => 0))))]) (cn + 1) (sn + N') (pc + 2) lv (.ref q :: rest)) : Jt X ws cn sn pc lv (.int n :: rest) := by
  simp only [Bool.and_eq_true] at hrm
  obtain ⟨G, p, e, R, s, m, args, below, meth, c, Q, A⟩ := X
  obtain ⟨hx, hb, hml, hown, hts, hK, hG, hZ, hA, hlocks, hR, htr, hr⟩ := C
  subst hR
  intro H locs ls hP hD hS hl
  refine va_newa (atype := .long) (ty := .long) (a0 := (N', .inr (.inl (fun _ => 0)))) hx hb (hts _ harr) rfl hK hP hD hS hA (fun cA => rfl) hn hN (Nat.le_of_ble_eq_true hby) (Nat.le_of_ble_eq_true hrm.1) (Nat.le_of_ble_eq_true hrm.2) hd (fun q cA H1 hK1 hP1 hD1 hS1 => ?_)
  have e : cA = gJ G := Option.some.inj ((va_nm_long (hK1.2 3 (cA, .long) rfl).2).symm.trans (va_nm_long (hK.2 1 (gJ G, .long) rfl).2))
  subst e
  exact k q H1 locs ls hP1 hD1 hS1 hl
theorem j_newO (C : Cok X cc own Ts rm N ret) (hao : va_AO RX5 X.2.2.2.2.1) {index : Nat} {n : Int32} {N' : Nat} (hcl : Cond.classLink own index RX5 ∈ Ts) (hn : ¬ n < 0) (hN : n.toNatClampNeg = N') (hby : Nat.ble (N' * 4) 536870912 = true) (hrm : (Nat.ble (cn + 1) rm.cells && Nat.ble (sn + N') rm.slots) = true) (hd : decode cc pc = .ok (.anewarray index, 3)) (k : ∀ q : Nat, Jt X (ws ++ [(q, .inl (gO X.1, N', .inr (.inr (.inr (.inr (fun _ => none))))))]) (cn + 1) (sn + N') (pc + 3) lv (.ref q :: rest)) : Jt X ws cn sn pc lv (.int n :: rest) := by
  simp only [Bool.and_eq_true] at hrm
  obtain ⟨G, p, e, R, s, m, args, below, meth, c, Q, A⟩ := X
  obtain ⟨hx, hb, hml, hown, hts, hK, hG, hZ, hA, hlocks, hR, htr, hr⟩ := C
  subst hR
  intro H locs ls hP hD hS hl
  refine va_newq (C := RX5) hx hb hown (hts _ hcl) hao hK hP hD hS hA hn hN (Nat.le_of_ble_eq_true hby) (Nat.le_of_ble_eq_true hrm.1) (Nat.le_of_ble_eq_true hrm.2) hd (fun q cA H1 hK1 hP1 hD1 hS1 => ?_)
  have e : cA = gO G := by
    obtain ⟨-, -, -, -, -, h1⟩ := (hK1.2 3 (cA, .object RX5) rfl).2
    obtain ⟨-, -, -, -, -, h2⟩ := (hK.2 2 (gO G, .object RX5) rfl).2
    exact Option.some.inj (h1.symm.trans h2)
  subst e
  exact k q H1 locs ls hP1 hD1 hS1 hl
theorem j_astq (C : Cok X cc own Ts rm N ret) {a n v : Nat} {vs : List Value} {f : Nat → Option Nat} {i : Int32} (q0 qk : Nat) (ha : ws[q0]? = some (a, .inl (gO X.1, n, .inr (.inr (.inr (.inr f)))))) (hv : ws[qk]? = some (v, .inr (5, vs))) (hin : vp_in i n) (hw : ws.set q0 (a, .inl (gO X.1, n, .inr (.inr (.inr (.inr (va_up f i.toNatClampNeg (some v))))))) = ws') (hd : decode cc pc = .ok (.aastore, 1)) (k : Jt X ws' cn sn (pc + 1) lv rest) : Jt X ws cn sn pc lv (.ref v :: .int i :: .ref a :: rest) := by
  obtain ⟨G, p, e, R, s, m, args, below, meth, c, Q, A⟩ := X
  obtain ⟨hx, hb, hml, hown, hts, hK, hG, hZ, hA, hlocks, hR, htr, hr⟩ := C
  intro H locs ls hP hD hS hl
  exact va_astq hx hb hK hP hD hS q0 2 qk 5 (r := (RX5, TX5, 5)) ha rfl hv rfl hin hd (fun H1 locs1 hP1 hD1 hS1 => k H1 locs1 ls (by rw [← hw]; exact hP1) (by rw [← hw]; exact hD1) hS1 hl)
/-- a cell told otherwise -/
theorem j_cong (q0 : Nat) {a : Nat} {cA : ClassId} {y y' : vp_A} (ha : ws[q0]? = some (a, .inl (cA, y))) (hy : vp_cell cA y = vp_cell cA y') (hw : ws.set q0 (a, .inl (cA, y')) = ws') (k : Jt X ws' cn sn pc lv st) : Jt X ws cn sn pc lv st := by
  obtain ⟨G, p, e, R, s, m, args, below, meth, c, Q, A⟩ := X
  intro H locs ls hP hD hS hl
  refine k H locs ls ?_ (by rw [← hw]; exact hD.set ha) hS hl
  rw [← hw]
  refine hP.set hD ha ?_ (fun q _ => rfl)
  show H[a]? = some (vp_cell cA y')
  rw [← hy]
  exact hP q0 _ ha
theorem arrV_c {cA : ClassId} {n : Nat} {f g : Nat → Value} (h : ∀ j, j < n → f j = g j) : arrV cA n f = arrV cA n g := by
  unfold arrV
  congr 1
  exact congrArg Array.ofFn (funext fun j => h j.1 j.2)
theorem j_callI (C : Cok X cc own Ts rm N ret) (hao : va_AO RX5 X.2.2.2.2.1) {y : MethodName} {wy : List Cond} {rmy : Room} {bytes : ByteArray} {maxL n index mc ms : Nat} {wc wr : va_W} {fin : jFin} {b : Nat} {As : List Value} (hc : CtO X.1 y wy rmy (.ref b :: As) wc fin mc ms) (hne : ∀ E w, ¬ fin (.inr E) w) (hcf : Cf y wy rmy bytes maxL none n) (hg : GoodIn Ts wy) (hini : Cond.initialized y.cls ∈ Ts) (hlk : Cond.methodLink own index y ∈ Ts) (hinst : Cond.instanceMethod y ∈ Ts) (hnm : y.name = "<init>") (hn : As.length = n) (hst : st = As.reverse ++ .ref b :: rest) (hd : decode cc pc = .ok (.invokespecial index, 3)) (isC isR : List Nat) (hC : isC.map (fun i => ws[i]?) = wc.map some) (hR2 : isR.map (fun i => ws[i]?) = wr.map some) (hnd : (va_nd isC && va_nd isR && isR.all (fun i => !isC.contains i)) = true) (hrm : (Nat.ble (rmy.frames + 1) rm.frames && Nat.ble (8 + (maxL + 11) + rmy.locals) rm.locals && Nat.beq rmy.cells mc && Nat.beq rmy.slots ms && Nat.ble (cn + mc) rm.cells && Nat.ble (sn + ms) rm.slots) = true) (hcat : Nat.ble ((rest.map fun v => v.category).sum) 8 = true) (k : ∀ v w1, fin (.inl v) w1 → Jt X (wr ++ w1) (cn + mc) (sn + ms) (pc + 3) lv (v.toList ++ rest)) : Jt X ws cn sn pc lv st := by
  simp only [Bool.and_eq_true] at hnd hrm
  obtain ⟨⟨⟨⟨⟨r1, r2⟩, r3⟩, r4⟩, r5⟩, r6⟩ := hrm
  obtain ⟨G, p, e, R, s, m, args, below, meth, c, Q, A⟩ := X
  obtain ⟨hx, hb, hml, hown, hts, hK, hG, hZ, hA, hlocks, rfl, htr, hr⟩ := C
  intro H locs ls hP hD hS hl
  obtain ⟨⟨wy', hwy⟩, hy1, hy2, hy3⟩ := hcf
  subst hst
  have hDc := hD.sub isC hnd.1.1 hC
  have hPc : va_P (gD G) vwCl wc H := jsubP hP isC hC
  have hFc := va_free (wc := wc) hD hS hA isC hC
  exact jrun hP hD hS hA hC hR2 hnd.1.2 hnd.2 (va_runI (As := As) (rest := rest) ⟨hx, hb, hml, hown, hts⟩ (hc.met hne H.size) (cwI n hts hg hwy (Nat.eq_of_beq_eq_true r3) (Nat.eq_of_beq_eq_true r4) (hts _ hini) (hts _ hlk) (hts _ hinst) hnm ⟨hy1, hy2, hy3⟩ ⟨Nat.le_of_ble_eq_true r1, Nat.le_of_ble_eq_true r2⟩) ⟨fun a U g mk q => ⟨jPc.blind a U g mk q.1, va_AO.moved (u := U) (U := U.calling g mk a) (Vm.Alike.refl U.vm) q.2⟩, fun U hU hW => ⟨jpre (p := p) (e := e) (ws := ws) hK hG hZ hS hPc hDc hFc U hU hW, va_AO.moved hW.alike hao⟩⟩ rfl hn (hl.1.trans hml) rfl (lv_room (Nat.le_of_ble_eq_true hcat)) hd ⟨Nat.le_of_ble_eq_true r5, Nat.le_of_ble_eq_true r6⟩) (fun v w1 H1 locs1 hfin hP1 hD1 hS1 => k v w1 hfin H1 locs1 ls hP1 hD1 hS1 hl)
theorem j_callIN (C : Cok X cc own Ts rm N ret) (hao : va_AO RX5 X.2.2.2.2.1) {y : MethodName} {wy : List Cond} {rmy : Room} {bytes : ByteArray} {maxL n index mc ms : Nat} {host : String} {wc wr : va_W} {fin : jFin} {b : Nat} {As : List Value} (hc : CtO X.1 y wy rmy (.ref b :: As) wc fin mc ms) (hne : ∀ E w, ¬ fin (.inr E) w) (hcf : Cf y wy rmy bytes maxL none n) (hg : GoodIn Ts wy) (hini : Cond.initialized y.cls ∈ Ts) (hlk : Cond.methodLinkNest own index y host ∈ jNest) (hinst : Cond.instanceMethod y ∈ Ts) (hnm : y.name = "<init>") (hn : As.length = n) (hst : st = As.reverse ++ .ref b :: rest) (hd : decode cc pc = .ok (.invokespecial index, 3)) (isC isR : List Nat) (hC : isC.map (fun i => ws[i]?) = wc.map some) (hR2 : isR.map (fun i => ws[i]?) = wr.map some) (hnd : (va_nd isC && va_nd isR && isR.all (fun i => !isC.contains i)) = true) (hrm : (Nat.ble (rmy.frames + 1) rm.frames && Nat.ble (8 + (maxL + 11) + rmy.locals) rm.locals && Nat.beq rmy.cells mc && Nat.beq rmy.slots ms && Nat.ble (cn + mc) rm.cells && Nat.ble (sn + ms) rm.slots) = true) (hcat : Nat.ble ((rest.map fun v => v.category).sum) 8 = true) (k : ∀ v w1, fin (.inl v) w1 → Jt X (wr ++ w1) (cn + mc) (sn + ms) (pc + 3) lv (v.toList ++ rest)) : Jt X ws cn sn pc lv st := by
  simp only [Bool.and_eq_true] at hnd hrm
  obtain ⟨⟨⟨⟨⟨r1, r2⟩, r3⟩, r4⟩, r5⟩, r6⟩ := hrm
  obtain ⟨G, p, e, R, s, m, args, below, meth, c, Q, A⟩ := X
  obtain ⟨hx, hb, hml, hown, hts, hK, hG, hZ, hA, hlocks, rfl, htr, hr⟩ := C
  intro H locs ls hP hD hS hl
  obtain ⟨⟨wy', hwy⟩, hy1, hy2, hy3⟩ := hcf
  subst hst
  have hDc := hD.sub isC hnd.1.1 hC
  have hPc : va_P (gD G) vwCl wc H := jsubP hP isC hC
  have hFc := va_free (wc := wc) hD hS hA isC hC
  exact jrun hP hD hS hA hC hR2 hnd.1.2 hnd.2 (va_runIN (host := host) (As := As) (rest := rest) ⟨hx, hb, hml, hown, hts⟩ (hc.met hne H.size) ⟨va_cnB n hts hg hwy (Nat.eq_of_beq_eq_true r3) (Nat.eq_of_beq_eq_true r4) (hG.1 _ hlk) (hts _ hini) ⟨hy1, hy2, hy3⟩ ⟨Nat.le_of_ble_eq_true r1, Nat.le_of_ble_eq_true r2⟩, hnm, hts _ hinst⟩ ⟨fun a U g mk q => ⟨jPc.blind a U g mk q.1, va_AO.moved (u := U) (U := U.calling g mk a) (Vm.Alike.refl U.vm) q.2⟩, fun U hU hW => ⟨jpre (p := p) (e := e) (ws := ws) hK hG hZ hS hPc hDc hFc U hU hW, va_AO.moved hW.alike hao⟩⟩ rfl hn (hl.1.trans hml) rfl (lv_room (Nat.le_of_ble_eq_true hcat)) hd ⟨Nat.le_of_ble_eq_true r5, Nat.le_of_ble_eq_true r6⟩) (fun v w1 H1 locs1 hfin hP1 hD1 hS1 => k v w1 hfin H1 locs1 ls hP1 hD1 hS1 hl)
def pick6 (a b c d e f : Nat) : Nat → Nat
  | 0 => a
  | 1 => b
  | 2 => c
  | 3 => d
  | 4 => e
  | _ => f
end JC
end
