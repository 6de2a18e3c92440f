noncomputable section
section JW
variable {X : CX} {cc : ByteArray} {own : String} {Ts : List Cond} {rm : Room} {N : Nat} {ret : Option FieldType} {ws ws' : va_W} {cn sn pc : Nat} {lv lv' : List (Nat × Value)} {st st' rest : List Value}
/-- the body's proof gives the contract, of a method with handlers -/
theorem Ct.ofH {G : CG} {y : MethodName} {cc : ByteArray} {N : Nat} {ret : Option FieldType} {hh : List (Nat × Nat × Nat × Nat)} {Ts Ts' : List Cond} {rm : Room} {av : List Value} {w0 : va_W} {fin : jFin} {mc ms : Nat} (own : String) (hy : plainName y.cls = true) (how : y.cls = own) (hw : Ts = Cond.codeWith y cc N ret hh :: Ts') (hl : (gL G).stackTraces = false) (hen : (lg_sl av).length ≤ N) {lv : List (Nat × Value)} (hlv : lv_args 0 av = lv)
    (k : ∀ X : CX, X.1 = G → Cok X cc own Ts rm N ret → X.2.2.2.2.2.2.2.2.2.1.exceptionTable.toList = tableOf hh → Rok X fin mc ms → Jt X w0 0 0 0 lv []) : Ct G y Ts rm av w0 fin mc ms := by
  intro sz
  refine vx_ofWH (cc := cc) (maxL := N) (ret := ret) hy hw ?_
  intro p e s m args below meth c s₁ B hml hv
  obtain ⟨rfl, hsz, hP, hK, hD0, hG, hZ⟩ := hv
  have hx := B.exec
  have hb := B.bytes
  have hr := B.returns
  have hts := atoms_spec (ws := Ts) B.pre
  have hown : s.vm.findClass own = some m.cls := by rw [← how]; exact findClass_of_methodNamed B.named
  have hlocks := B.notSynchronized
  have htab : c.exceptionTable.toList = tableOf hh := vx_table (x := y) B (hts _ (by rw [hw]; exact List.mem_cons_self))
  subst hsz
  have hD := hD0.self (sz := s.heap.size)
  have hA : ∀ q : Nat, s.heap.size ≤ q → va_A w0 s.heap.size q := fun q h => Or.inr h
  have hl2 := lv_entry av hen
  rw [lg_entry_eq]
  rw [hlv] at hl2
  have hl3 : lv_has ((lg_sl av ++ List.replicate (N - (lg_sl av).length) Slot.unset).toArray) c.maxLocals lv := by rw [hml]; exact hl2
  exact k (G, p, e, rm, s, m, av.toArray, below, meth, c, vx_MQ below (jQc G (va_A w0 s.heap.size) fin) (jXC G (va_A w0 s.heap.size) fin) av.toArray s mc ms (va_A w0 s.heap.size), va_A w0 s.heap.size) rfl
    ⟨hx, hb, hml, hown, hts, hK, hG, hZ, hA, hlocks, rfl, hl, hr⟩ htab rfl s.heap [] _ hP hD va_S.rf hl3
/-- a call that throws, and is caught here -/
theorem j_cVT (C : Cok X cc own Ts rm N ret) {hh : List (Nat × Nat × Nat × Nat)} (hTab : X.2.2.2.2.2.2.2.2.2.1.exceptionTable.toList = tableOf hh) {y : MethodName} {wy : List Cond} {rmy : Room} {bytes : ByteArray} {maxL n index mc ms : Nat} {rt : Option FieldType} {wc w1 wr : va_W} {E : String} {b : Nat} {As : List Value} (hc : Ct X.1 y wy rmy (.ref b :: As) wc (finT E w1) mc ms) (hcf : Cf y wy rmy bytes maxL rt n) {Cn : String} (hg : GoodIn Ts (wsV own index Cn y wy)) (hcn : y.cls = Cn) {ci q0 : Nat} {T : u_T} {Nn : Nat} {fs : List Value} (hcl : vwCl[ci]? = some (Cn, T, Nn)) (hrv : wc[q0]? = some (b, .inr (ci, fs))) (hn : As.length = n) (hst : st = As.reverse ++ .ref b :: rest) (hd : decode cc pc = .ok (.invokevirtual index, 3)) (isC isR : List Nat) (hC : isC.map (fun i => ws[i]?) = wc.map some) (hR2 : isR.map (fun i => ws[i]?) = wr.map some) (hnd : (va_nd isC && va_nd isR && isR.all (fun i => !isC.contains i)) = true) (hrm : (Nat.ble (rmy.frames + 1) rm.frames && Nat.ble (8 + (maxL + 11) + rmy.locals) rm.locals && Nat.beq rmy.cells mc && Nat.beq rmy.slots ms && Nat.ble (cn + mc) rm.cells && Nat.ble (sn + ms) rm.slots) = true) (hcat : Nat.ble ((rest.map fun v => v.category).sum) 8 = true)
    (pre : List ExceptionTableEntry) (x : ExceptionTableEntry) (suf : List ExceptionTableEntry) (hsplit : tableOf hh = pre ++ x :: suf) (hpass : ∀ z ∈ pre, z.catchType ≠ 0 ∧ ∃ nm : String, Cond.classLink own z.catchType nm ∈ Ts ∧ (E, nm) ∈ jNcs) (hx9 : covers x pc = true) (h09 : x.catchType ≠ 0) (hlink : Cond.classLink own x.catchType E ∈ Ts) (hcast : Cond.castable E E ∈ jCast)
    (k : ∀ q : Nat, Jt X (wr ++ w1) (cn + mc) (sn + ms) x.handlerPc lv [.ref q]) : Jt X ws cn sn pc lv st := by
  simp only [Bool.and_eq_true] at hnd hrm
  obtain ⟨⟨⟨⟨⟨r1, r2⟩, r3⟩, r4⟩, r5⟩, r6⟩ := hrm
  obtain ⟨G, p, e, R, s, m, args, below, meth, c, Q, A⟩ := X
  obtain ⟨hx, hb, hml, hown, hts, hK, hG, hZ, hA, hlocks, rfl, htr, hr⟩ := C
  intro H locs ls hP hD hS hl
  obtain ⟨⟨wy', hwy⟩, hy1, hy2, hy3⟩ := hcf
  subst hst
  have hDc := hD.sub isC hnd.1.1 hC
  have hPc : va_P (gD G) vwCl wc H := jsubP hP isC hC
  have hFc := va_free (wc := wc) hD hS hA isC hC
  intro T0 hT X0
  have hrun := vx_runV (e := e) (below := below) (meth := meth) (locs := locs) (g := F0 m pc ls (As.reverse ++ .ref b :: rest)) (As := As) (rest := rest) ⟨hx, hb, hml, hown, hts⟩ (hc H.size) (cwV n hts hg hwy (Nat.eq_of_beq_eq_true r3) (Nat.eq_of_beq_eq_true r4) ⟨hcn, hy1, hy2, hy3⟩ ⟨Nat.le_of_ble_eq_true r1, Nat.le_of_ble_eq_true r2⟩) ⟨jPc.blind, va_recv hK hPc hcl hrv, jpre (p := p) (e := e) (ws := ws) hK hG hZ hS hPc hDc hFc⟩ rfl hn (hl.1.trans hml) rfl (lv_room (Nat.le_of_ble_eq_true hcat)) hd ⟨Nat.le_of_ble_eq_true r5, Nat.le_of_ble_eq_true r6⟩
  rcases hrun T0 hT X0 with ⟨v, st₀, t, T', L, h0, X', hL, e1, e2, ⟨⟨v', w', hv, hfin, -⟩, -⟩, stp⟩ | ⟨q, st₀, t, T', L, E', ce, h0, X', hL, e1, e2, ⟨⟨w', hfin, hP1, hK1, hD1⟩, hz, hk⟩, hce, hcv, hcl', stp⟩
  · exact nomatch hfin.1
  · obtain ⟨hE, rfl⟩ := hfin
    cases hE
    rw [h0] at hz hk
    have hk' : ∀ q : Nat, q < H.size → ¬ va_A wc H.size q → T'.heap[q]? = H[q]? := fun q h1 h2 => by rw [e1]; exact hk q h1 h2
    obtain ⟨hP2, hD2⟩ := va_join (wr := wr) (w1 := w') hP hD isC isR hC hR2 hnd.1.2 (fun i hi hj => by
      have := List.all_eq_true.mp hnd.2 i hi
      simp [hj] at this) hk' hFc (by rw [e1]; exact hP1) hD1
    have hS2 : va_S A s.heap T'.heap (locs ++ L) := ⟨Nat.le_trans hS.1 (by rw [e1]; exact hz), fun q h1 h2 => by rw [hk' q (Nat.lt_of_lt_of_le h1 hS.1) (fun z => h2 (hFc q z))]; exact hS.2.1 q h1 h2, fun q hq => by
      rcases List.mem_append.mp hq with h | h
      · exact hS.2.2 q h
      · exact hFc _ (hL q h)⟩
    obtain ⟨t2, a1, b1⟩ := vx_catch (own := own) (name := E) (H := T'.heap) (pc := pc) (ls := ls) (rest := rest) (Q := Q) hown pre x suf (hTab.trans hsplit) (fun z hz => by
      obtain ⟨g1, nm, g2, g3⟩ := hpass z hz
      exact Or.inr ⟨g1, nm, hts _ g2, hG.2.2.2 _ g3⟩) hx9 h09 (hts _ hlink) (va_Nw.use (jCast_tab _ hcast) (hG.2.1 _ hcast)) (by rw [e1]; exact hce) hcv hcl' (k q T'.heap (locs ++ L) ls hP2 hD2 hS2 hl) T' rfl X'
    exact ⟨t2, stp.trans a1, b1⟩
/-- what a static call of a method with handlers needs to know of it -/
def CfW (y : MethodName) (wy : List Cond) (bytes : ByteArray) (maxL : Nat) (rt : Option FieldType) (hh : List (Nat × Nat × Nat × Nat)) (n : Nat) : Prop := (∃ wy', wy = Cond.codeWith y bytes maxL rt hh :: wy') ∧ y.cls ≠ "java/lang/invoke/MethodHandle" ∧ y.cls ≠ "java/lang/invoke/VarHandle" ∧ (parseMethodDescriptor y.desc).map (fun d => d.parameters.length) = some n
theorem j_cSW (C : Cok X cc own Ts rm N ret) {y : MethodName} {wy : List Cond} {rmy : Room} {bytes : ByteArray} {maxL n index mc ms : Nat} {rt : Option FieldType} {hh : List (Nat × Nat × Nat × Nat)} {wc w1 : va_W} {v : Option Value} {As : List Value} (hc : Ct X.1 y wy rmy As wc (fin1 v w1) mc ms) (hcf : CfW y wy bytes maxL rt hh n) (hg : GoodIn Ts (va_wsS own index y wy)) (hn : As.length = n) (hst : st = As.reverse ++ rest) (hd : decode cc pc = .ok (.invokestatic index, 3)) (isC isR isF : List Nat) (hC : isC.map (fun i => ws[i]?) = wc.map some) (hR2 : isR.map (fun i => ws[i]?) = (isR.filterMap (fun i => ws[i]?)).map some) (hF : isF.map (fun i => (isR.filterMap (fun i => ws[i]?) ++ w1)[i]?) = ws'.map some) (hst2 : v.toList ++ rest = st') (hnd : (va_nd isC && va_nd isR && isR.all (fun i => !isC.contains i) && va_nd isF && Nat.ble ((rest.map fun v => v.category).sum) 8) = true) (hrm : (Nat.ble (rmy.frames + 1) rm.frames && Nat.ble (8 + (maxL + 11) + rmy.locals) rm.locals && Nat.beq rmy.cells mc && Nat.beq rmy.slots ms) = true) (hcn : cn + mc ≤ rm.cells) (hsn : sn + ms ≤ rm.slots) (k : Jt X ws' (cn + mc) (sn + ms) (pc + 3) lv st') : Jt X ws cn sn pc lv st := by
  simp only [Bool.and_eq_true] at hnd hrm
  obtain ⟨⟨⟨⟨n1, n2⟩, n3⟩, n4⟩, n5⟩ := hnd
  obtain ⟨⟨⟨r1, r2⟩, r3⟩, r4⟩ := hrm
  obtain ⟨G, p, e, R, s, m, args, below, meth, c, Q, A⟩ := X
  obtain ⟨hx, hb, hml, hown, hts, hK, hG, hZ, hA, hlocks, rfl, htr, hr⟩ := C
  intro H locs ls hP hD hS hl
  obtain ⟨⟨wy', hwy⟩, hy1, hy2, hy3⟩ := hcf
  subst hst
  have hDc := hD.sub isC n1 hC
  have hPc : va_P (gD G) vwCl wc H := jsubP hP isC hC
  have hFc := va_free (wc := wc) hD hS hA isC hC
  refine jrun hP hD hS hA hC hR2 n2 n3 (vx_runSW (As := As) (rest := rest) ⟨hx, hb, hml, hown, hts⟩ (hc.met fin1_ne H.size) (vx_cwSW n hts hg hwy (Nat.eq_of_beq_eq_true r3) (Nat.eq_of_beq_eq_true r4) ⟨hy1, hy2, hy3⟩ ⟨Nat.le_of_ble_eq_true r1, Nat.le_of_ble_eq_true r2⟩) ⟨jPc.blind, jpre (p := p) (e := e) (ws := ws) hK hG hZ hS hPc hDc hFc⟩ rfl hn (hl.1.trans hml) rfl (lv_room (Nat.le_of_ble_eq_true n5)) hd ⟨hcn, hsn⟩) (fun v1 wx H1 locs1 hfin hP1 hD1 hS1 => ?_)
  obtain ⟨hv1, rfl⟩ := hfin
  cases hv1
  rw [hst2]
  exact j_sub (X := (G, p, e, R, s, m, args, below, meth, c, Q, A)) isF ((List.range lv.length)) hF n4 (j_pickAll lv) k H1 locs1 ls hP1 hD1 hS1 hl
/-- a world of two parts: the first -/
theorem rng_C (w r : va_W) : (List.range w.length).map (fun i => (w ++ r)[i]?) = w.map some := by
  apply List.ext_getElem?
  intro i
  rw [List.getElem?_map, List.getElem?_map]
  by_cases h : i < w.length
  · rw [List.getElem?_range h, Option.map_some, List.getElem?_append_left h, List.getElem?_eq_getElem h]
    rfl
  · rw [List.getElem?_eq_none (by rw [List.length_range]; omega), List.getElem?_eq_none (by omega)]
    rfl
theorem rng_nd : ∀ l : List Nat, l.Nodup → va_nd l = true := by
  intro l
  induction l with
  | nil => intro _; rfl
  | cons a l ih =>
    intro h
    rw [List.nodup_cons] at h
    show (decide (a ∉ l) && va_nd l) = true
    rw [ih h.2, decide_eq_true h.1]
    rfl
end JW
end
