section JM
/-- the one answer v, the one world w1 -/
abbrev fin1 (v : Option Value) (w1 : va_W) : jFin := fun o w => o = .inl v ∧ w = w1
def exN (k : Nat) : String := if k = 1 then "java/lang/IndexOutOfBoundsException" else if k = 2 then "java/lang/IllegalArgumentException" else "java/lang/IllegalStateException"
/-- a throw of the kind k leaves the world w0; an answer u is v u, and leaves w1 u -/
def finX {β : Type} (y : Nat ⊕ β) (v : β → Option Value) (w0 : va_W) (w1 : β → va_W) : jFin := fun o w => match y with
  | .inl k => o = .inr (exN k) ∧ w = w0
  | .inr u => o = .inl (v u) ∧ w = w1 u
theorem fin1_ne {v : Option Value} {w1 : va_W} : ∀ E w, ¬ fin1 v w1 (.inr E) w := fun _ _ h => nomatch h.1
theorem Ct.fin {G : CG} {y : MethodName} {ws : List Cond} {rm : Room} {av : List Value} {w0 : va_W} {f f' : jFin} {mc ms : Nat} (h : Ct G y ws rm av w0 f mc ms) (hf : ∀ o w, f o w → f' o w) : Ct G y ws rm av w0 f' mc ms := by
  intro sz
  refine MetFree.mono (h sz) (fun _ _ q => q) (fun _ _ _ _ _ q => q) (fun a s o t _ q => ?_)
  rcases q with ⟨⟨⟨v, w, h1, h2, h3⟩, h4⟩, q2⟩ | ⟨z, h0, E, ce, L, ⟨⟨w, h1, h2⟩, h3⟩, h4⟩
  · exact Or.inl ⟨⟨⟨v, w, h1, hf _ _ h2, h3⟩, h4⟩, q2⟩
  · exact Or.inr ⟨z, h0, E, ce, L, ⟨⟨w, hf _ _ h1, h2⟩, h3⟩, h4⟩
theorem Ct.inr {G : CG} {y : MethodName} {ws : List Cond} {rm : Room} {av : List Value} {w0 : va_W} {β : Type} {r : Nat ⊕ β} {u : β} {v : β → Option Value} {w1 : β → va_W} {mc ms : Nat} (h : Ct G y ws rm av w0 (finX r v w0 w1) mc ms) (hr : r = .inr u) : Ct G y ws rm av w0 (fin1 (v u) (w1 u)) mc ms := by
  subst hr
  exact h.fin (fun o w q => q)
variable {X : CX} {cc : ByteArray} {own : String} {Ts : List Cond} {rm : Room} {N : Nat} {ret : Option FieldType} {ws ws' : va_W} {cn sn pc : Nat} {lv lv' : List (Nat × Value)} {st st' rest : List Value}
theorem j_pickAll (lv : List (Nat × Value)) : lv_pick lv (List.range lv.length) = lv := by
  have h : ∀ (l : List (Nat × Value)) (pre : List (Nat × Value)), ((List.range' pre.length l.length).filterMap (fun k => (pre ++ l)[k]?)) = l := by
    intro l
    induction l with
    | nil => intro pre; rfl
    | cons a l ih =>
      intro pre
      rw [List.length_cons, List.range'_succ, List.filterMap_cons]
      have h1 : (pre ++ a :: l)[pre.length]? = some a := by simp
      rw [h1]
      have h2 := ih (pre ++ [a])
      rw [List.length_append, List.append_assoc] at h2
      exact congrArg _ h2
  have := h lv []
  rw [List.length_nil, List.nil_append] at this
  unfold lv_pick
  rw [List.range_eq_range']
  exact this
theorem j_cV (C : Cok X cc own Ts rm N ret) {y : MethodName} {wy : List Cond} {rmy : Room} {bytes : ByteArray} {maxL n index mc ms : Nat} {rt : Option FieldType} {wc w1 : va_W} {v : Option Value} {b : Nat} {As : List Value} (hc : Ct X.1 y wy rmy (.ref b :: As) wc (fin1 v w1) mc ms) (hcf : Cf y wy rmy bytes maxL rt n) {Cn : String} (hg : GoodIn Ts (wsV own index Cn y wy)) (hcn : y.cls = Cn) {ci q0 : Nat} {T : u_T} {Nn : Nat} {fs : List Value} (hcl : vwCl[ci]? = some (Cn, T, Nn)) (hrv : wc[q0]? = some (b, .inr (ci, fs))) (hn : As.length = n) (hst : st = As.reverse ++ .ref b :: rest) (hd : decode cc pc = .ok (.invokevirtual index, 3)) (isC isR isF : List Nat) (hC : isC.map (fun i => ws[i]?) = wc.map some) (hR2 : isR.map (fun i => ws[i]?) = (isR.filterMap (fun i => ws[i]?)).map some) (hF : isF.map (fun i => (isR.filterMap (fun i => ws[i]?) ++ w1)[i]?) = ws'.map some) (hst2 : v.toList ++ rest = st') (hnd : (va_nd isC && va_nd isR && isR.all (fun i => !isC.contains i) && va_nd isF && Nat.ble ((rest.map fun v => v.category).sum) 8) = true) (hrm : (Nat.ble (rmy.frames + 1) rm.frames && Nat.ble (8 + (maxL + 11) + rmy.locals) rm.locals && Nat.beq rmy.cells mc && Nat.beq rmy.slots ms && Nat.ble (cn + mc) rm.cells && Nat.ble (sn + ms) rm.slots) = true) (k : Jt X ws' (cn + mc) (sn + ms) (pc + 3) lv st') : Jt X ws cn sn pc lv st := by
  simp only [Bool.and_eq_true] at hnd hrm
  obtain ⟨⟨⟨⟨n1, n2⟩, n3⟩, n4⟩, n5⟩ := hnd
  obtain ⟨⟨⟨⟨⟨r1, r2⟩, r3⟩, r4⟩, r5⟩, r6⟩ := hrm
  refine j_callV C hc fin1_ne hcf hg hcn hcl hrv hn hst hd isC isR hC hR2 (by simp only [Bool.and_eq_true]; exact ⟨⟨n1, n2⟩, n3⟩) ⟨Nat.le_of_ble_eq_true r1, Nat.le_of_ble_eq_true r2, Nat.eq_of_beq_eq_true r3, Nat.eq_of_beq_eq_true r4, Nat.le_of_ble_eq_true r5, Nat.le_of_ble_eq_true r6⟩ (Nat.le_of_ble_eq_true n5) (fun v1 wx hv => ?_)
  obtain ⟨hv1, rfl⟩ := hv
  cases hv1
  rw [hst2]
  exact j_sub isF ((List.range lv.length)) hF n4 (j_pickAll lv) k
theorem j_cS (C : Cok X cc own Ts rm N ret) {y : MethodName} {wy : List Cond} {rmy : Room} {bytes : ByteArray} {maxL n index mc ms : Nat} {rt : Option FieldType} {wc w1 : va_W} {v : Option Value} {As : List Value} (hc : Ct X.1 y wy rmy As wc (fin1 v w1) mc ms) (hcf : Cf y wy rmy bytes maxL rt n) (hg : GoodIn Ts (va_wsS own index y wy)) (hn : As.length = n) (hst : st = As.reverse ++ rest) (hd : decode cc pc = .ok (.invokestatic index, 3)) (isC isR isF : List Nat) (hC : isC.map (fun i => ws[i]?) = wc.map some) (hR2 : isR.map (fun i => ws[i]?) = (isR.filterMap (fun i => ws[i]?)).map some) (hF : isF.map (fun i => (isR.filterMap (fun i => ws[i]?) ++ w1)[i]?) = ws'.map some) (hst2 : v.toList ++ rest = st') (hnd : (va_nd isC && va_nd isR && isR.all (fun i => !isC.contains i) && va_nd isF && Nat.ble ((rest.map fun v => v.category).sum) 8) = true) (hrm : (Nat.ble (rmy.frames + 1) rm.frames && Nat.ble (8 + (maxL + 11) + rmy.locals) rm.locals && Nat.beq rmy.cells mc && Nat.beq rmy.slots ms && Nat.ble (cn + mc) rm.cells && Nat.ble (sn + ms) rm.slots) = true) (k : Jt X ws' (cn + mc) (sn + ms) (pc + 3) lv st') : Jt X ws cn sn pc lv st := by
  simp only [Bool.and_eq_true] at hnd hrm
  obtain ⟨⟨⟨⟨n1, n2⟩, n3⟩, n4⟩, n5⟩ := hnd
  obtain ⟨⟨⟨⟨⟨r1, r2⟩, r3⟩, r4⟩, r5⟩, r6⟩ := hrm
  refine j_callS C hc fin1_ne hcf hg hn hst hd isC isR hC hR2 (by simp only [Bool.and_eq_true]; exact ⟨⟨n1, n2⟩, n3⟩) ⟨Nat.le_of_ble_eq_true r1, Nat.le_of_ble_eq_true r2, Nat.eq_of_beq_eq_true r3, Nat.eq_of_beq_eq_true r4, Nat.le_of_ble_eq_true r5, Nat.le_of_ble_eq_true r6⟩ (Nat.le_of_ble_eq_true n5) (fun v1 wx hv => ?_)
  obtain ⟨hv1, rfl⟩ := hv
  cases hv1
  rw [hst2]
  exact j_sub isF ((List.range lv.length)) hF n4 (j_pickAll lv) k
theorem j_cN (C : Cok X cc own Ts rm N ret) {y : MethodName} {wy : List Cond} {rmy : Room} {bytes : ByteArray} {maxL n index mc ms : Nat} {rt : Option FieldType} {wc w1 : va_W} {v : Option Value} {host : String} {As : List Value} (hc : Ct X.1 y wy rmy As wc (fin1 v w1) mc ms) (hcf : Cf y wy rmy bytes maxL rt n) (hg : GoodIn Ts wy) (hnw : Cond.methodLinkNest own index y host ∈ jNest) (hini : Cond.initialized y.cls ∈ Ts) (hsta : Cond.static y ∈ Ts) (hn : As.length = n) (hst : st = As.reverse ++ rest) (hd : decode cc pc = .ok (.invokestatic index, 3)) (isC isR isF : List Nat) (hC : isC.map (fun i => ws[i]?) = wc.map some) (hR2 : isR.map (fun i => ws[i]?) = (isR.filterMap (fun i => ws[i]?)).map some) (hF : isF.map (fun i => (isR.filterMap (fun i => ws[i]?) ++ w1)[i]?) = ws'.map some) (hst2 : v.toList ++ rest = st') (hnd : (va_nd isC && va_nd isR && isR.all (fun i => !isC.contains i) && va_nd isF && Nat.ble ((rest.map fun v => v.category).sum) 8) = true) (hrm : (Nat.ble (rmy.frames + 1) rm.frames && Nat.ble (8 + (maxL + 11) + rmy.locals) rm.locals && Nat.beq rmy.cells mc && Nat.beq rmy.slots ms && Nat.ble (cn + mc) rm.cells && Nat.ble (sn + ms) rm.slots) = true) (k : Jt X ws' (cn + mc) (sn + ms) (pc + 3) lv st') : Jt X ws cn sn pc lv st := by
  simp only [Bool.and_eq_true] at hnd hrm
  obtain ⟨⟨⟨⟨n1, n2⟩, n3⟩, n4⟩, n5⟩ := hnd
  obtain ⟨⟨⟨⟨⟨r1, r2⟩, r3⟩, r4⟩, r5⟩, r6⟩ := hrm
  refine j_callN C hc fin1_ne hcf hg hnw hini hsta hn hst hd isC isR hC hR2 (by simp only [Bool.and_eq_true]; exact ⟨⟨n1, n2⟩, n3⟩) ⟨Nat.le_of_ble_eq_true r1, Nat.le_of_ble_eq_true r2, Nat.eq_of_beq_eq_true r3, Nat.eq_of_beq_eq_true r4, Nat.le_of_ble_eq_true r5, Nat.le_of_ble_eq_true r6⟩ (Nat.le_of_ble_eq_true n5) (fun v1 wx hv => ?_)
  obtain ⟨hv1, rfl⟩ := hv
  cases hv1
  rw [hst2]
  exact j_sub isF ((List.range lv.length)) hF n4 (j_pickAll lv) k

theorem j_ok1 : ∀ w ∈ Cond.classLink RX7 85 "java/lang/IndexOutOfBoundsException" :: Cond.initialized "java/lang/IndexOutOfBoundsException" :: vx_atS RX7 89 "java/lang/IndexOutOfBoundsException" ["java/lang/RuntimeException", "java/lang/Exception"], vx_ot w = true := by decide +kernel
theorem j_bad1 : ∀ w ∈ (vx_atS RX7 89 "java/lang/IndexOutOfBoundsException" ["java/lang/RuntimeException", "java/lang/Exception"]).filter (fun w => !goodWord w), w ∈ jCast := by decide +kernel
/-- 'throw new IndexOutOfBoundsException("text")' -/
theorem j_throw1 (C : Cok X cc RX7 Ts rm N ret) {fin : jFin} {mc ms : Nat} (hQ : Rok X fin mc ms) (hex : ∀ x ∈ X.2.2.2.2.2.2.2.2.2.1.exceptionTable.toList, False) {is : Nat} {text : String} (hs : (is, text) ∈ jStr) (hg : ∀ w ∈ (vx_atS RX7 89 "java/lang/IndexOutOfBoundsException" ["java/lang/RuntimeException", "java/lang/Exception"]).filter goodWord, w ∈ Ts) (hk : Cond.classLink RX7 85 "java/lang/IndexOutOfBoundsException" ∈ Ts) (hi : Cond.initialized "java/lang/IndexOutOfBoundsException" ∈ Ts)
    (d0 : decode cc pc = .ok (.new 85, 3)) (d3 : decode cc (pc + 3) = .ok (.dup, 1)) (d4 : decode cc (pc + 4) = .ok (.ldc is, 2)) (d6 : decode cc (pc + 6) = .ok (.invokespecial 89, 3)) (d9 : decode cc (pc + 9) = .ok (.athrow, 1))
    (hrm : (Nat.ble 6 rm.frames && Nat.ble ((rest.map fun v => v.category).sum + 82) rm.locals && Nat.ble (cn + 1) rm.cells && Nat.ble (sn + 6) rm.slots && Nat.ble (cn + 1) mc && Nat.ble (sn + 6) ms) = true) (hf : fin (.inr "java/lang/IndexOutOfBoundsException") ws) : Jt X ws cn sn pc lv rest := by
  simp only [Bool.and_eq_true] at hrm
  obtain ⟨⟨⟨⟨⟨r1, r2⟩, r3⟩, r4⟩, r5⟩, r6⟩ := hrm
  obtain ⟨G, p, e, R, s, m, args, below, meth, c, Q, A⟩ := X
  obtain ⟨hx, hb, hml, hown, hts, hK, hG, hZ, hA, hlocks, hR, htr, hr⟩ := C
  have hQ : Q = vx_MQ below (jQc G A fin) (jXC G A fin) args s mc ms A := hQ
  subst hQ
  subst hR
  intro H locs ls hP hD hS hl
  refine vx_throwS (cls := "java/lang/IndexOutOfBoundsException") (names := ["java/lang/RuntimeException", "java/lang/Exception"]) hx hb htr hown (by decide) (by decide) (hts _ hk) (hts _ hi) (hG.2.2.1 _ hs) (vx_hat (B := jCast) (fun w hw => hts w (hg w hw)) j_bad1 (fun w hw => va_Nw.use (jCast_tab w hw) (hG.2.1 w hw))) j_ok1 hZ.1 hZ.2 hS hl.1 d0 d3 d4 d6 d9 (fun x hx => absurd (hex x hx) id) (Nat.le_of_ble_eq_true r1) (Nat.le_of_ble_eq_true r2) (Nat.le_of_ble_eq_true r3) (Nat.le_of_ble_eq_true r4) hlocks (fun t ha hz hq => ?_) hS.2.2 (Nat.le_of_ble_eq_true r5) (Nat.le_of_ble_eq_true r6)
  exact ⟨⟨ws, hf, hP.kept (fun k x hx => hq x.1 (vx_lt hP hx)), va_K.moved ha hK, hD⟩, ⟨Nat.le_trans hS.1 hz, fun q h1 h2 => (hq q (Nat.lt_of_lt_of_le h1 hS.1)).trans (hS.2.1 q h1 h2)⟩⟩
theorem j_ok2 : ∀ w ∈ Cond.classLink RX7 62 "java/lang/IllegalArgumentException" :: Cond.initialized "java/lang/IllegalArgumentException" :: vx_atS RX7 66 "java/lang/IllegalArgumentException" ["java/lang/RuntimeException", "java/lang/Exception"], vx_ot w = true := by decide +kernel
theorem j_bad2 : ∀ w ∈ (vx_atS RX7 66 "java/lang/IllegalArgumentException" ["java/lang/RuntimeException", "java/lang/Exception"]).filter (fun w => !goodWord w), w ∈ jCast := by decide +kernel
/-- 'throw new IllegalArgumentException("text")' -/
theorem j_throw2 (C : Cok X cc RX7 Ts rm N ret) {fin : jFin} {mc ms : Nat} (hQ : Rok X fin mc ms) (hex : ∀ x ∈ X.2.2.2.2.2.2.2.2.2.1.exceptionTable.toList, False) {is : Nat} {text : String} (hs : (is, text) ∈ jStr) (hg : ∀ w ∈ (vx_atS RX7 66 "java/lang/IllegalArgumentException" ["java/lang/RuntimeException", "java/lang/Exception"]).filter goodWord, w ∈ Ts) (hk : Cond.classLink RX7 62 "java/lang/IllegalArgumentException" ∈ Ts) (hi : Cond.initialized "java/lang/IllegalArgumentException" ∈ Ts)
    (d0 : decode cc pc = .ok (.new 62, 3)) (d3 : decode cc (pc + 3) = .ok (.dup, 1)) (d4 : decode cc (pc + 4) = .ok (.ldc is, 2)) (d6 : decode cc (pc + 6) = .ok (.invokespecial 66, 3)) (d9 : decode cc (pc + 9) = .ok (.athrow, 1))
    (hrm : (Nat.ble 6 rm.frames && Nat.ble ((rest.map fun v => v.category).sum + 82) rm.locals && Nat.ble (cn + 1) rm.cells && Nat.ble (sn + 6) rm.slots && Nat.ble (cn + 1) mc && Nat.ble (sn + 6) ms) = true) (hf : fin (.inr "java/lang/IllegalArgumentException") ws) : Jt X ws cn sn pc lv rest := by
  simp only [Bool.and_eq_true] at hrm
  obtain ⟨⟨⟨⟨⟨r1, r2⟩, r3⟩, r4⟩, r5⟩, r6⟩ := hrm
  obtain ⟨G, p, e, R, s, m, args, below, meth, c, Q, A⟩ := X
  obtain ⟨hx, hb, hml, hown, hts, hK, hG, hZ, hA, hlocks, hR, htr, hr⟩ := C
  have hQ : Q = vx_MQ below (jQc G A fin) (jXC G A fin) args s mc ms A := hQ
  subst hQ
  subst hR
  intro H locs ls hP hD hS hl
  refine vx_throwS (cls := "java/lang/IllegalArgumentException") (names := ["java/lang/RuntimeException", "java/lang/Exception"]) hx hb htr hown (by decide) (by decide) (hts _ hk) (hts _ hi) (hG.2.2.1 _ hs) (vx_hat (B := jCast) (fun w hw => hts w (hg w hw)) j_bad2 (fun w hw => va_Nw.use (jCast_tab w hw) (hG.2.1 w hw))) j_ok2 hZ.1 hZ.2 hS hl.1 d0 d3 d4 d6 d9 (fun x hx => absurd (hex x hx) id) (Nat.le_of_ble_eq_true r1) (Nat.le_of_ble_eq_true r2) (Nat.le_of_ble_eq_true r3) (Nat.le_of_ble_eq_true r4) hlocks (fun t ha hz hq => ?_) hS.2.2 (Nat.le_of_ble_eq_true r5) (Nat.le_of_ble_eq_true r6)
  exact ⟨⟨ws, hf, hP.kept (fun k x hx => hq x.1 (vx_lt hP hx)), va_K.moved ha hK, hD⟩, ⟨Nat.le_trans hS.1 hz, fun q h1 h2 => (hq q (Nat.lt_of_lt_of_le h1 hS.1)).trans (hS.2.1 q h1 h2)⟩⟩
theorem j_ok3 : ∀ w ∈ Cond.classLink RX7 115 "java/lang/IllegalStateException" :: Cond.initialized "java/lang/IllegalStateException" :: vx_atS RX7 119 "java/lang/IllegalStateException" ["java/lang/RuntimeException", "java/lang/Exception"], vx_ot w = true := by decide +kernel
theorem j_bad3 : ∀ w ∈ (vx_atS RX7 119 "java/lang/IllegalStateException" ["java/lang/RuntimeException", "java/lang/Exception"]).filter (fun w => !goodWord w), w ∈ jCast := by decide +kernel
/-- 'throw new IllegalStateException("text")' -/
theorem j_throw3 (C : Cok X cc RX7 Ts rm N ret) {fin : jFin} {mc ms : Nat} (hQ : Rok X fin mc ms) (hex : ∀ x ∈ X.2.2.2.2.2.2.2.2.2.1.exceptionTable.toList, False) {is : Nat} {text : String} (hs : (is, text) ∈ jStr) (hg : ∀ w ∈ (vx_atS RX7 119 "java/lang/IllegalStateException" ["java/lang/RuntimeException", "java/lang/Exception"]).filter goodWord, w ∈ Ts) (hk : Cond.classLink RX7 115 "java/lang/IllegalStateException" ∈ Ts) (hi : Cond.initialized "java/lang/IllegalStateException" ∈ Ts)
    (d0 : decode cc pc = .ok (.new 115, 3)) (d3 : decode cc (pc + 3) = .ok (.dup, 1)) (d4 : decode cc (pc + 4) = .ok (.ldc is, 2)) (d6 : decode cc (pc + 6) = .ok (.invokespecial 119, 3)) (d9 : decode cc (pc + 9) = .ok (.athrow, 1))
    (hrm : (Nat.ble 6 rm.frames && Nat.ble ((rest.map fun v => v.category).sum + 82) rm.locals && Nat.ble (cn + 1) rm.cells && Nat.ble (sn + 6) rm.slots && Nat.ble (cn + 1) mc && Nat.ble (sn + 6) ms) = true) (hf : fin (.inr "java/lang/IllegalStateException") ws) : Jt X ws cn sn pc lv rest := by
  simp only [Bool.and_eq_true] at hrm
  obtain ⟨⟨⟨⟨⟨r1, r2⟩, r3⟩, r4⟩, r5⟩, r6⟩ := hrm
  obtain ⟨G, p, e, R, s, m, args, below, meth, c, Q, A⟩ := X
  obtain ⟨hx, hb, hml, hown, hts, hK, hG, hZ, hA, hlocks, hR, htr, hr⟩ := C
  have hQ : Q = vx_MQ below (jQc G A fin) (jXC G A fin) args s mc ms A := hQ
  subst hQ
  subst hR
  intro H locs ls hP hD hS hl
  refine vx_throwS (cls := "java/lang/IllegalStateException") (names := ["java/lang/RuntimeException", "java/lang/Exception"]) hx hb htr hown (by decide) (by decide) (hts _ hk) (hts _ hi) (hG.2.2.1 _ hs) (vx_hat (B := jCast) (fun w hw => hts w (hg w hw)) j_bad3 (fun w hw => va_Nw.use (jCast_tab w hw) (hG.2.1 w hw))) j_ok3 hZ.1 hZ.2 hS hl.1 d0 d3 d4 d6 d9 (fun x hx => absurd (hex x hx) id) (Nat.le_of_ble_eq_true r1) (Nat.le_of_ble_eq_true r2) (Nat.le_of_ble_eq_true r3) (Nat.le_of_ble_eq_true r4) hlocks (fun t ha hz hq => ?_) hS.2.2 (Nat.le_of_ble_eq_true r5) (Nat.le_of_ble_eq_true r6)
  exact ⟨⟨ws, hf, hP.kept (fun k x hx => hq x.1 (vx_lt hP hx)), va_K.moved ha hK, hD⟩, ⟨Nat.le_trans hS.1 hz, fun q h1 h2 => (hq q (Nat.lt_of_lt_of_le h1 hS.1)).trans (hS.2.1 q h1 h2)⟩⟩
def jmax (x y : Int32) : Int32 := if x < y then y else x
def jabs (x : Int32) : Int32 := if 0 ≤ x then x else 0 - x
theorem j_max (C : Cok X cc own Ts rm N ret) {index : Nat} {x y : Int32} (hd : decode cc pc = .ok (.invokestatic index, 3)) (h1 : Cond.methodLink own index Lib.Math.max.name ∈ Ts) (h2 : Cond.static Lib.Math.max.name ∈ Ts) (h3 : Cond.initialized "java/lang/Math" ∈ Ts) (h4 : Cond.code Lib.Math.max.name Lib.Math.max.code 2 (some .int) ∈ Ts) (hrm : (Nat.ble 1 rm.frames && Nat.ble ((rest.map fun v => v.category).sum + 13) rm.locals && Nat.ble cn rm.cells && Nat.ble sn rm.slots) = true) (k : Jt X ws cn sn (pc + 3) lv (.int (jmax x y) :: rest)) : Jt X ws cn sn pc lv (.int y :: .int x :: rest) := by
  simp only [Bool.and_eq_true] at hrm
  obtain ⟨⟨⟨r1, r2⟩, r3⟩, r4⟩ := hrm
  obtain ⟨G, p, e, R, s, m, args, below, meth, c, Q, A⟩ := X
  obtain ⟨hx, hb, hml, hown, hts, hK, hG, hZ, hA, hlocks, hR, htr, hr⟩ := C
  intro H locs ls hP hD hS hl
  subst hR
  exact va_mmax hx hb hl.1.symm hown (hts _ h1) (hts _ h2) (hts _ h3) (hts _ h4) (Nat.le_of_ble_eq_true r1) (Nat.le_of_ble_eq_true r2) (Nat.le_of_ble_eq_true r3) (Nat.le_of_ble_eq_true r4) hd (k H locs ls hP hD hS hl)
theorem j_abs (C : Cok X cc own Ts rm N ret) {index : Nat} {x : Int32} (hd : decode cc pc = .ok (.invokestatic index, 3)) (h1 : Cond.methodLink own index Lib.Math.abs.name ∈ Ts) (h2 : Cond.static Lib.Math.abs.name ∈ Ts) (h3 : Cond.initialized "java/lang/Math" ∈ Ts) (h4 : Cond.code Lib.Math.abs.name Lib.Math.abs.code 1 (some .int) ∈ Ts) (hrm : (Nat.ble 1 rm.frames && Nat.ble ((rest.map fun v => v.category).sum + 13) rm.locals && Nat.ble cn rm.cells && Nat.ble sn rm.slots) = true) (k : Jt X ws cn sn (pc + 3) lv (.int (jabs x) :: rest)) : Jt X ws cn sn pc lv (.int x :: rest) := by
  simp only [Bool.and_eq_true] at hrm
  obtain ⟨⟨⟨r1, r2⟩, r3⟩, r4⟩ := hrm
  obtain ⟨G, p, e, R, s, m, args, below, meth, c, Q, A⟩ := X
  obtain ⟨hx, hb, hml, hown, hts, hK, hG, hZ, hA, hlocks, hR, htr, hr⟩ := C
  intro H locs ls hP hD hS hl
  subst hR
  exact va_mabs hx hb hl.1.symm hown (hts _ h1) (hts _ h2) (hts _ h3) (hts _ h4) (Nat.le_of_ble_eq_true r1) (Nat.le_of_ble_eq_true r2) (Nat.le_of_ble_eq_true r3) (Nat.le_of_ble_eq_true r4) hd (k H locs ls hP hD hS hl)
end JM
/-! the functions' guards and loop -/
abbrev SV : Type := Int32 × Int32 × Int32 × (Nat → Int32) × (Nat → Int32)
def dz_in {α : Type} (i : Int32) (n : Nat) (k : Option α) : Option α := if i < 0 ∨ n ≤ i.toNatClampNeg then none else k
theorem dz_in_some {α : Type} {i : Int32} {n : Nat} {k : Option α} {y : α} (h : dz_in i n k = some y) : vp_in i n ∧ k = some y := by
  unfold dz_in at h
  by_cases q : i < 0 ∨ n ≤ i.toNatClampNeg
  · rw [if_pos q] at h; cases h
  · rw [if_neg q] at h; exact ⟨q, h⟩
def dz_nz {α : Type} (d : Int32) (k : Option α) : Option α := if d = 0 then none else k
theorem dz_nz_some {α : Type} {d : Int32} {k : Option α} {y : α} (h : dz_nz d k = some y) : ¬ d = 0 ∧ k = some y := by
  unfold dz_nz at h
  by_cases q : d = 0
  · rw [if_pos q] at h; cases h
  · rw [if_neg q] at h; exact ⟨q, h⟩
def dz_nn {α : Type} (r : UInt64) (k : Option α) : Option α := if r &&& 0x7fffffffffffffff ≤ 0x7ff0000000000000 then k else none
theorem dz_nn_some {α : Type} {r : UInt64} {k : Option α} {y : α} (h : dz_nn r k = some y) : vf_n64 r ∧ k = some y := by
  unfold dz_nn at h
  by_cases q : r &&& 0x7fffffffffffffff ≤ 0x7ff0000000000000
  · rw [if_pos q] at h; exact ⟨q, h⟩
  · rw [if_neg q] at h; cases h
def dz_z {α : Type} (v : Int32) (k : Option α) : Option α := if v = 0 ∨ v = 1 then k else none
theorem dz_z_some {α : Type} {v : Int32} {k : Option α} {y : α} (h : dz_z v k = some y) : narrow .boolean (.int v) = .int v ∧ k = some y := by
  unfold dz_z at h
  by_cases q : v = 0 ∨ v = 1
  · rw [if_pos q] at h
    refine ⟨?_, h⟩
    rcases q with rfl | rfl <;> rfl
  · rw [if_neg q] at h; cases h
def dz_ok {α β : Type} (r : Nat ⊕ β) (k : β → Option α) : Option α := match r with
  | .inl _ => none
  | .inr u => k u
theorem dz_ok_some {α β : Type} {r : Nat ⊕ β} {k : β → Option α} {y : α} (h : dz_ok r k = some y) : ∃ u, r = .inr u ∧ k u = some y := by
  cases r with
  | inl _ => cases h
  | inr u => exact ⟨u, rfl, h⟩
def dz_up {α β : Type} (k : Option β) : Option (α ⊕ β) := k.map Sum.inr
theorem dz_up_some {α β : Type} {k : Option β} {y : α ⊕ β} (h : dz_up k = some y) : ∃ u, k = some u ∧ y = .inr u := by
  unfold dz_up at h
  cases k with
  | none => cases h
  | some u => exact ⟨u, rfl, (Option.some.inj h).symm⟩
def dz_iter {σ ε : Type} : Nat → (σ → Option (σ ⊕ ε)) → σ → Option ε
  | 0, _, _ => none
  | n + 1, b, s => match b s with
    | none => none
    | some (.inl s') => dz_iter n b s'
    | some (.inr y) => some y
theorem dz_fuelE : ∃ n : Nat, n = 10000000 := ⟨_, rfl⟩
/-- so many turns, a number that no reduction opens -/
noncomputable def dz_fuel : Nat := Classical.choose dz_fuelE
theorem dz_fuel_eq : dz_fuel = 10000000 := Classical.choose_spec dz_fuelE
noncomputable def dz_it {σ ε : Type} (b : σ → Option (σ ⊕ ε)) (s : σ) : Option ε := dz_iter dz_fuel b s
def dz_go {σ ε : Type} (n : Nat) (b : σ → Option (σ ⊕ ε)) : σ ⊕ ε → ε → Prop
  | .inl s', y => dz_iter n b s' = some y
  | .inr u, y => u = y
theorem dz_go_inl {σ ε : Type} {n : Nat} {b : σ → Option (σ ⊕ ε)} {s : σ} {y : ε} (h : dz_go n b (.inl s) y) : dz_iter n b s = some y := h
theorem dz_go_inr {σ ε : Type} {n : Nat} {b : σ → Option (σ ⊕ ε)} {u y : ε} (h : dz_go n b (.inr u) y) : u = y := h
theorem dz_iter_succ {σ ε : Type} {n : Nat} {b : σ → Option (σ ⊕ ε)} {s : σ} {y : ε} (h : dz_iter (n + 1) b s = some y) : ∃ x, b s = some x ∧ dz_go n b x y := by
  unfold dz_iter at h
  cases hb : b s with
  | none => rw [hb] at h; cases h
  | some x =>
    rw [hb] at h
    refine ⟨x, rfl, ?_⟩
    cases x with
    | inl s' => exact h
    | inr u => exact Option.some.inj h
theorem nw_X7_9 : Cond.methodLinkNest RX7 9 yX5_init "CubeSlices" ∈ jNest := by decide +kernel
theorem nw_X2_24 : Cond.methodLinkNest RX2 24 yX5_init "CubeSlices" ∈ jNest := by decide +kernel
theorem nw_X7_25 : Cond.methodLinkNest RX7 25 yX6_init "CubeSlices" ∈ jNest := by decide +kernel
theorem nw_X7_32 : Cond.methodLinkNest RX7 32 yX4_init "CubeSlices" ∈ jNest := by decide +kernel
theorem nw_X7_39 : Cond.methodLinkNest RX7 39 yX0_init "CubeSlices" ∈ jNest := by decide +kernel
theorem nw_X7_46 : Cond.methodLinkNest RX7 46 yX3_init "CubeSlices" ∈ jNest := by decide +kernel
theorem nw_X7_53 : Cond.methodLinkNest RX7 53 yX1_init "CubeSlices" ∈ jNest := by decide +kernel
theorem nw_X5_28 : Cond.methodLinkNest RX5 28 yX7_copyRow "CubeSlices" ∈ jNest := by decide +kernel
theorem nw_X5_32 : Cond.methodLinkNest RX5 32 yX7_setCell "CubeSlices" ∈ jNest := by decide +kernel
theorem nw_X4_35 : Cond.methodLinkNest RX4 35 yX7_formerOf "CubeSlices" ∈ jNest := by decide +kernel
theorem nw_X5_47 : Cond.methodLinkNest RX5 47 yX7_latterOf "CubeSlices" ∈ jNest := by decide +kernel
theorem nw_X5_50 : Cond.methodLinkNest RX5 50 yX7_cell "CubeSlices" ∈ jNest := by decide +kernel
theorem nw_X4_55 : Cond.methodLinkNest RX4 55 yX7_setCell "CubeSlices" ∈ jNest := by decide +kernel
theorem nw_X4_59 : Cond.methodLinkNest RX4 59 yX7_cell "CubeSlices" ∈ jNest := by decide +kernel
theorem nw_X0_37 : Cond.methodLinkNest RX0 37 yX7_cell "CubeSlices" ∈ jNest := by decide +kernel
theorem nw_X6_23 : Cond.methodLinkNest RX6 23 yX7_cell "CubeSlices" ∈ jNest := by decide +kernel
theorem nw_X5_44 : Cond.methodLinkNest RX5 44 yX7_formerOf "CubeSlices" ∈ jNest := by decide +kernel
theorem nw_X5_65 : Cond.methodLinkNest RX5 65 yX7_isNumber "CubeSlices" ∈ jNest := by decide +kernel
theorem nw_X6_19 : Cond.methodLinkNest RX6 19 yX7_setCell "CubeSlices" ∈ jNest := by decide +kernel
theorem nw_X4_28 : Cond.fieldLinkNest RX4 28 (TX5 0).1 (TX5 0).2.1 (TX5 0).2.2.1 "CubeSlices" ∈ jNest := by decide +kernel
theorem nw_X1_25 : Cond.fieldLinkNest RX1 25 (TX5 0).1 (TX5 0).2.1 (TX5 0).2.2.1 "CubeSlices" ∈ jNest := by decide +kernel
theorem nw_X7_137 : Cond.fieldLinkNest RX7 137 (TX5 0).1 (TX5 0).2.1 (TX5 0).2.2.1 "CubeSlices" ∈ jNest := by decide +kernel
theorem nw_X7_155 : Cond.fieldLinkNest RX7 155 (TX5 1).1 (TX5 1).2.1 (TX5 1).2.2.1 "CubeSlices" ∈ jNest := by decide +kernel
theorem nw_X7_171 : Cond.fieldLinkNest RX7 171 (TX5 2).1 (TX5 2).2.1 (TX5 2).2.2.1 "CubeSlices" ∈ jNest := by decide +kernel
theorem nw_X7_144 : Cond.fieldLinkNest RX7 144 (TX5 3).1 (TX5 3).2.1 (TX5 3).2.2.1 "CubeSlices" ∈ jNest := by decide +kernel
theorem nw_X0_33 : Cond.fieldLinkNest RX0 33 (TX5 4).1 (TX5 4).2.1 (TX5 4).2.2.1 "CubeSlices" ∈ jNest := by decide +kernel
theorem nw_X7_164 : Cond.fieldLinkNest RX7 164 (TX5 4).1 (TX5 4).2.1 (TX5 4).2.2.1 "CubeSlices" ∈ jNest := by decide +kernel
theorem nw_X7_200 : Cond.fieldLinkNest RX7 200 (TX2 2).1 (TX2 2).2.1 (TX2 2).2.2.1 "CubeSlices" ∈ jNest := by decide +kernel
theorem nw_X7_176 : Cond.fieldLinkNest RX7 176 (TX6 1).1 (TX6 1).2.1 (TX6 1).2.2.1 "CubeSlices" ∈ jNest := by decide +kernel
theorem nw_X7_167 : Cond.fieldLinkNest RX7 167 (TX0 0).1 (TX0 0).2.1 (TX0 0).2.2.1 "CubeSlices" ∈ jNest := by decide +kernel
