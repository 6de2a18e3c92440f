section JL
/-- what is the same for the whole claim: launch, classes, the three classes of arrays (int, long, State), where the written texts lie -/
abbrev CG : Type := Launch × va_G × (ClassId × ClassId × ClassId) × (Nat → Nat)
abbrev gL (G : CG) : Launch := G.1
abbrev gD (G : CG) : va_G := G.2.1
abbrev gI (G : CG) : ClassId := G.2.2.1.1
abbrev gJ (G : CG) : ClassId := G.2.2.1.2.1
abbrev gO (G : CG) : ClassId := G.2.2.1.2.2
abbrev gS (G : CG) : Nat → Nat := G.2.2.2
abbrev gT (G : CG) : List (ClassId × FieldType) := [(gI G, .int), (gJ G, .long), (gO G, .object RX5)]
/-- one method's frame: program, env, room, start, method id, arguments, below, method, code, what is owed at the end, what may change -/
abbrev CX : Type := CG × Program × Env × Room × State × MethodId × Array Value × List Frame × Method × Code × (State → Prop) × (Nat → Prop)
/-- link words of nest mates -/
def jNest : List Cond := [.methodLinkNest "CubeSlices" 9 ⟨"CubeSlices$State", "<init>", "()V"⟩ "CubeSlices", .methodLinkNest "CubeSlices$History" 24 ⟨"CubeSlices$State", "<init>", "()V"⟩ "CubeSlices", .methodLinkNest "CubeSlices" 25 ⟨"CubeSlices$Text", "<init>", "()V"⟩ "CubeSlices", .methodLinkNest "CubeSlices" 32 ⟨"CubeSlices$Slices", "<init>", "()V"⟩ "CubeSlices", .methodLinkNest "CubeSlices" 39 ⟨"CubeSlices$Differences", "<init>", "()V"⟩ "CubeSlices", .methodLinkNest "CubeSlices" 46 ⟨"CubeSlices$LeastRoom", "<init>", "()V"⟩ "CubeSlices", .methodLinkNest "CubeSlices" 53 ⟨"CubeSlices$HeaviestLine", "<init>", "()V"⟩ "CubeSlices", .methodLinkNest "CubeSlices$State" 28 ⟨"CubeSlices", "copyRow", "([I[I)V"⟩ "CubeSlices", .methodLinkNest "CubeSlices$State" 32 ⟨"CubeSlices", "setCell", "([III)V"⟩ "CubeSlices", .methodLinkNest "CubeSlices$Slices" 35 ⟨"CubeSlices", "formerOf", "(I)I"⟩ "CubeSlices", .methodLinkNest "CubeSlices$State" 47 ⟨"CubeSlices", "latterOf", "(I)I"⟩ "CubeSlices", .methodLinkNest "CubeSlices$State" 50 ⟨"CubeSlices", "cell", "([II)I"⟩ "CubeSlices", .methodLinkNest "CubeSlices$Slices" 55 ⟨"CubeSlices", "setCell", "([III)V"⟩ "CubeSlices", .methodLinkNest "CubeSlices$Slices" 59 ⟨"CubeSlices", "cell", "([II)I"⟩ "CubeSlices", .methodLinkNest "CubeSlices$Differences" 37 ⟨"CubeSlices", "cell", "([II)I"⟩ "CubeSlices", .methodLinkNest "CubeSlices$Text" 23 ⟨"CubeSlices", "cell", "([II)I"⟩ "CubeSlices", .methodLinkNest "CubeSlices$State" 44 ⟨"CubeSlices", "formerOf", "(I)I"⟩ "CubeSlices", .methodLinkNest "CubeSlices$State" 65 ⟨"CubeSlices", "isNumber", "(I)Z"⟩ "CubeSlices", .methodLinkNest "CubeSlices$Text" 19 ⟨"CubeSlices", "setCell", "([III)V"⟩ "CubeSlices", .fieldLinkNest "CubeSlices$Slices" 28 "CubeSlices$State" "side" "I" "CubeSlices", .fieldLinkNest "CubeSlices$HeaviestLine" 25 "CubeSlices$State" "side" "I" "CubeSlices", .fieldLinkNest "CubeSlices" 137 "CubeSlices$State" "side" "I" "CubeSlices", .fieldLinkNest "CubeSlices" 155 "CubeSlices$State" "axis" "I" "CubeSlices", .fieldLinkNest "CubeSlices" 171 "CubeSlices$State" "mostListed" "I" "CubeSlices", .fieldLinkNest "CubeSlices" 144 "CubeSlices$State" "numbers" "[I" "CubeSlices", .fieldLinkNest "CubeSlices$Differences" 33 "CubeSlices$State" "marked" "[I" "CubeSlices", .fieldLinkNest "CubeSlices" 164 "CubeSlices$State" "marked" "[I" "CubeSlices", .fieldLinkNest "CubeSlices" 200 "CubeSlices$History" "size" "I" "CubeSlices", .fieldLinkNest "CubeSlices" 176 "CubeSlices$Text" "length" "I" "CubeSlices", .fieldLinkNest "CubeSlices" 167 "CubeSlices$Differences" "points" "I" "CubeSlices"]
/-- words of throws and catches that no list of words bears -/
def jCast : List Cond := [.castable "java/lang/IndexOutOfBoundsException" "java/lang/IndexOutOfBoundsException", .castable "java/lang/IllegalArgumentException" "java/lang/IllegalArgumentException", .castable "java/lang/IllegalStateException" "java/lang/IllegalStateException", .declares ⟨"java/lang/RuntimeException", "<init>", "(Ljava/lang/String;)V"⟩, .declares ⟨"java/lang/Exception", "<init>", "(Ljava/lang/String;)V"⟩, .declares ⟨"java/lang/Throwable", "<init>", "(Ljava/lang/String;)V"⟩]
/-- the written texts -/
def jStr : List (Nat × String) := [(64, "the side is out of range"), (87, "no such point"), (94, "the number is out of range"), (108, "no such point or box"), (110, "the size or the number is out of range"), (117, "a number would be out of range"), (126, "no such coordinate"), (131, "the axis is out of range"), (169, "the setting is out of range"), (174, "the code is not 33 to 126"), (179, "the buffer is full"), (191, "the buffer does not tell points"), (203, "no state is saved"), (215, "the axis or what is asked is out of range"), (224, "the rank or what is asked is out of range"), (232, "what is asked is out of range"), (248, "the number or what is asked is out of range")]
/-- which exception is none of which class -/
def jNcs : List (String × String) := [("java/lang/IllegalArgumentException", "java/lang/IndexOutOfBoundsException"), ("java/lang/IllegalStateException", "java/lang/IndexOutOfBoundsException"), ("java/lang/IllegalStateException", "java/lang/IllegalArgumentException")]
def jGF (G : CG) (U : State) : Prop := (∀ w ∈ jNest, va_Nw w U) ∧ (∀ w ∈ jCast, va_Nw w U) ∧ (∀ q ∈ jStr, vk_R RX7 q.1 q.2 (gS G q.1) U) ∧ ∀ q ∈ jNcs, va_Nc q.1 q.2 U
def jZ (A : Nat → Prop) (U : State) (H : Heap) : Prop := vx_Zq Bundle.tN "UNASSIGNED_STACK" Bundle.steD A U H ∧ vx_Zq Bundle.tN "SUPPRESSED_SENTINEL" Bundle.listD A U H
theorem jNest_tab : ∀ w ∈ jNest, w.onTables = true := by decide +kernel
theorem jCast_tab : ∀ w ∈ jCast, w.onTables = true := by decide +kernel
theorem jNest_warm {s U : State} (hW : s.WarmedH U.vm) : ∀ w ∈ jNest, va_Nw w s → va_Nw w U := by
  simp only [jNest, List.forall_mem_cons]
  exact ⟨va_Nw.warmM hW, ⟨va_Nw.warmM hW, ⟨va_Nw.warmM hW, ⟨va_Nw.warmM hW, ⟨va_Nw.warmM hW, ⟨va_Nw.warmM hW, ⟨va_Nw.warmM hW, ⟨va_Nw.warmM hW, ⟨va_Nw.warmM hW, ⟨va_Nw.warmM hW, ⟨va_Nw.warmM hW, ⟨va_Nw.warmM hW, ⟨va_Nw.warmM hW, ⟨va_Nw.warmM hW, ⟨va_Nw.warmM hW, ⟨va_Nw.warmM hW, ⟨va_Nw.warmM hW, ⟨va_Nw.warmM hW, ⟨va_Nw.warmM hW, ⟨va_Nw.warmF hW, ⟨va_Nw.warmF hW, ⟨va_Nw.warmF hW, ⟨va_Nw.warmF hW, ⟨va_Nw.warmF hW, ⟨va_Nw.warmF hW, ⟨va_Nw.warmF hW, ⟨va_Nw.warmF hW, ⟨va_Nw.warmF hW, ⟨va_Nw.warmF hW, ⟨va_Nw.warmF hW, (fun _ h => nomatch h)⟩⟩⟩⟩⟩⟩⟩⟩⟩⟩⟩⟩⟩⟩⟩⟩⟩⟩⟩⟩⟩⟩⟩⟩⟩⟩⟩⟩⟩⟩
theorem jCast_warm {s U : State} (hW : s.WarmedH U.vm) : ∀ w ∈ jCast, va_Nw w s → va_Nw w U := by
  simp only [jCast, List.forall_mem_cons]
  exact ⟨va_Nw.warmC hW, ⟨va_Nw.warmC hW, ⟨va_Nw.warmC hW, ⟨va_Nw.warmD hW, ⟨va_Nw.warmD hW, ⟨va_Nw.warmD hW, (fun _ h => nomatch h)⟩⟩⟩⟩⟩⟩
theorem jGF.warm {G : CG} {s U : State} (hW : s.WarmedH U.vm) (h : jGF G s) : jGF G U := ⟨fun w hw => jNest_warm hW w hw (h.1 w hw), fun w hw => jCast_warm hW w hw (h.2.1 w hw), fun q hq => vk_R.warm hW (h.2.2.1 q hq), fun q hq => va_Nc.moved hW.alike (h.2.2.2 q hq)⟩
theorem jGF.same {G : CG} {u U : State} (hv : u.vm = U.vm) (h : jGF G u) : jGF G U := ⟨fun w hw => va_Nw.same (jNest_tab w hw) hv (h.1 w hw), fun w hw => va_Nw.same (jCast_tab w hw) hv (h.2.1 w hw), fun q hq => vk_R.same hv.symm (h.2.2.1 q hq), fun q hq => by
  obtain ⟨c, t, h1, h2, h3⟩ := h.2.2.2 q hq
  rw [hv] at h1 h2 h3
  exact ⟨c, t, h1, h2, h3⟩⟩
/-- a frame's standing facts -/
def Cok (X : CX) (cc : ByteArray) (own : String) (Ts : List Cond) (rm : Room) (N : Nat) (ret : Option FieldType) : Prop := match X with
  | (G, p, e, R, s, m, args, below, meth, c, Q, A) => p.tables.exec = Jvm.exec ∧ c.code = cc ∧ c.maxLocals = N ∧ s.vm.findClass own = some m.cls ∧ (∀ w ∈ Ts, w.before args s = true) ∧ va_K (gD G) vwCl (gT G) s ∧ jGF G s ∧ jZ A s s.heap ∧ (∀ q, s.heap.size ≤ q → A q) ∧ meth.locks = false ∧ R = rm ∧ (gL G).stackTraces = false ∧ meth.sig.returnType = ret
/-- from the world ws, at pc, with these locals and this stack, the method comes to its end as owed -/
def Jt (X : CX) (ws : va_W) (cn sn : Nat) (pc : Nat) (lv : List (Nat × Value)) (st : List Value) : Prop := match X with
  | (G, p, e, R, s, m, args, below, meth, c, Q, A) => ∀ (H : Heap) (locs : List Loc) (ls : Array Slot), va_P (gD G) vwCl ws H → va_D A ws → va_S A s.heap H locs → lv_has ls c.maxLocals lv → W p (gL G) e R s m args below meth c H locs cn sn Q (F0 m pc ls st)
abbrev jFin : Type := (Option Value ⊕ String) → va_W → Prop
def jQc (G : CG) (A : Nat → Prop) (fin : jFin) : Array Value → State → Outcome → State → Prop := fun _ st oc t => (∃ (v : Option Value) (w : va_W), oc = .returned v ∧ fin (.inl v) w ∧ va_P (gD G) vwCl w t.heap ∧ va_K (gD G) vwCl (gT G) t ∧ va_D A w) ∧ va_F A st t
def jXC (G : CG) (A : Nat → Prop) (fin : jFin) : String → State → State → Prop := fun E st t => (∃ (w : va_W), fin (.inr E) w ∧ va_P (gD G) vwCl w t.heap ∧ va_K (gD G) vwCl (gT G) t ∧ va_D A w) ∧ va_F A st t
/-- the frame owes: it ends with an answer and a world that fin allows -/
def Rok (X : CX) (fin : jFin) (mc ms : Nat) : Prop := match X with
  | (G, p, e, R, s, m, args, below, meth, c, Q, A) => Q = vx_MQ below (jQc G A fin) (jXC G A fin) args s mc ms A
def jPc (G : CG) (av : List Value) (w0 : va_W) (sz : Nat) : Array Value → State → Prop := fun v U => v = av.toArray ∧ U.heap.size = sz ∧ va_P (gD G) vwCl w0 U.heap ∧ va_K (gD G) vwCl (gT G) U ∧ va_D (fun _ => True) w0 ∧ jGF G U ∧ jZ (va_A w0 sz) U U.heap
/-- a contract: from the world w0, with the arguments av, y ends as fin says -/
def Ct (G : CG) (y : MethodName) (ws : List Cond) (rm : Room) (av : List Value) (w0 : va_W) (fin : jFin) (mc ms : Nat) : Prop := ∀ sz, vx_Met (gL G) y ws rm (jPc G av w0 sz) (jQc G (va_A w0 sz) fin) (jXC G (va_A w0 sz) fin) mc ms (va_A w0 sz)
abbrev finI (r : Int32) (w1 : va_W) : jFin := fun o w => o = .inl (some (.int r)) ∧ w = w1
abbrev finL (r : Int64) (w1 : va_W) : jFin := fun o w => o = .inl (some (.long r)) ∧ w = w1
abbrev finD (r : UInt64) (w1 : va_W) : jFin := fun o w => o = .inl (some (.double r)) ∧ w = w1
abbrev finA (r : Nat) (w1 : va_W) : jFin := fun o w => o = .inl (some (.ref r)) ∧ w = w1
abbrev finV (w1 : va_W) : jFin := fun o w => o = .inl none ∧ w = w1
abbrev finT (E : String) (w1 : va_W) : jFin := fun o w => o = .inr E ∧ w = w1
theorem jPc.blind {G : CG} {av : List Value} {w0 : va_W} {sz : Nat} : FrameBlind (jPc G av w0 sz) := fun a U g mk q => by
  obtain ⟨q0, q1, qP, qK, qD, qG, qZ⟩ := q
  exact ⟨q0, q1, qP, va_K.moved (u := U) (U := U.calling g mk a) (Vm.Alike.refl U.vm) qK, qD, jGF.same (u := U) (U := U.calling g mk a) rfl qG, vx_Zq.moved (u := U) (U := U.calling g mk a) (Vm.Alike.refl U.vm) qZ.1, vx_Zq.moved (u := U) (U := U.calling g mk a) (Vm.Alike.refl U.vm) qZ.2⟩
theorem Ct.met {G : CG} {y : MethodName} {ws : List Cond} {rm : Room} {av : List Value} {w0 : va_W} {fin : jFin} {mc ms : Nat} (h : Ct G y ws rm av w0 fin mc ms) (hne : ∀ E w, ¬ fin (.inr E) w) (sz : Nat) : Met (gL G) y ws rm (jPc G av w0 sz) (jQc G (va_A w0 sz) fin) mc ms (va_A w0 sz) := by
  refine MetFree.mono (h sz) (fun _ _ q => q) (fun _ _ _ _ _ q => q) (fun a s o t _ q => ?_)
  rcases q with ⟨q1, q2⟩ | ⟨z, -, E, ce, L, hx, -⟩
  · exact ⟨q1, q2⟩
  · obtain ⟨⟨w, hw, -⟩, -⟩ := hx
    exact absurd hw (hne E w)
/-- the body's proof gives the contract -/
theorem Ct.of {G : CG} {y : MethodName} {cc : ByteArray} {N : Nat} {ret : Option FieldType} {Ts Ts' : List Cond} {rm : Room} {av : List Value} {w0 : va_W} {fin : jFin} {mc ms : Nat} (own : String) (hy : plainName y.cls = true) (how : y.cls = own) (hw : Ts = Cond.code y cc N ret :: Ts') (hl : (gL G).stackTraces = false) (hen : (lg_sl av).length ≤ N) {lv : List (Nat × Value)} (hlv : lv_args 0 av = lv)
    (k : ∀ X : CX, X.1 = G → Cok X cc own Ts rm N ret → (∀ x ∈ X.2.2.2.2.2.2.2.2.2.1.exceptionTable.toList, False) → X.2.2.2.2.2.2.2.2.1.name = y.name → Rok X fin mc ms → Jt X w0 0 0 0 lv []) : Ct G y Ts rm av w0 fin mc ms := by
  intro sz
  refine vx_ofW (cc := cc) (maxL := N) (ret := ret) hy hw ?_
  intro p e s m args below meth c s₁ B hml hex hv
  obtain ⟨rfl, hsz, hP, hK, hD0, hG, hZ⟩ := hv
  have hx := B.exec
  have hb := B.bytes
  have hr := B.returns
  have hts := atoms_spec (ws := Ts) B.pre
  have hown : s.vm.findClass own = some m.cls := by rw [← how]; exact findClass_of_methodNamed B.named
  have hlocks := B.notSynchronized
  have hin : meth.name = y.name := (name_of_methodNamed B.named B.method).1
  subst hsz
  have hD := hD0.self (sz := s.heap.size)
  have hA : ∀ q : Nat, s.heap.size ≤ q → va_A w0 s.heap.size q := fun q h => Or.inr h
  have hl2 := lv_entry av hen
  rw [lg_entry_eq]
  rw [hlv] at hl2
  have hl3 : lv_has ((lg_sl av ++ List.replicate (N - (lg_sl av).length) Slot.unset).toArray) c.maxLocals lv := by rw [hml]; exact hl2
  exact k (G, p, e, rm, s, m, av.toArray, below, meth, c, vx_MQ below (jQc G (va_A w0 s.heap.size) fin) (jXC G (va_A w0 s.heap.size) fin) av.toArray s mc ms (va_A w0 s.heap.size), va_A w0 s.heap.size) rfl
    ⟨hx, hb, hml, hown, hts, hK, hG, hZ, hA, hlocks, rfl, hl, hr⟩ hex hin rfl s.heap [] _ hP hD va_S.rf hl3
variable {X : CX} {cc : ByteArray} {own : String} {Ts : List Cond} {rm : Room} {N : Nat} {ret : Option FieldType} {ws ws' : va_W} {cn sn pc : Nat} {lv lv' : List (Nat × Value)} {st rest : List Value}
/-- another picture of the same world and locals -/
theorem j_sub (isF : List Nat) (ks : List Nat) (hF : isF.map (fun i => ws[i]?) = ws'.map some) (hn : va_nd isF = true) (hl : lv_pick lv ks = lv') (k : Jt X ws' cn sn pc lv' st) : Jt X ws cn sn pc lv st := by
  obtain ⟨G, p, e, R, s, m, args, below, meth, c, Q, A⟩ := X
  intro H locs ls hP hD hS hl0
  refine k H locs ls (hP.sub isF ?_) (hD.sub isF hn hF) hS (lv_sub hl0 ks hl)
  have h1 : ∀ (l : List Nat) (v : va_W), l.map (fun i => ws[i]?) = v.map some → l.filterMap (fun i => ws[i]?) = v := by
    intro l
    induction l with
    | nil => intro v hv; cases v with
      | nil => rfl
      | cons a v => cases hv
    | cons i l ih => intro v hv; cases v with
      | nil => cases hv
      | cons a v =>
        simp only [List.map_cons, List.cons.injEq] at hv
        rw [List.filterMap_cons, hv.1]
        exact congrArg _ (ih v hv.2)
  exact h1 isF ws' hF
theorem j_loc (ks : List Nat) (hl : lv_pick lv ks = lv') (k : Jt X ws cn sn pc lv' st) : Jt X ws cn sn pc lv st := by
  obtain ⟨G, p, e, R, s, m, args, below, meth, c, Q, A⟩ := X
  intro H locs ls hP hD hS hl0
  exact k H locs ls hP hD hS (lv_sub hl0 ks hl)
theorem j_widen {k n : Nat} (h1 : cn ≤ k) (h2 : sn ≤ n) (kk : Jt X ws k n pc lv st) : Jt X ws cn sn pc lv st := by
  obtain ⟨G, p, e, R, s, m, args, below, meth, c, Q, A⟩ := X
  intro H locs ls hP hD hS hl0
  exact W.widen h1 h2 (kk H locs ls hP hD hS hl0)
theorem j_iconst (C : Cok X cc own Ts rm N ret) {n : Int} {v : Int32} (hd : decode cc pc = .ok (.iconst n, 1)) (hv : Int32.ofInt n = v) (k : Jt X ws cn sn (pc + 1) lv (.int v :: st)) : Jt X ws cn sn pc lv (st) := by
  obtain ⟨G, p, e, R, s, m, args, below, meth, c, Q, A⟩ := X
  obtain ⟨hx, hb, hml, hown, hts, hK, hG, hZ, hA, hlocks, hR, htr, hr⟩ := C
  intro H locs ls hP hD hS hl
  exact lv_iconst hx hb hd hv (k H locs ls hP hD hS hl)
theorem j_bipush (C : Cok X cc own Ts rm N ret) {n : Int} {v : Int32} (hd : decode cc pc = .ok (.bipush n, 2)) (hv : (Int8.ofInt n).toInt32 = v) (k : Jt X ws cn sn (pc + 2) lv (.int v :: st)) : Jt X ws cn sn pc lv (st) := by
  obtain ⟨G, p, e, R, s, m, args, below, meth, c, Q, A⟩ := X
  obtain ⟨hx, hb, hml, hown, hts, hK, hG, hZ, hA, hlocks, hR, htr, hr⟩ := C
  intro H locs ls hP hD hS hl
  exact lv_bipush hx hb hd hv (k H locs ls hP hD hS hl)
theorem j_sipush (C : Cok X cc own Ts rm N ret) {n : Int} {v : Int32} (hd : decode cc pc = .ok (.sipush n, 3)) (hv : (Int16.ofInt n).toInt32 = v) (k : Jt X ws cn sn (pc + 3) lv (.int v :: st)) : Jt X ws cn sn pc lv (st) := by
  obtain ⟨G, p, e, R, s, m, args, below, meth, c, Q, A⟩ := X
  obtain ⟨hx, hb, hml, hown, hts, hK, hG, hZ, hA, hlocks, hR, htr, hr⟩ := C
  intro H locs ls hP hD hS hl
  exact lv_sipush hx hb hd hv (k H locs ls hP hD hS hl)
theorem j_ldc (C : Cok X cc own Ts rm N ret) {index : Nat} {v : Int32} (hd : decode cc pc = .ok (.ldc index, 2)) (hw : Cond.constant own index v ∈ Ts) (k : Jt X ws cn sn (pc + 2) lv (.int v :: st)) : Jt X ws cn sn pc lv (st) := by
  obtain ⟨G, p, e, R, s, m, args, below, meth, c, Q, A⟩ := X
  obtain ⟨hx, hb, hml, hown, hts, hK, hG, hZ, hA, hlocks, hR, htr, hr⟩ := C
  intro H locs ls hP hD hS hl
  exact lv_ldc hx hb hown (hts _ hw) hd (k H locs ls hP hD hS hl)
theorem j_lconst (C : Cok X cc own Ts rm N ret) {n : Fin 2} {v : Int64} (hd : decode cc pc = .ok (.lconst n, 1)) (hv : Int64.ofNat (n : Nat) = v) (k : Jt X ws cn sn (pc + 1) lv (.long v :: st)) : Jt X ws cn sn pc lv (st) := by
  obtain ⟨G, p, e, R, s, m, args, below, meth, c, Q, A⟩ := X
  obtain ⟨hx, hb, hml, hown, hts, hK, hG, hZ, hA, hlocks, hR, htr, hr⟩ := C
  intro H locs ls hP hD hS hl
  exact lv_lconst hx hb hd hv (k H locs ls hP hD hS hl)
theorem j_dconst0 (C : Cok X cc own Ts rm N ret) (hd : decode cc pc = .ok (.dconst 0, 1)) (k : Jt X ws cn sn (pc + 1) lv (.double FP.dconst0 :: st)) : Jt X ws cn sn pc lv (st) := by
  obtain ⟨G, p, e, R, s, m, args, below, meth, c, Q, A⟩ := X
  obtain ⟨hx, hb, hml, hown, hts, hK, hG, hZ, hA, hlocks, hR, htr, hr⟩ := C
  intro H locs ls hP hD hS hl
  exact lv_dconst0 hx hb hd (k H locs ls hP hD hS hl)
theorem j_dconst1 (C : Cok X cc own Ts rm N ret) (hd : decode cc pc = .ok (.dconst 1, 1)) (k : Jt X ws cn sn (pc + 1) lv (.double FP.dconst1 :: st)) : Jt X ws cn sn pc lv (st) := by
  obtain ⟨G, p, e, R, s, m, args, below, meth, c, Q, A⟩ := X
  obtain ⟨hx, hb, hml, hown, hts, hK, hG, hZ, hA, hlocks, hR, htr, hr⟩ := C
  intro H locs ls hP hD hS hl
  exact lv_dconst1 hx hb hd (k H locs ls hP hD hS hl)
theorem j_ldc2 (C : Cok X cc own Ts rm N ret) {index : Nat} {v : Int64} (hd : decode cc pc = .ok (.ldc2_w index, 3)) (hw : Cond.constantLong own index v ∈ Ts) (k : Jt X ws cn sn (pc + 3) lv (.long v :: st)) : Jt X ws cn sn pc lv (st) := by
  obtain ⟨G, p, e, R, s, m, args, below, meth, c, Q, A⟩ := X
  obtain ⟨hx, hb, hml, hown, hts, hK, hG, hZ, hA, hlocks, hR, htr, hr⟩ := C
  intro H locs ls hP hD hS hl
  exact lv_ldc2 hx hb hown (hts _ hw) hd (k H locs ls hP hD hS hl)
theorem j_ldc2d (C : Cok X cc own Ts rm N ret) {index : Nat} {v : UInt64} (hd : decode cc pc = .ok (.ldc2_w index, 3)) (hw : Cond.constantDouble own index v ∈ Ts) (k : Jt X ws cn sn (pc + 3) lv (.double v :: st)) : Jt X ws cn sn pc lv (st) := by
  obtain ⟨G, p, e, R, s, m, args, below, meth, c, Q, A⟩ := X
  obtain ⟨hx, hb, hml, hown, hts, hK, hG, hZ, hA, hlocks, hR, htr, hr⟩ := C
  intro H locs ls hP hD hS hl
  exact lv_ldc2d hx hb hown (hts _ hw) hd (k H locs ls hP hD hS hl)
theorem j_iload_n (C : Cok X cc own Ts rm N ret) {kf : Fin 4} {i : Nat} {x : Int32} (hd : decode cc pc = .ok (.iload_n kf, 1)) (hi : (kf : Nat) = i) (q : Nat) (hq : lv[q]? = some (i, .int x)) (k : Jt X ws cn sn (pc + 1) lv (.int x :: st)) : Jt X ws cn sn pc lv (st) := by
  obtain ⟨G, p, e, R, s, m, args, below, meth, c, Q, A⟩ := X
  obtain ⟨hx, hb, hml, hown, hts, hK, hG, hZ, hA, hlocks, hR, htr, hr⟩ := C
  intro H locs ls hP hD hS hl
  exact lv_iload_n hx hb hd hi (lv_at hl q hq) (k H locs ls hP hD hS hl)
theorem j_iload (C : Cok X cc own Ts rm N ret) {i : Nat} {x : Int32} (hd : decode cc pc = .ok (.iload i, 2)) (q : Nat) (hq : lv[q]? = some (i, .int x)) (k : Jt X ws cn sn (pc + 2) lv (.int x :: st)) : Jt X ws cn sn pc lv (st) := by
  obtain ⟨G, p, e, R, s, m, args, below, meth, c, Q, A⟩ := X
  obtain ⟨hx, hb, hml, hown, hts, hK, hG, hZ, hA, hlocks, hR, htr, hr⟩ := C
  intro H locs ls hP hD hS hl
  exact lv_iload hx hb hd (lv_at hl q hq) (k H locs ls hP hD hS hl)
theorem j_aload_n (C : Cok X cc own Ts rm N ret) {kf : Fin 4} {i : Nat} {x : Nat} (hd : decode cc pc = .ok (.aload_n kf, 1)) (hi : (kf : Nat) = i) (q : Nat) (hq : lv[q]? = some (i, .ref x)) (k : Jt X ws cn sn (pc + 1) lv (.ref x :: st)) : Jt X ws cn sn pc lv (st) := by
  obtain ⟨G, p, e, R, s, m, args, below, meth, c, Q, A⟩ := X
  obtain ⟨hx, hb, hml, hown, hts, hK, hG, hZ, hA, hlocks, hR, htr, hr⟩ := C
  intro H locs ls hP hD hS hl
  exact lv_aload_n hx hb hd hi (lv_at hl q hq) (k H locs ls hP hD hS hl)
theorem j_aload (C : Cok X cc own Ts rm N ret) {i : Nat} {x : Nat} (hd : decode cc pc = .ok (.aload i, 2)) (q : Nat) (hq : lv[q]? = some (i, .ref x)) (k : Jt X ws cn sn (pc + 2) lv (.ref x :: st)) : Jt X ws cn sn pc lv (st) := by
  obtain ⟨G, p, e, R, s, m, args, below, meth, c, Q, A⟩ := X
  obtain ⟨hx, hb, hml, hown, hts, hK, hG, hZ, hA, hlocks, hR, htr, hr⟩ := C
  intro H locs ls hP hD hS hl
  exact lv_aload hx hb hd (lv_at hl q hq) (k H locs ls hP hD hS hl)
theorem j_lload_n (C : Cok X cc own Ts rm N ret) {kf : Fin 4} {i : Nat} {x : Int64} (hd : decode cc pc = .ok (.lload_n kf, 1)) (hi : (kf : Nat) = i) (q : Nat) (hq : lv[q]? = some (i, .long x)) (k : Jt X ws cn sn (pc + 1) lv (.long x :: st)) : Jt X ws cn sn pc lv (st) := by
  obtain ⟨G, p, e, R, s, m, args, below, meth, c, Q, A⟩ := X
  obtain ⟨hx, hb, hml, hown, hts, hK, hG, hZ, hA, hlocks, hR, htr, hr⟩ := C
  intro H locs ls hP hD hS hl
  exact lv_lload_n hx hb hd hi (lv_at hl q hq) (k H locs ls hP hD hS hl)
theorem j_lload (C : Cok X cc own Ts rm N ret) {i : Nat} {x : Int64} (hd : decode cc pc = .ok (.lload i, 2)) (q : Nat) (hq : lv[q]? = some (i, .long x)) (k : Jt X ws cn sn (pc + 2) lv (.long x :: st)) : Jt X ws cn sn pc lv (st) := by
  obtain ⟨G, p, e, R, s, m, args, below, meth, c, Q, A⟩ := X
  obtain ⟨hx, hb, hml, hown, hts, hK, hG, hZ, hA, hlocks, hR, htr, hr⟩ := C
  intro H locs ls hP hD hS hl
  exact lv_lload hx hb hd (lv_at hl q hq) (k H locs ls hP hD hS hl)
theorem j_dload_n (C : Cok X cc own Ts rm N ret) {kf : Fin 4} {i : Nat} {x : UInt64} (hd : decode cc pc = .ok (.dload_n kf, 1)) (hi : (kf : Nat) = i) (q : Nat) (hq : lv[q]? = some (i, .double x)) (k : Jt X ws cn sn (pc + 1) lv (.double x :: st)) : Jt X ws cn sn pc lv (st) := by
  obtain ⟨G, p, e, R, s, m, args, below, meth, c, Q, A⟩ := X
  obtain ⟨hx, hb, hml, hown, hts, hK, hG, hZ, hA, hlocks, hR, htr, hr⟩ := C
  intro H locs ls hP hD hS hl
  exact lv_dload_n hx hb hd hi (lv_at hl q hq) (k H locs ls hP hD hS hl)
theorem j_dload (C : Cok X cc own Ts rm N ret) {i : Nat} {x : UInt64} (hd : decode cc pc = .ok (.dload i, 2)) (q : Nat) (hq : lv[q]? = some (i, .double x)) (k : Jt X ws cn sn (pc + 2) lv (.double x :: st)) : Jt X ws cn sn pc lv (st) := by
  obtain ⟨G, p, e, R, s, m, args, below, meth, c, Q, A⟩ := X
  obtain ⟨hx, hb, hml, hown, hts, hK, hG, hZ, hA, hlocks, hR, htr, hr⟩ := C
  intro H locs ls hP hD hS hl
  exact lv_dload hx hb hd (lv_at hl q hq) (k H locs ls hP hD hS hl)
theorem j_istore_n (C : Cok X cc own Ts rm N ret) {kf : Fin 4} {i : Nat} {x : Int32} (hd : decode cc pc = .ok (.istore_n kf, 1)) (hi : (kf : Nat) = i) (hn : i < N) (hv : (i, Value.int x) :: lv.filter (fun q => !(q.1 == i) && !(q.1 + 1 == i && q.2.category == 2)) = lv') (k : Jt X ws cn sn (pc + 1) lv' rest) : Jt X ws cn sn pc lv (.int x :: rest) := by
  obtain ⟨G, p, e, R, s, m, args, below, meth, c, Q, A⟩ := X
  obtain ⟨hx, hb, hml, hown, hts, hK, hG, hZ, hA, hlocks, hR, htr, hr⟩ := C
  intro H locs ls hP hD hS hl
  exact lv_istore_n hx hb hd hi hl (by rw [hml]; exact hn) hv (fun ls hl => k H locs ls hP hD hS hl)
theorem j_istore (C : Cok X cc own Ts rm N ret) {i : Nat} {x : Int32} (hd : decode cc pc = .ok (.istore i, 2)) (hn : i < N) (hv : (i, Value.int x) :: lv.filter (fun q => !(q.1 == i) && !(q.1 + 1 == i && q.2.category == 2)) = lv') (k : Jt X ws cn sn (pc + 2) lv' rest) : Jt X ws cn sn pc lv (.int x :: rest) := by
  obtain ⟨G, p, e, R, s, m, args, below, meth, c, Q, A⟩ := X
  obtain ⟨hx, hb, hml, hown, hts, hK, hG, hZ, hA, hlocks, hR, htr, hr⟩ := C
  intro H locs ls hP hD hS hl
  exact lv_istore hx hb hd hl (by rw [hml]; exact hn) hv (fun ls hl => k H locs ls hP hD hS hl)
theorem j_astore_n (C : Cok X cc own Ts rm N ret) {kf : Fin 4} {i : Nat} {x : Nat} (hd : decode cc pc = .ok (.astore_n kf, 1)) (hi : (kf : Nat) = i) (hn : i < N) (hv : (i, Value.ref x) :: lv.filter (fun q => !(q.1 == i) && !(q.1 + 1 == i && q.2.category == 2)) = lv') (k : Jt X ws cn sn (pc + 1) lv' rest) : Jt X ws cn sn pc lv (.ref x :: rest) := by
  obtain ⟨G, p, e, R, s, m, args, below, meth, c, Q, A⟩ := X
  obtain ⟨hx, hb, hml, hown, hts, hK, hG, hZ, hA, hlocks, hR, htr, hr⟩ := C
  intro H locs ls hP hD hS hl
  exact lv_astore_n hx hb hd hi hl (by rw [hml]; exact hn) hv (fun ls hl => k H locs ls hP hD hS hl)
theorem j_astore (C : Cok X cc own Ts rm N ret) {i : Nat} {x : Nat} (hd : decode cc pc = .ok (.astore i, 2)) (hn : i < N) (hv : (i, Value.ref x) :: lv.filter (fun q => !(q.1 == i) && !(q.1 + 1 == i && q.2.category == 2)) = lv') (k : Jt X ws cn sn (pc + 2) lv' rest) : Jt X ws cn sn pc lv (.ref x :: rest) := by
  obtain ⟨G, p, e, R, s, m, args, below, meth, c, Q, A⟩ := X
  obtain ⟨hx, hb, hml, hown, hts, hK, hG, hZ, hA, hlocks, hR, htr, hr⟩ := C
  intro H locs ls hP hD hS hl
  exact lv_astore hx hb hd hl (by rw [hml]; exact hn) hv (fun ls hl => k H locs ls hP hD hS hl)
theorem j_lstore_n (C : Cok X cc own Ts rm N ret) {kf : Fin 4} {i : Nat} {x : Int64} (hd : decode cc pc = .ok (.lstore_n kf, 1)) (hi : (kf : Nat) = i) (hn : i + 1 < N) (hv : (i, Value.long x) :: lv.filter (fun q => !(q.1 == i) && (!(q.1 == i + 1) && !(q.1 + 1 == i && q.2.category == 2))) = lv') (k : Jt X ws cn sn (pc + 1) lv' rest) : Jt X ws cn sn pc lv (.long x :: rest) := by
  obtain ⟨G, p, e, R, s, m, args, below, meth, c, Q, A⟩ := X
  obtain ⟨hx, hb, hml, hown, hts, hK, hG, hZ, hA, hlocks, hR, htr, hr⟩ := C
  intro H locs ls hP hD hS hl
  exact lv_lstore_n hx hb hd hi hl (by rw [hml]; exact hn) hv (fun ls hl => k H locs ls hP hD hS hl)
theorem j_lstore (C : Cok X cc own Ts rm N ret) {i : Nat} {x : Int64} (hd : decode cc pc = .ok (.lstore i, 2)) (hn : i + 1 < N) (hv : (i, Value.long x) :: lv.filter (fun q => !(q.1 == i) && (!(q.1 == i + 1) && !(q.1 + 1 == i && q.2.category == 2))) = lv') (k : Jt X ws cn sn (pc + 2) lv' rest) : Jt X ws cn sn pc lv (.long x :: rest) := by
  obtain ⟨G, p, e, R, s, m, args, below, meth, c, Q, A⟩ := X
  obtain ⟨hx, hb, hml, hown, hts, hK, hG, hZ, hA, hlocks, hR, htr, hr⟩ := C
  intro H locs ls hP hD hS hl
  exact lv_lstore hx hb hd hl (by rw [hml]; exact hn) hv (fun ls hl => k H locs ls hP hD hS hl)
theorem j_dstore_n (C : Cok X cc own Ts rm N ret) {kf : Fin 4} {i : Nat} {x : UInt64} (hd : decode cc pc = .ok (.dstore_n kf, 1)) (hi : (kf : Nat) = i) (hn : i + 1 < N) (hv : (i, Value.double x) :: lv.filter (fun q => !(q.1 == i) && (!(q.1 == i + 1) && !(q.1 + 1 == i && q.2.category == 2))) = lv') (k : Jt X ws cn sn (pc + 1) lv' rest) : Jt X ws cn sn pc lv (.double x :: rest) := by
  obtain ⟨G, p, e, R, s, m, args, below, meth, c, Q, A⟩ := X
  obtain ⟨hx, hb, hml, hown, hts, hK, hG, hZ, hA, hlocks, hR, htr, hr⟩ := C
  intro H locs ls hP hD hS hl
  exact lv_dstore_n hx hb hd hi hl (by rw [hml]; exact hn) hv (fun ls hl => k H locs ls hP hD hS hl)
theorem j_dstore (C : Cok X cc own Ts rm N ret) {i : Nat} {x : UInt64} (hd : decode cc pc = .ok (.dstore i, 2)) (hn : i + 1 < N) (hv : (i, Value.double x) :: lv.filter (fun q => !(q.1 == i) && (!(q.1 == i + 1) && !(q.1 + 1 == i && q.2.category == 2))) = lv') (k : Jt X ws cn sn (pc + 2) lv' rest) : Jt X ws cn sn pc lv (.double x :: rest) := by
  obtain ⟨G, p, e, R, s, m, args, below, meth, c, Q, A⟩ := X
  obtain ⟨hx, hb, hml, hown, hts, hK, hG, hZ, hA, hlocks, hR, htr, hr⟩ := C
  intro H locs ls hP hD hS hl
  exact lv_dstore hx hb hd hl (by rw [hml]; exact hn) hv (fun ls hl => k H locs ls hP hD hS hl)
theorem j_iinc (C : Cok X cc own Ts rm N ret) {i : Nat} {n : Int} {x v : Int32} (hd : decode cc pc = .ok (.iinc i n, 3)) (q : Nat) (hq : lv[q]? = some (i, .int x)) (hv : x + Int32.ofInt n = v) (hn : i < N) (hv2 : (i, Value.int v) :: lv.filter (fun q => !(q.1 == i) && !(q.1 + 1 == i && q.2.category == 2)) = lv') (k : Jt X ws cn sn (pc + 3) lv' st) : Jt X ws cn sn pc lv st := by
  obtain ⟨G, p, e, R, s, m, args, below, meth, c, Q, A⟩ := X
  obtain ⟨hx, hb, hml, hown, hts, hK, hG, hZ, hA, hlocks, hR, htr, hr⟩ := C
  intro H locs ls hP hD hS hl
  exact lv_iinc hx hb hd hl hq hv (by rw [hml]; exact hn) hv2 (fun ls hl => k H locs ls hP hD hS hl)
theorem j_iadd (C : Cok X cc own Ts rm N ret) {x y : Int32} (hd : decode cc pc = .ok (.iadd, 1))  (k : Jt X ws cn sn (pc + 1) lv (.int (x + y) :: rest)) : Jt X ws cn sn pc lv (.int y :: .int x :: rest) := by
  obtain ⟨G, p, e, R, s, m, args, below, meth, c, Q, A⟩ := X
  obtain ⟨hx, hb, hml, hown, hts, hK, hG, hZ, hA, hlocks, hR, htr, hr⟩ := C
  intro H locs ls hP hD hS hl
  exact lv_iadd hx hb hd (k H locs ls hP hD hS hl)
theorem j_isub (C : Cok X cc own Ts rm N ret) {x y : Int32} (hd : decode cc pc = .ok (.isub, 1))  (k : Jt X ws cn sn (pc + 1) lv (.int (x - y) :: rest)) : Jt X ws cn sn pc lv (.int y :: .int x :: rest) := by
  obtain ⟨G, p, e, R, s, m, args, below, meth, c, Q, A⟩ := X
  obtain ⟨hx, hb, hml, hown, hts, hK, hG, hZ, hA, hlocks, hR, htr, hr⟩ := C
  intro H locs ls hP hD hS hl
  exact lv_isub hx hb hd (k H locs ls hP hD hS hl)
theorem j_imul (C : Cok X cc own Ts rm N ret) {x y : Int32} (hd : decode cc pc = .ok (.imul, 1))  (k : Jt X ws cn sn (pc + 1) lv (.int (x * y) :: rest)) : Jt X ws cn sn pc lv (.int y :: .int x :: rest) := by
  obtain ⟨G, p, e, R, s, m, args, below, meth, c, Q, A⟩ := X
  obtain ⟨hx, hb, hml, hown, hts, hK, hG, hZ, hA, hlocks, hR, htr, hr⟩ := C
  intro H locs ls hP hD hS hl
  exact lv_imul hx hb hd (k H locs ls hP hD hS hl)
theorem j_iand (C : Cok X cc own Ts rm N ret) {x y : Int32} (hd : decode cc pc = .ok (.iand, 1))  (k : Jt X ws cn sn (pc + 1) lv (.int (x &&& y) :: rest)) : Jt X ws cn sn pc lv (.int y :: .int x :: rest) := by
  obtain ⟨G, p, e, R, s, m, args, below, meth, c, Q, A⟩ := X
  obtain ⟨hx, hb, hml, hown, hts, hK, hG, hZ, hA, hlocks, hR, htr, hr⟩ := C
  intro H locs ls hP hD hS hl
  exact lv_iand hx hb hd (k H locs ls hP hD hS hl)
theorem j_idiv (C : Cok X cc own Ts rm N ret) {x y : Int32} (hd : decode cc pc = .ok (.idiv, 1)) (hne : ¬ y = 0) (k : Jt X ws cn sn (pc + 1) lv (.int (x / y) :: rest)) : Jt X ws cn sn pc lv (.int y :: .int x :: rest) := by
  obtain ⟨G, p, e, R, s, m, args, below, meth, c, Q, A⟩ := X
  obtain ⟨hx, hb, hml, hown, hts, hK, hG, hZ, hA, hlocks, hR, htr, hr⟩ := C
  intro H locs ls hP hD hS hl
  exact lv_idiv hx hb hd hne (k H locs ls hP hD hS hl)
theorem j_irem (C : Cok X cc own Ts rm N ret) {x y : Int32} (hd : decode cc pc = .ok (.irem, 1)) (hne : ¬ y = 0) (k : Jt X ws cn sn (pc + 1) lv (.int (x - x / y * y) :: rest)) : Jt X ws cn sn pc lv (.int y :: .int x :: rest) := by
  obtain ⟨G, p, e, R, s, m, args, below, meth, c, Q, A⟩ := X
  obtain ⟨hx, hb, hml, hown, hts, hK, hG, hZ, hA, hlocks, hR, htr, hr⟩ := C
  intro H locs ls hP hD hS hl
  exact lv_irem hx hb hd hne (k H locs ls hP hD hS hl)
theorem j_ineg (C : Cok X cc own Ts rm N ret) {x : Int32} (hd : decode cc pc = .ok (.ineg, 1)) (k : Jt X ws cn sn (pc + 1) lv (.int (-x) :: rest)) : Jt X ws cn sn pc lv (.int x :: rest) := by
  obtain ⟨G, p, e, R, s, m, args, below, meth, c, Q, A⟩ := X
  obtain ⟨hx, hb, hml, hown, hts, hK, hG, hZ, hA, hlocks, hR, htr, hr⟩ := C
  intro H locs ls hP hD hS hl
  exact lv_ineg hx hb hd (k H locs ls hP hD hS hl)
theorem j_ladd (C : Cok X cc own Ts rm N ret) {x y : Int64} (hd : decode cc pc = .ok (.ladd, 1)) (k : Jt X ws cn sn (pc + 1) lv (.long (x + y) :: rest)) : Jt X ws cn sn pc lv (.long y :: .long x :: rest) := by
  obtain ⟨G, p, e, R, s, m, args, below, meth, c, Q, A⟩ := X
  obtain ⟨hx, hb, hml, hown, hts, hK, hG, hZ, hA, hlocks, hR, htr, hr⟩ := C
  intro H locs ls hP hD hS hl
  exact lv_ladd hx hb hd (k H locs ls hP hD hS hl)
theorem j_lsub (C : Cok X cc own Ts rm N ret) {x y : Int64} (hd : decode cc pc = .ok (.lsub, 1)) (k : Jt X ws cn sn (pc + 1) lv (.long (x - y) :: rest)) : Jt X ws cn sn pc lv (.long y :: .long x :: rest) := by
  obtain ⟨G, p, e, R, s, m, args, below, meth, c, Q, A⟩ := X
  obtain ⟨hx, hb, hml, hown, hts, hK, hG, hZ, hA, hlocks, hR, htr, hr⟩ := C
  intro H locs ls hP hD hS hl
  exact lv_lsub hx hb hd (k H locs ls hP hD hS hl)
theorem j_lmul (C : Cok X cc own Ts rm N ret) {x y : Int64} (hd : decode cc pc = .ok (.lmul, 1)) (k : Jt X ws cn sn (pc + 1) lv (.long (x * y) :: rest)) : Jt X ws cn sn pc lv (.long y :: .long x :: rest) := by
  obtain ⟨G, p, e, R, s, m, args, below, meth, c, Q, A⟩ := X
  obtain ⟨hx, hb, hml, hown, hts, hK, hG, hZ, hA, hlocks, hR, htr, hr⟩ := C
  intro H locs ls hP hD hS hl
  exact lv_lmul hx hb hd (k H locs ls hP hD hS hl)
theorem j_lshl (C : Cok X cc own Ts rm N ret) {x : Int64} {y : Int32} (hd : decode cc pc = .ok (.lshl, 1)) (k : Jt X ws cn sn (pc + 1) lv (.long (x <<< (y.toInt64 &&& 63)) :: rest)) : Jt X ws cn sn pc lv (.int y :: .long x :: rest) := by
  obtain ⟨G, p, e, R, s, m, args, below, meth, c, Q, A⟩ := X
  obtain ⟨hx, hb, hml, hown, hts, hK, hG, hZ, hA, hlocks, hR, htr, hr⟩ := C
  intro H locs ls hP hD hS hl
  exact lv_lshl hx hb hd rfl (k H locs ls hP hD hS hl)
theorem j_i2l (C : Cok X cc own Ts rm N ret) {x : Int32} (hd : decode cc pc = .ok (.i2l, 1)) (k : Jt X ws cn sn (pc + 1) lv (.long x.toInt64 :: rest)) : Jt X ws cn sn pc lv (.int x :: rest) := by
  obtain ⟨G, p, e, R, s, m, args, below, meth, c, Q, A⟩ := X
  obtain ⟨hx, hb, hml, hown, hts, hK, hG, hZ, hA, hlocks, hR, htr, hr⟩ := C
  intro H locs ls hP hD hS hl
  exact lv_i2l hx hb hd rfl (k H locs ls hP hD hS hl)
theorem j_lcmp (C : Cok X cc own Ts rm N ret) {x y : Int64} (hd : decode cc pc = .ok (.lcmp, 1)) (k : Jt X ws cn sn (pc + 1) lv (.int (lg_cmp x y) :: rest)) : Jt X ws cn sn pc lv (.long y :: .long x :: rest) := by
  obtain ⟨G, p, e, R, s, m, args, below, meth, c, Q, A⟩ := X
  obtain ⟨hx, hb, hml, hown, hts, hK, hG, hZ, hA, hlocks, hR, htr, hr⟩ := C
  intro H locs ls hP hD hS hl
  exact W.lcmp hx hb hd (k H locs ls hP hD hS hl)
theorem j_dsub (C : Cok X cc own Ts rm N ret) {x y : UInt64} (hd : decode cc pc = .ok (.dsub, 1)) (hne : vf_n64 (FP.dsub x y)) (k : Jt X ws cn sn (pc + 1) lv (.double (FP.dsub x y) :: rest)) : Jt X ws cn sn pc lv (.double y :: .double x :: rest) := by
  obtain ⟨G, p, e, R, s, m, args, below, meth, c, Q, A⟩ := X
  obtain ⟨hx, hb, hml, hown, hts, hK, hG, hZ, hA, hlocks, hR, htr, hr⟩ := C
  intro H locs ls hP hD hS hl
  exact lv_dsub hx hb hd hne (k H locs ls hP hD hS hl)
theorem j_dmul (C : Cok X cc own Ts rm N ret) {x y : UInt64} (hd : decode cc pc = .ok (.dmul, 1)) (hne : vf_n64 (FP.dmul x y)) (k : Jt X ws cn sn (pc + 1) lv (.double (FP.dmul x y) :: rest)) : Jt X ws cn sn pc lv (.double y :: .double x :: rest) := by
  obtain ⟨G, p, e, R, s, m, args, below, meth, c, Q, A⟩ := X
  obtain ⟨hx, hb, hml, hown, hts, hK, hG, hZ, hA, hlocks, hR, htr, hr⟩ := C
  intro H locs ls hP hD hS hl
  exact lv_dmul hx hb hd hne (k H locs ls hP hD hS hl)
theorem j_ddiv (C : Cok X cc own Ts rm N ret) {x y : UInt64} (hd : decode cc pc = .ok (.ddiv, 1)) (hne : vf_n64 (FP.ddiv x y)) (k : Jt X ws cn sn (pc + 1) lv (.double (FP.ddiv x y) :: rest)) : Jt X ws cn sn pc lv (.double y :: .double x :: rest) := by
  obtain ⟨G, p, e, R, s, m, args, below, meth, c, Q, A⟩ := X
  obtain ⟨hx, hb, hml, hown, hts, hK, hG, hZ, hA, hlocks, hR, htr, hr⟩ := C
  intro H locs ls hP hD hS hl
  exact lv_ddiv hx hb hd hne (k H locs ls hP hD hS hl)
theorem j_i2d (C : Cok X cc own Ts rm N ret) {x : Int32} (hd : decode cc pc = .ok (.i2d, 1)) (k : Jt X ws cn sn (pc + 1) lv (.double (FP.i2d x) :: rest)) : Jt X ws cn sn pc lv (.int x :: rest) := by
  obtain ⟨G, p, e, R, s, m, args, below, meth, c, Q, A⟩ := X
  obtain ⟨hx, hb, hml, hown, hts, hK, hG, hZ, hA, hlocks, hR, htr, hr⟩ := C
  intro H locs ls hP hD hS hl
  exact lv_i2d hx hb hd (k H locs ls hP hD hS hl)
theorem j_d2l (C : Cok X cc own Ts rm N ret) {x : UInt64} (hd : decode cc pc = .ok (.d2l, 1)) (k : Jt X ws cn sn (pc + 1) lv (.long (FP.d2l x) :: rest)) : Jt X ws cn sn pc lv (.double x :: rest) := by
  obtain ⟨G, p, e, R, s, m, args, below, meth, c, Q, A⟩ := X
  obtain ⟨hx, hb, hml, hown, hts, hK, hG, hZ, hA, hlocks, hR, htr, hr⟩ := C
  intro H locs ls hP hD hS hl
  exact lv_d2l hx hb hd (k H locs ls hP hD hS hl)
theorem j_dcmp (C : Cok X cc own Ts rm N ret) {x y : UInt64} {op : CmpOp} (hd : decode cc pc = .ok (.dcmp op, 1)) (k : Jt X ws cn sn (pc + 1) lv (.int (Op.cmpValue (FP.dcmp x y) op) :: rest)) : Jt X ws cn sn pc lv (.double y :: .double x :: rest) := by
  obtain ⟨G, p, e, R, s, m, args, below, meth, c, Q, A⟩ := X
  obtain ⟨hx, hb, hml, hown, hts, hK, hG, hZ, hA, hlocks, hR, htr, hr⟩ := C
  intro H locs ls hP hD hS hl
  exact lv_dcmp hx hb hd (k H locs ls hP hD hS hl)
theorem j_dup (C : Cok X cc own Ts rm N ret) {va : Value} (hd : decode cc pc = .ok (.dup, 1)) (hva : va.category = 1) (k : Jt X ws cn sn (pc + 1) lv (va :: va :: rest)) : Jt X ws cn sn pc lv (va :: rest) := by
  obtain ⟨G, p, e, R, s, m, args, below, meth, c, Q, A⟩ := X
  obtain ⟨hx, hb, hml, hown, hts, hK, hG, hZ, hA, hlocks, hR, htr, hr⟩ := C
  intro H locs ls hP hD hS hl
  exact lv_dup hx hb hd hva (k H locs ls hP hD hS hl)
theorem j_pop (C : Cok X cc own Ts rm N ret) {va : Value} (hd : decode cc pc = .ok (.pop, 1)) (hva : va.category = 1) (k : Jt X ws cn sn (pc + 1) lv (rest)) : Jt X ws cn sn pc lv (va :: rest) := by
  obtain ⟨G, p, e, R, s, m, args, below, meth, c, Q, A⟩ := X
  obtain ⟨hx, hb, hml, hown, hts, hK, hG, hZ, hA, hlocks, hR, htr, hr⟩ := C
  intro H locs ls hP hD hS hl
  exact lv_pop hx hb hd hva (k H locs ls hP hD hS hl)
theorem j_dup2 (C : Cok X cc own Ts rm N ret) {va vb : Value} (hd : decode cc pc = .ok (.dup2, 1)) (hva : va.category = 1) (hvb : vb.category = 1) (k : Jt X ws cn sn (pc + 1) lv (va :: vb :: va :: vb :: rest)) : Jt X ws cn sn pc lv (va :: vb :: rest) := by
  obtain ⟨G, p, e, R, s, m, args, below, meth, c, Q, A⟩ := X
  obtain ⟨hx, hb, hml, hown, hts, hK, hG, hZ, hA, hlocks, hR, htr, hr⟩ := C
  intro H locs ls hP hD hS hl
  exact lv_dup2_11 hx hb hd hva hvb (k H locs ls hP hD hS hl)
theorem j_icmp_eq (C : Cok X cc own Ts rm N ret) {x y : Int32} {off : Int} {tgt : Nat} (hd : decode cc pc = .ok (.if_icmp .eq off, 3)) (ht : (pc : Int) + off = (tgt : Int)) (kt : x = y → Jt X ws cn sn tgt lv rest) (kf : ¬ x = y → Jt X ws cn sn (pc + 3) lv rest) : Jt X ws cn sn pc lv (.int y :: .int x :: rest) := by
  obtain ⟨G, p, e, R, s, m, args, below, meth, c, Q, A⟩ := X
  obtain ⟨hx, hb, hml, hown, hts, hK, hG, hZ, hA, hlocks, hR, htr, hr⟩ := C
  intro H locs ls hP hD hS hl
  exact lv_icmp_eq hx hb hd ht (fun z => kt z H locs ls hP hD hS hl) (fun z => kf z H locs ls hP hD hS hl)
theorem j_icmp_ne (C : Cok X cc own Ts rm N ret) {x y : Int32} {off : Int} {tgt : Nat} (hd : decode cc pc = .ok (.if_icmp .ne off, 3)) (ht : (pc : Int) + off = (tgt : Int)) (kt : ¬ x = y → Jt X ws cn sn tgt lv rest) (kf : x = y → Jt X ws cn sn (pc + 3) lv rest) : Jt X ws cn sn pc lv (.int y :: .int x :: rest) := by
  obtain ⟨G, p, e, R, s, m, args, below, meth, c, Q, A⟩ := X
  obtain ⟨hx, hb, hml, hown, hts, hK, hG, hZ, hA, hlocks, hR, htr, hr⟩ := C
  intro H locs ls hP hD hS hl
  exact lv_icmp_ne hx hb hd ht (fun z => kt z H locs ls hP hD hS hl) (fun z => kf z H locs ls hP hD hS hl)
theorem j_icmp_lt (C : Cok X cc own Ts rm N ret) {x y : Int32} {off : Int} {tgt : Nat} (hd : decode cc pc = .ok (.if_icmp .lt off, 3)) (ht : (pc : Int) + off = (tgt : Int)) (kt : x < y → Jt X ws cn sn tgt lv rest) (kf : ¬ x < y → Jt X ws cn sn (pc + 3) lv rest) : Jt X ws cn sn pc lv (.int y :: .int x :: rest) := by
  obtain ⟨G, p, e, R, s, m, args, below, meth, c, Q, A⟩ := X
  obtain ⟨hx, hb, hml, hown, hts, hK, hG, hZ, hA, hlocks, hR, htr, hr⟩ := C
  intro H locs ls hP hD hS hl
  exact lv_icmp_lt hx hb hd ht (fun z => kt z H locs ls hP hD hS hl) (fun z => kf z H locs ls hP hD hS hl)
theorem j_icmp_ge (C : Cok X cc own Ts rm N ret) {x y : Int32} {off : Int} {tgt : Nat} (hd : decode cc pc = .ok (.if_icmp .ge off, 3)) (ht : (pc : Int) + off = (tgt : Int)) (kt : y ≤ x → Jt X ws cn sn tgt lv rest) (kf : ¬ y ≤ x → Jt X ws cn sn (pc + 3) lv rest) : Jt X ws cn sn pc lv (.int y :: .int x :: rest) := by
  obtain ⟨G, p, e, R, s, m, args, below, meth, c, Q, A⟩ := X
  obtain ⟨hx, hb, hml, hown, hts, hK, hG, hZ, hA, hlocks, hR, htr, hr⟩ := C
  intro H locs ls hP hD hS hl
  exact lv_icmp_ge hx hb hd ht (fun z => kt z H locs ls hP hD hS hl) (fun z => kf z H locs ls hP hD hS hl)
theorem j_icmp_gt (C : Cok X cc own Ts rm N ret) {x y : Int32} {off : Int} {tgt : Nat} (hd : decode cc pc = .ok (.if_icmp .gt off, 3)) (ht : (pc : Int) + off = (tgt : Int)) (kt : y < x → Jt X ws cn sn tgt lv rest) (kf : ¬ y < x → Jt X ws cn sn (pc + 3) lv rest) : Jt X ws cn sn pc lv (.int y :: .int x :: rest) := by
  obtain ⟨G, p, e, R, s, m, args, below, meth, c, Q, A⟩ := X
  obtain ⟨hx, hb, hml, hown, hts, hK, hG, hZ, hA, hlocks, hR, htr, hr⟩ := C
  intro H locs ls hP hD hS hl
  exact lv_icmp_gt hx hb hd ht (fun z => kt z H locs ls hP hD hS hl) (fun z => kf z H locs ls hP hD hS hl)
theorem j_icmp_le (C : Cok X cc own Ts rm N ret) {x y : Int32} {off : Int} {tgt : Nat} (hd : decode cc pc = .ok (.if_icmp .le off, 3)) (ht : (pc : Int) + off = (tgt : Int)) (kt : x ≤ y → Jt X ws cn sn tgt lv rest) (kf : ¬ x ≤ y → Jt X ws cn sn (pc + 3) lv rest) : Jt X ws cn sn pc lv (.int y :: .int x :: rest) := by
  obtain ⟨G, p, e, R, s, m, args, below, meth, c, Q, A⟩ := X
  obtain ⟨hx, hb, hml, hown, hts, hK, hG, hZ, hA, hlocks, hR, htr, hr⟩ := C
  intro H locs ls hP hD hS hl
  exact lv_icmp_le hx hb hd ht (fun z => kt z H locs ls hP hD hS hl) (fun z => kf z H locs ls hP hD hS hl)
theorem j_if_eq (C : Cok X cc own Ts rm N ret) {x : Int32} {off : Int} {tgt : Nat} (hd : decode cc pc = .ok (.ifCond .eq off, 3)) (ht : (pc : Int) + off = (tgt : Int)) (kt : x = 0 → Jt X ws cn sn tgt lv rest) (kf : ¬ x = 0 → Jt X ws cn sn (pc + 3) lv rest) : Jt X ws cn sn pc lv (.int x :: rest) := by
  obtain ⟨G, p, e, R, s, m, args, below, meth, c, Q, A⟩ := X
  obtain ⟨hx, hb, hml, hown, hts, hK, hG, hZ, hA, hlocks, hR, htr, hr⟩ := C
  intro H locs ls hP hD hS hl
  exact lv_if_eq hx hb hd ht (fun z => kt z H locs ls hP hD hS hl) (fun z => kf z H locs ls hP hD hS hl)
theorem j_if_ne (C : Cok X cc own Ts rm N ret) {x : Int32} {off : Int} {tgt : Nat} (hd : decode cc pc = .ok (.ifCond .ne off, 3)) (ht : (pc : Int) + off = (tgt : Int)) (kt : ¬ x = 0 → Jt X ws cn sn tgt lv rest) (kf : x = 0 → Jt X ws cn sn (pc + 3) lv rest) : Jt X ws cn sn pc lv (.int x :: rest) := by
  obtain ⟨G, p, e, R, s, m, args, below, meth, c, Q, A⟩ := X
  obtain ⟨hx, hb, hml, hown, hts, hK, hG, hZ, hA, hlocks, hR, htr, hr⟩ := C
  intro H locs ls hP hD hS hl
  exact lv_if_ne hx hb hd ht (fun z => kt z H locs ls hP hD hS hl) (fun z => kf z H locs ls hP hD hS hl)
theorem j_if_lt (C : Cok X cc own Ts rm N ret) {x : Int32} {off : Int} {tgt : Nat} (hd : decode cc pc = .ok (.ifCond .lt off, 3)) (ht : (pc : Int) + off = (tgt : Int)) (kt : x < 0 → Jt X ws cn sn tgt lv rest) (kf : ¬ x < 0 → Jt X ws cn sn (pc + 3) lv rest) : Jt X ws cn sn pc lv (.int x :: rest) := by
  obtain ⟨G, p, e, R, s, m, args, below, meth, c, Q, A⟩ := X
  obtain ⟨hx, hb, hml, hown, hts, hK, hG, hZ, hA, hlocks, hR, htr, hr⟩ := C
  intro H locs ls hP hD hS hl
  exact lv_if_lt hx hb hd ht (fun z => kt z H locs ls hP hD hS hl) (fun z => kf z H locs ls hP hD hS hl)
theorem j_if_ge (C : Cok X cc own Ts rm N ret) {x : Int32} {off : Int} {tgt : Nat} (hd : decode cc pc = .ok (.ifCond .ge off, 3)) (ht : (pc : Int) + off = (tgt : Int)) (kt : 0 ≤ x → Jt X ws cn sn tgt lv rest) (kf : ¬ 0 ≤ x → Jt X ws cn sn (pc + 3) lv rest) : Jt X ws cn sn pc lv (.int x :: rest) := by
  obtain ⟨G, p, e, R, s, m, args, below, meth, c, Q, A⟩ := X
  obtain ⟨hx, hb, hml, hown, hts, hK, hG, hZ, hA, hlocks, hR, htr, hr⟩ := C
  intro H locs ls hP hD hS hl
  exact lv_if_ge hx hb hd ht (fun z => kt z H locs ls hP hD hS hl) (fun z => kf z H locs ls hP hD hS hl)
theorem j_if_gt (C : Cok X cc own Ts rm N ret) {x : Int32} {off : Int} {tgt : Nat} (hd : decode cc pc = .ok (.ifCond .gt off, 3)) (ht : (pc : Int) + off = (tgt : Int)) (kt : 0 < x → Jt X ws cn sn tgt lv rest) (kf : ¬ 0 < x → Jt X ws cn sn (pc + 3) lv rest) : Jt X ws cn sn pc lv (.int x :: rest) := by
  obtain ⟨G, p, e, R, s, m, args, below, meth, c, Q, A⟩ := X
  obtain ⟨hx, hb, hml, hown, hts, hK, hG, hZ, hA, hlocks, hR, htr, hr⟩ := C
  intro H locs ls hP hD hS hl
  exact lv_if_gt hx hb hd ht (fun z => kt z H locs ls hP hD hS hl) (fun z => kf z H locs ls hP hD hS hl)
theorem j_if_le (C : Cok X cc own Ts rm N ret) {x : Int32} {off : Int} {tgt : Nat} (hd : decode cc pc = .ok (.ifCond .le off, 3)) (ht : (pc : Int) + off = (tgt : Int)) (kt : x ≤ 0 → Jt X ws cn sn tgt lv rest) (kf : ¬ x ≤ 0 → Jt X ws cn sn (pc + 3) lv rest) : Jt X ws cn sn pc lv (.int x :: rest) := by
  obtain ⟨G, p, e, R, s, m, args, below, meth, c, Q, A⟩ := X
  obtain ⟨hx, hb, hml, hown, hts, hK, hG, hZ, hA, hlocks, hR, htr, hr⟩ := C
  intro H locs ls hP hD hS hl
  exact lv_if_le hx hb hd ht (fun z => kt z H locs ls hP hD hS hl) (fun z => kf z H locs ls hP hD hS hl)
theorem j_goto (C : Cok X cc own Ts rm N ret) {off : Int} {tgt : Nat} (hd : decode cc pc = .ok (.goto off, 3)) (ht : (pc : Int) + off = (tgt : Int)) (k : Jt X ws cn sn tgt lv (st)) : Jt X ws cn sn pc lv (st) := by
  obtain ⟨G, p, e, R, s, m, args, below, meth, c, Q, A⟩ := X
  obtain ⟨hx, hb, hml, hown, hts, hK, hG, hZ, hA, hlocks, hR, htr, hr⟩ := C
  intro H locs ls hP hD hS hl
  exact lv_goto hx hb hd ht (k H locs ls hP hD hS hl)
theorem j_ifnull (C : Cok X cc own Ts rm N ret) {x : Nat} {off : Int} (hd : decode cc pc = .ok (.ifnull off, 3)) (k : Jt X ws cn sn (pc + 3) lv (rest)) : Jt X ws cn sn pc lv (.ref x :: rest) := by
  obtain ⟨G, p, e, R, s, m, args, below, meth, c, Q, A⟩ := X
  obtain ⟨hx, hb, hml, hown, hts, hK, hG, hZ, hA, hlocks, hR, htr, hr⟩ := C
  intro H locs ls hP hD hS hl
  exact lv_ifnull hx hb hd (k H locs ls hP hD hS hl)
theorem j_ifnonnull (C : Cok X cc own Ts rm N ret) {x : Nat} {off : Int} {tgt : Nat} (hd : decode cc pc = .ok (.ifnonnull off, 3)) (ht : (pc : Int) + off = (tgt : Int)) (k : Jt X ws cn sn tgt lv (rest)) : Jt X ws cn sn pc lv (.ref x :: rest) := by
  obtain ⟨G, p, e, R, s, m, args, below, meth, c, Q, A⟩ := X
  obtain ⟨hx, hb, hml, hown, hts, hK, hG, hZ, hA, hlocks, hR, htr, hr⟩ := C
  intro H locs ls hP hD hS hl
  exact lv_ifnonnull hx hb hd ht (k H locs ls hP hD hS hl)
theorem j_tabIn (C : Cok X cc own Ts rm N ret) {dflt lo hi : Int} {offs : Array Int} {len : Nat} {x : Int32} {off : Int} {tgt : Nat} (hd : decode cc pc = .ok (.tableswitch dflt lo hi offs, len)) (h1 : ¬ x.toInt < lo) (h2 : ¬ hi < x.toInt) (ho : offs[(x.toInt - lo).toNat]? = some off) (ht : (pc : Int) + off = (tgt : Int)) (k : Jt X ws cn sn tgt lv (rest)) : Jt X ws cn sn pc lv (.int x :: rest) := by
  obtain ⟨G, p, e, R, s, m, args, below, meth, c, Q, A⟩ := X
  obtain ⟨hx, hb, hml, hown, hts, hK, hG, hZ, hA, hlocks, hR, htr, hr⟩ := C
  intro H locs ls hP hD hS hl
  exact lv_tableIn hx hb hd h1 h2 ho ht (k H locs ls hP hD hS hl)
theorem j_tabOut (C : Cok X cc own Ts rm N ret) {dflt lo hi : Int} {offs : Array Int} {len : Nat} {x : Int32} {tgt : Nat} (hd : decode cc pc = .ok (.tableswitch dflt lo hi offs, len)) (h : x.toInt < lo ∨ hi < x.toInt) (ht : (pc : Int) + dflt = (tgt : Int)) (k : Jt X ws cn sn tgt lv (rest)) : Jt X ws cn sn pc lv (.int x :: rest) := by
  obtain ⟨G, p, e, R, s, m, args, below, meth, c, Q, A⟩ := X
  obtain ⟨hx, hb, hml, hown, hts, hK, hG, hZ, hA, hlocks, hR, htr, hr⟩ := C
  intro H locs ls hP hD hS hl
  exact lv_tableOut hx hb hd h ht (k H locs ls hP hD hS hl)
theorem j_lookup (C : Cok X cc own Ts rm N ret) {dflt : Int} {ps : Array (Int × Int)} {len : Nat} {x : Int32} {off : Int} {tgt : Nat} (hd : decode cc pc = .ok (.lookupswitch dflt ps, len)) (hp : (ps.toList.zip (ps.toList.drop 1)).all (fun (a, next) => a.1 < next.1) = true) (ho : Op.lookupswitch.offset ps.toList dflt x.toInt = off) (ht : (pc : Int) + off = (tgt : Int)) (k : Jt X ws cn sn tgt lv (rest)) : Jt X ws cn sn pc lv (.int x :: rest) := by
  obtain ⟨G, p, e, R, s, m, args, below, meth, c, Q, A⟩ := X
  obtain ⟨hx, hb, hml, hown, hts, hK, hG, hZ, hA, hlocks, hR, htr, hr⟩ := C
  intro H locs ls hP hD hS hl
  exact lv_lookup hx hb hd hp ho ht (k H locs ls hP hD hS hl)
theorem j_get0 (C : Cok X cc own Ts rm N ret) {a index : Nat} {fs : List Value} {v : Value} (q0 : Nat) (he : ws[q0]? = some (a, .inr (0, fs))) (f : Nat) (hf : f < 4) (hin : ∀ w ∈ wsX00, w ∈ Ts) (hk : Cond.fieldLink own index (TX0 f).1 (TX0 f).2.1 (TX0 f).2.2.1 ∈ Ts) (hv : fs[f]? = some v) (hd : decode cc pc = .ok (.getfield index, 3)) (k : Jt X ws cn sn (pc + 3) lv (v :: rest)) : Jt X ws cn sn pc lv (.ref a :: rest) := by
  obtain ⟨G, p, e, R, s, m, args, below, meth, c, Q, A⟩ := X
  obtain ⟨hx, hb, hml, hown, hts, hK, hG, hZ, hA, hlocks, hR, htr, hr⟩ := C
  intro H locs ls hP hD hS hl
  exact va_get (C := RX0) (T := TX0) (N := 4) hx hb hts hin hown hK hP q0 he rfl f hf (hts _ hk) (fun _ h9 => h9) hv hd (k H locs ls hP hD hS hl)
theorem j_getN0 (C : Cok X cc own Ts rm N ret) {a index : Nat} {fs : List Value} {v : Value} (q0 : Nat) (he : ws[q0]? = some (a, .inr (0, fs))) (f : Nat) (hf : f < 4) (hin : ∀ w ∈ wsX00, w ∈ Ts) {host : String} (hk : Cond.fieldLinkNest own index (TX0 f).1 (TX0 f).2.1 (TX0 f).2.2.1 host ∈ jNest) (hv : fs[f]? = some v) (hd : decode cc pc = .ok (.getfield index, 3)) (k : Jt X ws cn sn (pc + 3) lv (v :: rest)) : Jt X ws cn sn pc lv (.ref a :: rest) := by
  obtain ⟨G, p, e, R, s, m, args, below, meth, c, Q, A⟩ := X
  obtain ⟨hx, hb, hml, hown, hts, hK, hG, hZ, hA, hlocks, hR, htr, hr⟩ := C
  intro H locs ls hP hD hS hl
  exact va_getN (C := RX0) (T := TX0) (N := 4) hx hb hts hin hown hK hP q0 he rfl f hf (va_Nw.use rfl (hG.1 _ hk)) (fun _ h9 => h9) hv hd (k H locs ls hP hD hS hl)
theorem j_put0 (C : Cok X cc own Ts rm N ret) {a index : Nat} {fs : List Value} {v : Value} (q0 : Nat) (he : ws[q0]? = some (a, .inr (0, fs))) (f : Nat) (hf : f < 4) (hin : ∀ w ∈ wsX00, w ∈ Ts) (hk : Cond.fieldLink own index (TX0 f).1 (TX0 f).2.1 (TX0 f).2.2.1 ∈ Ts) (hfin : (TX0 f).2.2.2 = false) {ty : FieldType} (hp : parseFieldDescriptor (TX0 f).2.2.1 = some ty) (hnw : narrow ty v = v) (hft : fits ty v = true) (hlf : f < fs.length) (hw : ws.set q0 (a, .inr (0, fs.set f v)) = ws') (hd : decode cc pc = .ok (.putfield index, 3)) (k : Jt X ws' cn sn (pc + 3) lv rest) : Jt X ws cn sn pc lv (v :: .ref a :: rest) := by
  obtain ⟨G, p, e, R, s, m, args, below, meth, c, Q, A⟩ := X
  obtain ⟨hx, hb, hml, hown, hts, hK, hG, hZ, hA, hlocks, hR, htr, hr⟩ := C
  intro H locs ls hP hD hS hl
  exact va_put (C := RX0) (T := TX0) (N := 4) hx hb hts hin tyX0 tyX0_ok nmX0 hown hK hP hD hS q0 he rfl f hf (hts _ hk) (fun _ h9 => h9) hfin hp hnw hft hlf hd (fun H locs hP hD hS => k H locs ls (by rw [← hw]; exact hP) (by rw [← hw]; exact hD) hS hl)
theorem j_putN0 (C : Cok X cc own Ts rm N ret) {a index : Nat} {fs : List Value} {v : Value} (q0 : Nat) (he : ws[q0]? = some (a, .inr (0, fs))) (f : Nat) (hf : f < 4) (hin : ∀ w ∈ wsX00, w ∈ Ts) {host : String} (hk : Cond.fieldLinkNest own index (TX0 f).1 (TX0 f).2.1 (TX0 f).2.2.1 host ∈ jNest) (hfin : (TX0 f).2.2.2 = false) {ty : FieldType} (hp : parseFieldDescriptor (TX0 f).2.2.1 = some ty) (hnw : narrow ty v = v) (hft : fits ty v = true) (hlf : f < fs.length) (hw : ws.set q0 (a, .inr (0, fs.set f v)) = ws') (hd : decode cc pc = .ok (.putfield index, 3)) (k : Jt X ws' cn sn (pc + 3) lv rest) : Jt X ws cn sn pc lv (v :: .ref a :: rest) := by
  obtain ⟨G, p, e, R, s, m, args, below, meth, c, Q, A⟩ := X
  obtain ⟨hx, hb, hml, hown, hts, hK, hG, hZ, hA, hlocks, hR, htr, hr⟩ := C
  intro H locs ls hP hD hS hl
  exact va_putN (C := RX0) (T := TX0) (N := 4) hx hb hts hin tyX0 tyX0_ok nmX0 hown hK hP hD hS q0 he rfl f hf (va_Nw.use rfl (hG.1 _ hk)) (fun _ h9 => h9) hfin hp hnw hft hlf hd (fun H locs hP hD hS => k H locs ls (by rw [← hw]; exact hP) (by rw [← hw]; exact hD) hS hl)
theorem j_putF0 (C : Cok X cc own Ts rm N ret) (hnm : X.2.2.2.2.2.2.2.2.1.name = "<init>") {a index : Nat} {fs : List Value} {v : Value} (q0 : Nat) (he : ws[q0]? = some (a, .inr (0, fs))) (f : Nat) (hf : f < 4) (hin : ∀ w ∈ wsX00, w ∈ Ts) (hdc : (TX0 f).1 = own) (hk : Cond.fieldLink own index (TX0 f).1 (TX0 f).2.1 (TX0 f).2.2.1 ∈ Ts) (hfin : (TX0 f).2.2.2 = true) {ty : FieldType} (hp : parseFieldDescriptor (TX0 f).2.2.1 = some ty) (hnw : narrow ty v = v) (hft : fits ty v = true) (hlf : f < fs.length) (hw : ws.set q0 (a, .inr (0, fs.set f v)) = ws') (hd : decode cc pc = .ok (.putfield index, 3)) (k : Jt X ws' cn sn (pc + 3) lv rest) : Jt X ws cn sn pc lv (v :: .ref a :: rest) := by
  obtain ⟨G, p, e, R, s, m, args, below, meth, c, Q, A⟩ := X
  obtain ⟨hx, hb, hml, hown, hts, hK, hG, hZ, hA, hlocks, hR, htr, hr⟩ := C
  intro H locs ls hP hD hS hl
  exact va_putF (C := RX0) (T := TX0) (N := 4) hx hb hts hin tyX0 tyX0_ok nmX0 hown hK hP hD hS q0 he rfl f hf (hts _ hk) (fun _ h9 => h9) hfin hnm hdc hp hnw hft hlf hd (fun H locs hP hD hS => k H locs ls (by rw [← hw]; exact hP) (by rw [← hw]; exact hD) hS hl)
theorem j_get1 (C : Cok X cc own Ts rm N ret) {a index : Nat} {fs : List Value} {v : Value} (q0 : Nat) (he : ws[q0]? = some (a, .inr (1, fs))) (f : Nat) (hf : f < 4) (hin : ∀ w ∈ wsX10, w ∈ Ts) (hk : Cond.fieldLink own index (TX1 f).1 (TX1 f).2.1 (TX1 f).2.2.1 ∈ Ts) (hv : fs[f]? = some v) (hd : decode cc pc = .ok (.getfield index, 3)) (k : Jt X ws cn sn (pc + 3) lv (v :: rest)) : Jt X ws cn sn pc lv (.ref a :: rest) := by
  obtain ⟨G, p, e, R, s, m, args, below, meth, c, Q, A⟩ := X
  obtain ⟨hx, hb, hml, hown, hts, hK, hG, hZ, hA, hlocks, hR, htr, hr⟩ := C
  intro H locs ls hP hD hS hl
  exact va_get (C := RX1) (T := TX1) (N := 4) hx hb hts hin hown hK hP q0 he rfl f hf (hts _ hk) (fun _ h9 => h9) hv hd (k H locs ls hP hD hS hl)
theorem j_getN1 (C : Cok X cc own Ts rm N ret) {a index : Nat} {fs : List Value} {v : Value} (q0 : Nat) (he : ws[q0]? = some (a, .inr (1, fs))) (f : Nat) (hf : f < 4) (hin : ∀ w ∈ wsX10, w ∈ Ts) {host : String} (hk : Cond.fieldLinkNest own index (TX1 f).1 (TX1 f).2.1 (TX1 f).2.2.1 host ∈ jNest) (hv : fs[f]? = some v) (hd : decode cc pc = .ok (.getfield index, 3)) (k : Jt X ws cn sn (pc + 3) lv (v :: rest)) : Jt X ws cn sn pc lv (.ref a :: rest) := by
  obtain ⟨G, p, e, R, s, m, args, below, meth, c, Q, A⟩ := X
  obtain ⟨hx, hb, hml, hown, hts, hK, hG, hZ, hA, hlocks, hR, htr, hr⟩ := C
  intro H locs ls hP hD hS hl
  exact va_getN (C := RX1) (T := TX1) (N := 4) hx hb hts hin hown hK hP q0 he rfl f hf (va_Nw.use rfl (hG.1 _ hk)) (fun _ h9 => h9) hv hd (k H locs ls hP hD hS hl)
theorem j_put1 (C : Cok X cc own Ts rm N ret) {a index : Nat} {fs : List Value} {v : Value} (q0 : Nat) (he : ws[q0]? = some (a, .inr (1, fs))) (f : Nat) (hf : f < 4) (hin : ∀ w ∈ wsX10, w ∈ Ts) (hk : Cond.fieldLink own index (TX1 f).1 (TX1 f).2.1 (TX1 f).2.2.1 ∈ Ts) (hfin : (TX1 f).2.2.2 = false) {ty : FieldType} (hp : parseFieldDescriptor (TX1 f).2.2.1 = some ty) (hnw : narrow ty v = v) (hft : fits ty v = true) (hlf : f < fs.length) (hw : ws.set q0 (a, .inr (1, fs.set f v)) = ws') (hd : decode cc pc = .ok (.putfield index, 3)) (k : Jt X ws' cn sn (pc + 3) lv rest) : Jt X ws cn sn pc lv (v :: .ref a :: rest) := by
  obtain ⟨G, p, e, R, s, m, args, below, meth, c, Q, A⟩ := X
  obtain ⟨hx, hb, hml, hown, hts, hK, hG, hZ, hA, hlocks, hR, htr, hr⟩ := C
  intro H locs ls hP hD hS hl
  exact va_put (C := RX1) (T := TX1) (N := 4) hx hb hts hin tyX1 tyX1_ok nmX1 hown hK hP hD hS q0 he rfl f hf (hts _ hk) (fun _ h9 => h9) hfin hp hnw hft hlf hd (fun H locs hP hD hS => k H locs ls (by rw [← hw]; exact hP) (by rw [← hw]; exact hD) hS hl)
theorem j_putN1 (C : Cok X cc own Ts rm N ret) {a index : Nat} {fs : List Value} {v : Value} (q0 : Nat) (he : ws[q0]? = some (a, .inr (1, fs))) (f : Nat) (hf : f < 4) (hin : ∀ w ∈ wsX10, w ∈ Ts) {host : String} (hk : Cond.fieldLinkNest own index (TX1 f).1 (TX1 f).2.1 (TX1 f).2.2.1 host ∈ jNest) (hfin : (TX1 f).2.2.2 = false) {ty : FieldType} (hp : parseFieldDescriptor (TX1 f).2.2.1 = some ty) (hnw : narrow ty v = v) (hft : fits ty v = true) (hlf : f < fs.length) (hw : ws.set q0 (a, .inr (1, fs.set f v)) = ws') (hd : decode cc pc = .ok (.putfield index, 3)) (k : Jt X ws' cn sn (pc + 3) lv rest) : Jt X ws cn sn pc lv (v :: .ref a :: rest) := by
  obtain ⟨G, p, e, R, s, m, args, below, meth, c, Q, A⟩ := X
  obtain ⟨hx, hb, hml, hown, hts, hK, hG, hZ, hA, hlocks, hR, htr, hr⟩ := C
  intro H locs ls hP hD hS hl
  exact va_putN (C := RX1) (T := TX1) (N := 4) hx hb hts hin tyX1 tyX1_ok nmX1 hown hK hP hD hS q0 he rfl f hf (va_Nw.use rfl (hG.1 _ hk)) (fun _ h9 => h9) hfin hp hnw hft hlf hd (fun H locs hP hD hS => k H locs ls (by rw [← hw]; exact hP) (by rw [← hw]; exact hD) hS hl)
theorem j_putF1 (C : Cok X cc own Ts rm N ret) (hnm : X.2.2.2.2.2.2.2.2.1.name = "<init>") {a index : Nat} {fs : List Value} {v : Value} (q0 : Nat) (he : ws[q0]? = some (a, .inr (1, fs))) (f : Nat) (hf : f < 4) (hin : ∀ w ∈ wsX10, w ∈ Ts) (hdc : (TX1 f).1 = own) (hk : Cond.fieldLink own index (TX1 f).1 (TX1 f).2.1 (TX1 f).2.2.1 ∈ Ts) (hfin : (TX1 f).2.2.2 = true) {ty : FieldType} (hp : parseFieldDescriptor (TX1 f).2.2.1 = some ty) (hnw : narrow ty v = v) (hft : fits ty v = true) (hlf : f < fs.length) (hw : ws.set q0 (a, .inr (1, fs.set f v)) = ws') (hd : decode cc pc = .ok (.putfield index, 3)) (k : Jt X ws' cn sn (pc + 3) lv rest) : Jt X ws cn sn pc lv (v :: .ref a :: rest) := by
  obtain ⟨G, p, e, R, s, m, args, below, meth, c, Q, A⟩ := X
  obtain ⟨hx, hb, hml, hown, hts, hK, hG, hZ, hA, hlocks, hR, htr, hr⟩ := C
  intro H locs ls hP hD hS hl
  exact va_putF (C := RX1) (T := TX1) (N := 4) hx hb hts hin tyX1 tyX1_ok nmX1 hown hK hP hD hS q0 he rfl f hf (hts _ hk) (fun _ h9 => h9) hfin hnm hdc hp hnw hft hlf hd (fun H locs hP hD hS => k H locs ls (by rw [← hw]; exact hP) (by rw [← hw]; exact hD) hS hl)
theorem j_get2 (C : Cok X cc own Ts rm N ret) {a index : Nat} {fs : List Value} {v : Value} (q0 : Nat) (he : ws[q0]? = some (a, .inr (2, fs))) (f : Nat) (hf : f < 3) (hin : ∀ w ∈ wsX20, w ∈ Ts) (hk : Cond.fieldLink own index (TX2 f).1 (TX2 f).2.1 (TX2 f).2.2.1 ∈ Ts) (hv : fs[f]? = some v) (hd : decode cc pc = .ok (.getfield index, 3)) (k : Jt X ws cn sn (pc + 3) lv (v :: rest)) : Jt X ws cn sn pc lv (.ref a :: rest) := by
  obtain ⟨G, p, e, R, s, m, args, below, meth, c, Q, A⟩ := X
  obtain ⟨hx, hb, hml, hown, hts, hK, hG, hZ, hA, hlocks, hR, htr, hr⟩ := C
  intro H locs ls hP hD hS hl
  exact va_get (C := RX2) (T := TX2) (N := 3) hx hb hts hin hown hK hP q0 he rfl f hf (hts _ hk) (fun _ h9 => h9) hv hd (k H locs ls hP hD hS hl)
theorem j_getN2 (C : Cok X cc own Ts rm N ret) {a index : Nat} {fs : List Value} {v : Value} (q0 : Nat) (he : ws[q0]? = some (a, .inr (2, fs))) (f : Nat) (hf : f < 3) (hin : ∀ w ∈ wsX20, w ∈ Ts) {host : String} (hk : Cond.fieldLinkNest own index (TX2 f).1 (TX2 f).2.1 (TX2 f).2.2.1 host ∈ jNest) (hv : fs[f]? = some v) (hd : decode cc pc = .ok (.getfield index, 3)) (k : Jt X ws cn sn (pc + 3) lv (v :: rest)) : Jt X ws cn sn pc lv (.ref a :: rest) := by
  obtain ⟨G, p, e, R, s, m, args, below, meth, c, Q, A⟩ := X
  obtain ⟨hx, hb, hml, hown, hts, hK, hG, hZ, hA, hlocks, hR, htr, hr⟩ := C
  intro H locs ls hP hD hS hl
  exact va_getN (C := RX2) (T := TX2) (N := 3) hx hb hts hin hown hK hP q0 he rfl f hf (va_Nw.use rfl (hG.1 _ hk)) (fun _ h9 => h9) hv hd (k H locs ls hP hD hS hl)
theorem j_put2 (C : Cok X cc own Ts rm N ret) {a index : Nat} {fs : List Value} {v : Value} (q0 : Nat) (he : ws[q0]? = some (a, .inr (2, fs))) (f : Nat) (hf : f < 3) (hin : ∀ w ∈ wsX20, w ∈ Ts) (hk : Cond.fieldLink own index (TX2 f).1 (TX2 f).2.1 (TX2 f).2.2.1 ∈ Ts) (hfin : (TX2 f).2.2.2 = false) {ty : FieldType} (hp : parseFieldDescriptor (TX2 f).2.2.1 = some ty) (hnw : narrow ty v = v) (hft : fits ty v = true) (hlf : f < fs.length) (hw : ws.set q0 (a, .inr (2, fs.set f v)) = ws') (hd : decode cc pc = .ok (.putfield index, 3)) (k : Jt X ws' cn sn (pc + 3) lv rest) : Jt X ws cn sn pc lv (v :: .ref a :: rest) := by
  obtain ⟨G, p, e, R, s, m, args, below, meth, c, Q, A⟩ := X
  obtain ⟨hx, hb, hml, hown, hts, hK, hG, hZ, hA, hlocks, hR, htr, hr⟩ := C
  intro H locs ls hP hD hS hl
  exact va_put (C := RX2) (T := TX2) (N := 3) hx hb hts hin tyX2 tyX2_ok nmX2 hown hK hP hD hS q0 he rfl f hf (hts _ hk) (fun _ h9 => h9) hfin hp hnw hft hlf hd (fun H locs hP hD hS => k H locs ls (by rw [← hw]; exact hP) (by rw [← hw]; exact hD) hS hl)
theorem j_putN2 (C : Cok X cc own Ts rm N ret) {a index : Nat} {fs : List Value} {v : Value} (q0 : Nat) (he : ws[q0]? = some (a, .inr (2, fs))) (f : Nat) (hf : f < 3) (hin : ∀ w ∈ wsX20, w ∈ Ts) {host : String} (hk : Cond.fieldLinkNest own index (TX2 f).1 (TX2 f).2.1 (TX2 f).2.2.1 host ∈ jNest) (hfin : (TX2 f).2.2.2 = false) {ty : FieldType} (hp : parseFieldDescriptor (TX2 f).2.2.1 = some ty) (hnw : narrow ty v = v) (hft : fits ty v = true) (hlf : f < fs.length) (hw : ws.set q0 (a, .inr (2, fs.set f v)) = ws') (hd : decode cc pc = .ok (.putfield index, 3)) (k : Jt X ws' cn sn (pc + 3) lv rest) : Jt X ws cn sn pc lv (v :: .ref a :: rest) := by
  obtain ⟨G, p, e, R, s, m, args, below, meth, c, Q, A⟩ := X
  obtain ⟨hx, hb, hml, hown, hts, hK, hG, hZ, hA, hlocks, hR, htr, hr⟩ := C
  intro H locs ls hP hD hS hl
  exact va_putN (C := RX2) (T := TX2) (N := 3) hx hb hts hin tyX2 tyX2_ok nmX2 hown hK hP hD hS q0 he rfl f hf (va_Nw.use rfl (hG.1 _ hk)) (fun _ h9 => h9) hfin hp hnw hft hlf hd (fun H locs hP hD hS => k H locs ls (by rw [← hw]; exact hP) (by rw [← hw]; exact hD) hS hl)
theorem j_putF2 (C : Cok X cc own Ts rm N ret) (hnm : X.2.2.2.2.2.2.2.2.1.name = "<init>") {a index : Nat} {fs : List Value} {v : Value} (q0 : Nat) (he : ws[q0]? = some (a, .inr (2, fs))) (f : Nat) (hf : f < 3) (hin : ∀ w ∈ wsX20, w ∈ Ts) (hdc : (TX2 f).1 = own) (hk : Cond.fieldLink own index (TX2 f).1 (TX2 f).2.1 (TX2 f).2.2.1 ∈ Ts) (hfin : (TX2 f).2.2.2 = true) {ty : FieldType} (hp : parseFieldDescriptor (TX2 f).2.2.1 = some ty) (hnw : narrow ty v = v) (hft : fits ty v = true) (hlf : f < fs.length) (hw : ws.set q0 (a, .inr (2, fs.set f v)) = ws') (hd : decode cc pc = .ok (.putfield index, 3)) (k : Jt X ws' cn sn (pc + 3) lv rest) : Jt X ws cn sn pc lv (v :: .ref a :: rest) := by
  obtain ⟨G, p, e, R, s, m, args, below, meth, c, Q, A⟩ := X
  obtain ⟨hx, hb, hml, hown, hts, hK, hG, hZ, hA, hlocks, hR, htr, hr⟩ := C
  intro H locs ls hP hD hS hl
  exact va_putF (C := RX2) (T := TX2) (N := 3) hx hb hts hin tyX2 tyX2_ok nmX2 hown hK hP hD hS q0 he rfl f hf (hts _ hk) (fun _ h9 => h9) hfin hnm hdc hp hnw hft hlf hd (fun H locs hP hD hS => k H locs ls (by rw [← hw]; exact hP) (by rw [← hw]; exact hD) hS hl)
theorem j_get3 (C : Cok X cc own Ts rm N ret) {a index : Nat} {fs : List Value} {v : Value} (q0 : Nat) (he : ws[q0]? = some (a, .inr (3, fs))) (f : Nat) (hf : f < 3) (hin : ∀ w ∈ wsX30, w ∈ Ts) (hk : Cond.fieldLink own index (TX3 f).1 (TX3 f).2.1 (TX3 f).2.2.1 ∈ Ts) (hv : fs[f]? = some v) (hd : decode cc pc = .ok (.getfield index, 3)) (k : Jt X ws cn sn (pc + 3) lv (v :: rest)) : Jt X ws cn sn pc lv (.ref a :: rest) := by
  obtain ⟨G, p, e, R, s, m, args, below, meth, c, Q, A⟩ := X
  obtain ⟨hx, hb, hml, hown, hts, hK, hG, hZ, hA, hlocks, hR, htr, hr⟩ := C
  intro H locs ls hP hD hS hl
  exact va_get (C := RX3) (T := TX3) (N := 3) hx hb hts hin hown hK hP q0 he rfl f hf (hts _ hk) (fun _ h9 => h9) hv hd (k H locs ls hP hD hS hl)
theorem j_getN3 (C : Cok X cc own Ts rm N ret) {a index : Nat} {fs : List Value} {v : Value} (q0 : Nat) (he : ws[q0]? = some (a, .inr (3, fs))) (f : Nat) (hf : f < 3) (hin : ∀ w ∈ wsX30, w ∈ Ts) {host : String} (hk : Cond.fieldLinkNest own index (TX3 f).1 (TX3 f).2.1 (TX3 f).2.2.1 host ∈ jNest) (hv : fs[f]? = some v) (hd : decode cc pc = .ok (.getfield index, 3)) (k : Jt X ws cn sn (pc + 3) lv (v :: rest)) : Jt X ws cn sn pc lv (.ref a :: rest) := by
  obtain ⟨G, p, e, R, s, m, args, below, meth, c, Q, A⟩ := X
  obtain ⟨hx, hb, hml, hown, hts, hK, hG, hZ, hA, hlocks, hR, htr, hr⟩ := C
  intro H locs ls hP hD hS hl
  exact va_getN (C := RX3) (T := TX3) (N := 3) hx hb hts hin hown hK hP q0 he rfl f hf (va_Nw.use rfl (hG.1 _ hk)) (fun _ h9 => h9) hv hd (k H locs ls hP hD hS hl)
theorem j_put3 (C : Cok X cc own Ts rm N ret) {a index : Nat} {fs : List Value} {v : Value} (q0 : Nat) (he : ws[q0]? = some (a, .inr (3, fs))) (f : Nat) (hf : f < 3) (hin : ∀ w ∈ wsX30, w ∈ Ts) (hk : Cond.fieldLink own index (TX3 f).1 (TX3 f).2.1 (TX3 f).2.2.1 ∈ Ts) (hfin : (TX3 f).2.2.2 = false) {ty : FieldType} (hp : parseFieldDescriptor (TX3 f).2.2.1 = some ty) (hnw : narrow ty v = v) (hft : fits ty v = true) (hlf : f < fs.length) (hw : ws.set q0 (a, .inr (3, fs.set f v)) = ws') (hd : decode cc pc = .ok (.putfield index, 3)) (k : Jt X ws' cn sn (pc + 3) lv rest) : Jt X ws cn sn pc lv (v :: .ref a :: rest) := by
  obtain ⟨G, p, e, R, s, m, args, below, meth, c, Q, A⟩ := X
  obtain ⟨hx, hb, hml, hown, hts, hK, hG, hZ, hA, hlocks, hR, htr, hr⟩ := C
  intro H locs ls hP hD hS hl
  exact va_put (C := RX3) (T := TX3) (N := 3) hx hb hts hin tyX3 tyX3_ok nmX3 hown hK hP hD hS q0 he rfl f hf (hts _ hk) (fun _ h9 => h9) hfin hp hnw hft hlf hd (fun H locs hP hD hS => k H locs ls (by rw [← hw]; exact hP) (by rw [← hw]; exact hD) hS hl)
theorem j_putN3 (C : Cok X cc own Ts rm N ret) {a index : Nat} {fs : List Value} {v : Value} (q0 : Nat) (he : ws[q0]? = some (a, .inr (3, fs))) (f : Nat) (hf : f < 3) (hin : ∀ w ∈ wsX30, w ∈ Ts) {host : String} (hk : Cond.fieldLinkNest own index (TX3 f).1 (TX3 f).2.1 (TX3 f).2.2.1 host ∈ jNest) (hfin : (TX3 f).2.2.2 = false) {ty : FieldType} (hp : parseFieldDescriptor (TX3 f).2.2.1 = some ty) (hnw : narrow ty v = v) (hft : fits ty v = true) (hlf : f < fs.length) (hw : ws.set q0 (a, .inr (3, fs.set f v)) = ws') (hd : decode cc pc = .ok (.putfield index, 3)) (k : Jt X ws' cn sn (pc + 3) lv rest) : Jt X ws cn sn pc lv (v :: .ref a :: rest) := by
  obtain ⟨G, p, e, R, s, m, args, below, meth, c, Q, A⟩ := X
  obtain ⟨hx, hb, hml, hown, hts, hK, hG, hZ, hA, hlocks, hR, htr, hr⟩ := C
  intro H locs ls hP hD hS hl
  exact va_putN (C := RX3) (T := TX3) (N := 3) hx hb hts hin tyX3 tyX3_ok nmX3 hown hK hP hD hS q0 he rfl f hf (va_Nw.use rfl (hG.1 _ hk)) (fun _ h9 => h9) hfin hp hnw hft hlf hd (fun H locs hP hD hS => k H locs ls (by rw [← hw]; exact hP) (by rw [← hw]; exact hD) hS hl)
theorem j_putF3 (C : Cok X cc own Ts rm N ret) (hnm : X.2.2.2.2.2.2.2.2.1.name = "<init>") {a index : Nat} {fs : List Value} {v : Value} (q0 : Nat) (he : ws[q0]? = some (a, .inr (3, fs))) (f : Nat) (hf : f < 3) (hin : ∀ w ∈ wsX30, w ∈ Ts) (hdc : (TX3 f).1 = own) (hk : Cond.fieldLink own index (TX3 f).1 (TX3 f).2.1 (TX3 f).2.2.1 ∈ Ts) (hfin : (TX3 f).2.2.2 = true) {ty : FieldType} (hp : parseFieldDescriptor (TX3 f).2.2.1 = some ty) (hnw : narrow ty v = v) (hft : fits ty v = true) (hlf : f < fs.length) (hw : ws.set q0 (a, .inr (3, fs.set f v)) = ws') (hd : decode cc pc = .ok (.putfield index, 3)) (k : Jt X ws' cn sn (pc + 3) lv rest) : Jt X ws cn sn pc lv (v :: .ref a :: rest) := by
  obtain ⟨G, p, e, R, s, m, args, below, meth, c, Q, A⟩ := X
  obtain ⟨hx, hb, hml, hown, hts, hK, hG, hZ, hA, hlocks, hR, htr, hr⟩ := C
  intro H locs ls hP hD hS hl
  exact va_putF (C := RX3) (T := TX3) (N := 3) hx hb hts hin tyX3 tyX3_ok nmX3 hown hK hP hD hS q0 he rfl f hf (hts _ hk) (fun _ h9 => h9) hfin hnm hdc hp hnw hft hlf hd (fun H locs hP hD hS => k H locs ls (by rw [← hw]; exact hP) (by rw [← hw]; exact hD) hS hl)
theorem j_get4 (C : Cok X cc own Ts rm N ret) {a index : Nat} {fs : List Value} {v : Value} (q0 : Nat) (he : ws[q0]? = some (a, .inr (4, fs))) (f : Nat) (hf : f < 5) (hin : ∀ w ∈ wsX40, w ∈ Ts) (hk : Cond.fieldLink own index (TX4 f).1 (TX4 f).2.1 (TX4 f).2.2.1 ∈ Ts) (hv : fs[f]? = some v) (hd : decode cc pc = .ok (.getfield index, 3)) (k : Jt X ws cn sn (pc + 3) lv (v :: rest)) : Jt X ws cn sn pc lv (.ref a :: rest) := by
  obtain ⟨G, p, e, R, s, m, args, below, meth, c, Q, A⟩ := X
  obtain ⟨hx, hb, hml, hown, hts, hK, hG, hZ, hA, hlocks, hR, htr, hr⟩ := C
  intro H locs ls hP hD hS hl
  exact va_get (C := RX4) (T := TX4) (N := 5) hx hb hts hin hown hK hP q0 he rfl f hf (hts _ hk) (fun _ h9 => h9) hv hd (k H locs ls hP hD hS hl)
theorem j_getN4 (C : Cok X cc own Ts rm N ret) {a index : Nat} {fs : List Value} {v : Value} (q0 : Nat) (he : ws[q0]? = some (a, .inr (4, fs))) (f : Nat) (hf : f < 5) (hin : ∀ w ∈ wsX40, w ∈ Ts) {host : String} (hk : Cond.fieldLinkNest own index (TX4 f).1 (TX4 f).2.1 (TX4 f).2.2.1 host ∈ jNest) (hv : fs[f]? = some v) (hd : decode cc pc = .ok (.getfield index, 3)) (k : Jt X ws cn sn (pc + 3) lv (v :: rest)) : Jt X ws cn sn pc lv (.ref a :: rest) := by
  obtain ⟨G, p, e, R, s, m, args, below, meth, c, Q, A⟩ := X
  obtain ⟨hx, hb, hml, hown, hts, hK, hG, hZ, hA, hlocks, hR, htr, hr⟩ := C
  intro H locs ls hP hD hS hl
  exact va_getN (C := RX4) (T := TX4) (N := 5) hx hb hts hin hown hK hP q0 he rfl f hf (va_Nw.use rfl (hG.1 _ hk)) (fun _ h9 => h9) hv hd (k H locs ls hP hD hS hl)
theorem j_put4 (C : Cok X cc own Ts rm N ret) {a index : Nat} {fs : List Value} {v : Value} (q0 : Nat) (he : ws[q0]? = some (a, .inr (4, fs))) (f : Nat) (hf : f < 5) (hin : ∀ w ∈ wsX40, w ∈ Ts) (hk : Cond.fieldLink own index (TX4 f).1 (TX4 f).2.1 (TX4 f).2.2.1 ∈ Ts) (hfin : (TX4 f).2.2.2 = false) {ty : FieldType} (hp : parseFieldDescriptor (TX4 f).2.2.1 = some ty) (hnw : narrow ty v = v) (hft : fits ty v = true) (hlf : f < fs.length) (hw : ws.set q0 (a, .inr (4, fs.set f v)) = ws') (hd : decode cc pc = .ok (.putfield index, 3)) (k : Jt X ws' cn sn (pc + 3) lv rest) : Jt X ws cn sn pc lv (v :: .ref a :: rest) := by
  obtain ⟨G, p, e, R, s, m, args, below, meth, c, Q, A⟩ := X
  obtain ⟨hx, hb, hml, hown, hts, hK, hG, hZ, hA, hlocks, hR, htr, hr⟩ := C
  intro H locs ls hP hD hS hl
  exact va_put (C := RX4) (T := TX4) (N := 5) hx hb hts hin tyX4 tyX4_ok nmX4 hown hK hP hD hS q0 he rfl f hf (hts _ hk) (fun _ h9 => h9) hfin hp hnw hft hlf hd (fun H locs hP hD hS => k H locs ls (by rw [← hw]; exact hP) (by rw [← hw]; exact hD) hS hl)
theorem j_putN4 (C : Cok X cc own Ts rm N ret) {a index : Nat} {fs : List Value} {v : Value} (q0 : Nat) (he : ws[q0]? = some (a, .inr (4, fs))) (f : Nat) (hf : f < 5) (hin : ∀ w ∈ wsX40, w ∈ Ts) {host : String} (hk : Cond.fieldLinkNest own index (TX4 f).1 (TX4 f).2.1 (TX4 f).2.2.1 host ∈ jNest) (hfin : (TX4 f).2.2.2 = false) {ty : FieldType} (hp : parseFieldDescriptor (TX4 f).2.2.1 = some ty) (hnw : narrow ty v = v) (hft : fits ty v = true) (hlf : f < fs.length) (hw : ws.set q0 (a, .inr (4, fs.set f v)) = ws') (hd : decode cc pc = .ok (.putfield index, 3)) (k : Jt X ws' cn sn (pc + 3) lv rest) : Jt X ws cn sn pc lv (v :: .ref a :: rest) := by
  obtain ⟨G, p, e, R, s, m, args, below, meth, c, Q, A⟩ := X
  obtain ⟨hx, hb, hml, hown, hts, hK, hG, hZ, hA, hlocks, hR, htr, hr⟩ := C
  intro H locs ls hP hD hS hl
  exact va_putN (C := RX4) (T := TX4) (N := 5) hx hb hts hin tyX4 tyX4_ok nmX4 hown hK hP hD hS q0 he rfl f hf (va_Nw.use rfl (hG.1 _ hk)) (fun _ h9 => h9) hfin hp hnw hft hlf hd (fun H locs hP hD hS => k H locs ls (by rw [← hw]; exact hP) (by rw [← hw]; exact hD) hS hl)
theorem j_putF4 (C : Cok X cc own Ts rm N ret) (hnm : X.2.2.2.2.2.2.2.2.1.name = "<init>") {a index : Nat} {fs : List Value} {v : Value} (q0 : Nat) (he : ws[q0]? = some (a, .inr (4, fs))) (f : Nat) (hf : f < 5) (hin : ∀ w ∈ wsX40, w ∈ Ts) (hdc : (TX4 f).1 = own) (hk : Cond.fieldLink own index (TX4 f).1 (TX4 f).2.1 (TX4 f).2.2.1 ∈ Ts) (hfin : (TX4 f).2.2.2 = true) {ty : FieldType} (hp : parseFieldDescriptor (TX4 f).2.2.1 = some ty) (hnw : narrow ty v = v) (hft : fits ty v = true) (hlf : f < fs.length) (hw : ws.set q0 (a, .inr (4, fs.set f v)) = ws') (hd : decode cc pc = .ok (.putfield index, 3)) (k : Jt X ws' cn sn (pc + 3) lv rest) : Jt X ws cn sn pc lv (v :: .ref a :: rest) := by
  obtain ⟨G, p, e, R, s, m, args, below, meth, c, Q, A⟩ := X
  obtain ⟨hx, hb, hml, hown, hts, hK, hG, hZ, hA, hlocks, hR, htr, hr⟩ := C
  intro H locs ls hP hD hS hl
  exact va_putF (C := RX4) (T := TX4) (N := 5) hx hb hts hin tyX4 tyX4_ok nmX4 hown hK hP hD hS q0 he rfl f hf (hts _ hk) (fun _ h9 => h9) hfin hnm hdc hp hnw hft hlf hd (fun H locs hP hD hS => k H locs ls (by rw [← hw]; exact hP) (by rw [← hw]; exact hD) hS hl)
theorem j_get5 (C : Cok X cc own Ts rm N ret) {a index : Nat} {fs : List Value} {v : Value} (q0 : Nat) (he : ws[q0]? = some (a, .inr (5, fs))) (f : Nat) (hf : f < 5) (hin : ∀ w ∈ wsX50, w ∈ Ts) (hk : Cond.fieldLink own index (TX5 f).1 (TX5 f).2.1 (TX5 f).2.2.1 ∈ Ts) (hv : fs[f]? = some v) (hd : decode cc pc = .ok (.getfield index, 3)) (k : Jt X ws cn sn (pc + 3) lv (v :: rest)) : Jt X ws cn sn pc lv (.ref a :: rest) := by
  obtain ⟨G, p, e, R, s, m, args, below, meth, c, Q, A⟩ := X
  obtain ⟨hx, hb, hml, hown, hts, hK, hG, hZ, hA, hlocks, hR, htr, hr⟩ := C
  intro H locs ls hP hD hS hl
  exact va_get (C := RX5) (T := TX5) (N := 5) hx hb hts hin hown hK hP q0 he rfl f hf (hts _ hk) (fun _ h9 => h9) hv hd (k H locs ls hP hD hS hl)
theorem j_getN5 (C : Cok X cc own Ts rm N ret) {a index : Nat} {fs : List Value} {v : Value} (q0 : Nat) (he : ws[q0]? = some (a, .inr (5, fs))) (f : Nat) (hf : f < 5) (hin : ∀ w ∈ wsX50, w ∈ Ts) {host : String} (hk : Cond.fieldLinkNest own index (TX5 f).1 (TX5 f).2.1 (TX5 f).2.2.1 host ∈ jNest) (hv : fs[f]? = some v) (hd : decode cc pc = .ok (.getfield index, 3)) (k : Jt X ws cn sn (pc + 3) lv (v :: rest)) : Jt X ws cn sn pc lv (.ref a :: rest) := by
  obtain ⟨G, p, e, R, s, m, args, below, meth, c, Q, A⟩ := X
  obtain ⟨hx, hb, hml, hown, hts, hK, hG, hZ, hA, hlocks, hR, htr, hr⟩ := C
  intro H locs ls hP hD hS hl
  exact va_getN (C := RX5) (T := TX5) (N := 5) hx hb hts hin hown hK hP q0 he rfl f hf (va_Nw.use rfl (hG.1 _ hk)) (fun _ h9 => h9) hv hd (k H locs ls hP hD hS hl)
theorem j_put5 (C : Cok X cc own Ts rm N ret) {a index : Nat} {fs : List Value} {v : Value} (q0 : Nat) (he : ws[q0]? = some (a, .inr (5, fs))) (f : Nat) (hf : f < 5) (hin : ∀ w ∈ wsX50, w ∈ Ts) (hk : Cond.fieldLink own index (TX5 f).1 (TX5 f).2.1 (TX5 f).2.2.1 ∈ Ts) (hfin : (TX5 f).2.2.2 = false) {ty : FieldType} (hp : parseFieldDescriptor (TX5 f).2.2.1 = some ty) (hnw : narrow ty v = v) (hft : fits ty v = true) (hlf : f < fs.length) (hw : ws.set q0 (a, .inr (5, fs.set f v)) = ws') (hd : decode cc pc = .ok (.putfield index, 3)) (k : Jt X ws' cn sn (pc + 3) lv rest) : Jt X ws cn sn pc lv (v :: .ref a :: rest) := by
  obtain ⟨G, p, e, R, s, m, args, below, meth, c, Q, A⟩ := X
  obtain ⟨hx, hb, hml, hown, hts, hK, hG, hZ, hA, hlocks, hR, htr, hr⟩ := C
  intro H locs ls hP hD hS hl
  exact va_put (C := RX5) (T := TX5) (N := 5) hx hb hts hin tyX5 tyX5_ok nmX5 hown hK hP hD hS q0 he rfl f hf (hts _ hk) (fun _ h9 => h9) hfin hp hnw hft hlf hd (fun H locs hP hD hS => k H locs ls (by rw [← hw]; exact hP) (by rw [← hw]; exact hD) hS hl)
theorem j_putN5 (C : Cok X cc own Ts rm N ret) {a index : Nat} {fs : List Value} {v : Value} (q0 : Nat) (he : ws[q0]? = some (a, .inr (5, fs))) (f : Nat) (hf : f < 5) (hin : ∀ w ∈ wsX50, w ∈ Ts) {host : String} (hk : Cond.fieldLinkNest own index (TX5 f).1 (TX5 f).2.1 (TX5 f).2.2.1 host ∈ jNest) (hfin : (TX5 f).2.2.2 = false) {ty : FieldType} (hp : parseFieldDescriptor (TX5 f).2.2.1 = some ty) (hnw : narrow ty v = v) (hft : fits ty v = true) (hlf : f < fs.length) (hw : ws.set q0 (a, .inr (5, fs.set f v)) = ws') (hd : decode cc pc = .ok (.putfield index, 3)) (k : Jt X ws' cn sn (pc + 3) lv rest) : Jt X ws cn sn pc lv (v :: .ref a :: rest) := by
  obtain ⟨G, p, e, R, s, m, args, below, meth, c, Q, A⟩ := X
  obtain ⟨hx, hb, hml, hown, hts, hK, hG, hZ, hA, hlocks, hR, htr, hr⟩ := C
  intro H locs ls hP hD hS hl
  exact va_putN (C := RX5) (T := TX5) (N := 5) hx hb hts hin tyX5 tyX5_ok nmX5 hown hK hP hD hS q0 he rfl f hf (va_Nw.use rfl (hG.1 _ hk)) (fun _ h9 => h9) hfin hp hnw hft hlf hd (fun H locs hP hD hS => k H locs ls (by rw [← hw]; exact hP) (by rw [← hw]; exact hD) hS hl)
theorem j_putF5 (C : Cok X cc own Ts rm N ret) (hnm : X.2.2.2.2.2.2.2.2.1.name = "<init>") {a index : Nat} {fs : List Value} {v : Value} (q0 : Nat) (he : ws[q0]? = some (a, .inr (5, fs))) (f : Nat) (hf : f < 5) (hin : ∀ w ∈ wsX50, w ∈ Ts) (hdc : (TX5 f).1 = own) (hk : Cond.fieldLink own index (TX5 f).1 (TX5 f).2.1 (TX5 f).2.2.1 ∈ Ts) (hfin : (TX5 f).2.2.2 = true) {ty : FieldType} (hp : parseFieldDescriptor (TX5 f).2.2.1 = some ty) (hnw : narrow ty v = v) (hft : fits ty v = true) (hlf : f < fs.length) (hw : ws.set q0 (a, .inr (5, fs.set f v)) = ws') (hd : decode cc pc = .ok (.putfield index, 3)) (k : Jt X ws' cn sn (pc + 3) lv rest) : Jt X ws cn sn pc lv (v :: .ref a :: rest) := by
  obtain ⟨G, p, e, R, s, m, args, below, meth, c, Q, A⟩ := X
  obtain ⟨hx, hb, hml, hown, hts, hK, hG, hZ, hA, hlocks, hR, htr, hr⟩ := C
  intro H locs ls hP hD hS hl
  exact va_putF (C := RX5) (T := TX5) (N := 5) hx hb hts hin tyX5 tyX5_ok nmX5 hown hK hP hD hS q0 he rfl f hf (hts _ hk) (fun _ h9 => h9) hfin hnm hdc hp hnw hft hlf hd (fun H locs hP hD hS => k H locs ls (by rw [← hw]; exact hP) (by rw [← hw]; exact hD) hS hl)
theorem j_get6 (C : Cok X cc own Ts rm N ret) {a index : Nat} {fs : List Value} {v : Value} (q0 : Nat) (he : ws[q0]? = some (a, .inr (6, fs))) (f : Nat) (hf : f < 2) (hin : ∀ w ∈ wsX60, w ∈ Ts) (hk : Cond.fieldLink own index (TX6 f).1 (TX6 f).2.1 (TX6 f).2.2.1 ∈ Ts) (hv : fs[f]? = some v) (hd : decode cc pc = .ok (.getfield index, 3)) (k : Jt X ws cn sn (pc + 3) lv (v :: rest)) : Jt X ws cn sn pc lv (.ref a :: rest) := by
  obtain ⟨G, p, e, R, s, m, args, below, meth, c, Q, A⟩ := X
  obtain ⟨hx, hb, hml, hown, hts, hK, hG, hZ, hA, hlocks, hR, htr, hr⟩ := C
  intro H locs ls hP hD hS hl
  exact va_get (C := RX6) (T := TX6) (N := 2) hx hb hts hin hown hK hP q0 he rfl f hf (hts _ hk) (fun _ h9 => h9) hv hd (k H locs ls hP hD hS hl)
theorem j_getN6 (C : Cok X cc own Ts rm N ret) {a index : Nat} {fs : List Value} {v : Value} (q0 : Nat) (he : ws[q0]? = some (a, .inr (6, fs))) (f : Nat) (hf : f < 2) (hin : ∀ w ∈ wsX60, w ∈ Ts) {host : String} (hk : Cond.fieldLinkNest own index (TX6 f).1 (TX6 f).2.1 (TX6 f).2.2.1 host ∈ jNest) (hv : fs[f]? = some v) (hd : decode cc pc = .ok (.getfield index, 3)) (k : Jt X ws cn sn (pc + 3) lv (v :: rest)) : Jt X ws cn sn pc lv (.ref a :: rest) := by
  obtain ⟨G, p, e, R, s, m, args, below, meth, c, Q, A⟩ := X
  obtain ⟨hx, hb, hml, hown, hts, hK, hG, hZ, hA, hlocks, hR, htr, hr⟩ := C
  intro H locs ls hP hD hS hl
  exact va_getN (C := RX6) (T := TX6) (N := 2) hx hb hts hin hown hK hP q0 he rfl f hf (va_Nw.use rfl (hG.1 _ hk)) (fun _ h9 => h9) hv hd (k H locs ls hP hD hS hl)
theorem j_put6 (C : Cok X cc own Ts rm N ret) {a index : Nat} {fs : List Value} {v : Value} (q0 : Nat) (he : ws[q0]? = some (a, .inr (6, fs))) (f : Nat) (hf : f < 2) (hin : ∀ w ∈ wsX60, w ∈ Ts) (hk : Cond.fieldLink own index (TX6 f).1 (TX6 f).2.1 (TX6 f).2.2.1 ∈ Ts) (hfin : (TX6 f).2.2.2 = false) {ty : FieldType} (hp : parseFieldDescriptor (TX6 f).2.2.1 = some ty) (hnw : narrow ty v = v) (hft : fits ty v = true) (hlf : f < fs.length) (hw : ws.set q0 (a, .inr (6, fs.set f v)) = ws') (hd : decode cc pc = .ok (.putfield index, 3)) (k : Jt X ws' cn sn (pc + 3) lv rest) : Jt X ws cn sn pc lv (v :: .ref a :: rest) := by
  obtain ⟨G, p, e, R, s, m, args, below, meth, c, Q, A⟩ := X
  obtain ⟨hx, hb, hml, hown, hts, hK, hG, hZ, hA, hlocks, hR, htr, hr⟩ := C
  intro H locs ls hP hD hS hl
  exact va_put (C := RX6) (T := TX6) (N := 2) hx hb hts hin tyX6 tyX6_ok nmX6 hown hK hP hD hS q0 he rfl f hf (hts _ hk) (fun _ h9 => h9) hfin hp hnw hft hlf hd (fun H locs hP hD hS => k H locs ls (by rw [← hw]; exact hP) (by rw [← hw]; exact hD) hS hl)
theorem j_putN6 (C : Cok X cc own Ts rm N ret) {a index : Nat} {fs : List Value} {v : Value} (q0 : Nat) (he : ws[q0]? = some (a, .inr (6, fs))) (f : Nat) (hf : f < 2) (hin : ∀ w ∈ wsX60, w ∈ Ts) {host : String} (hk : Cond.fieldLinkNest own index (TX6 f).1 (TX6 f).2.1 (TX6 f).2.2.1 host ∈ jNest) (hfin : (TX6 f).2.2.2 = false) {ty : FieldType} (hp : parseFieldDescriptor (TX6 f).2.2.1 = some ty) (hnw : narrow ty v = v) (hft : fits ty v = true) (hlf : f < fs.length) (hw : ws.set q0 (a, .inr (6, fs.set f v)) = ws') (hd : decode cc pc = .ok (.putfield index, 3)) (k : Jt X ws' cn sn (pc + 3) lv rest) : Jt X ws cn sn pc lv (v :: .ref a :: rest) := by
  obtain ⟨G, p, e, R, s, m, args, below, meth, c, Q, A⟩ := X
  obtain ⟨hx, hb, hml, hown, hts, hK, hG, hZ, hA, hlocks, hR, htr, hr⟩ := C
  intro H locs ls hP hD hS hl
  exact va_putN (C := RX6) (T := TX6) (N := 2) hx hb hts hin tyX6 tyX6_ok nmX6 hown hK hP hD hS q0 he rfl f hf (va_Nw.use rfl (hG.1 _ hk)) (fun _ h9 => h9) hfin hp hnw hft hlf hd (fun H locs hP hD hS => k H locs ls (by rw [← hw]; exact hP) (by rw [← hw]; exact hD) hS hl)
theorem j_putF6 (C : Cok X cc own Ts rm N ret) (hnm : X.2.2.2.2.2.2.2.2.1.name = "<init>") {a index : Nat} {fs : List Value} {v : Value} (q0 : Nat) (he : ws[q0]? = some (a, .inr (6, fs))) (f : Nat) (hf : f < 2) (hin : ∀ w ∈ wsX60, w ∈ Ts) (hdc : (TX6 f).1 = own) (hk : Cond.fieldLink own index (TX6 f).1 (TX6 f).2.1 (TX6 f).2.2.1 ∈ Ts) (hfin : (TX6 f).2.2.2 = true) {ty : FieldType} (hp : parseFieldDescriptor (TX6 f).2.2.1 = some ty) (hnw : narrow ty v = v) (hft : fits ty v = true) (hlf : f < fs.length) (hw : ws.set q0 (a, .inr (6, fs.set f v)) = ws') (hd : decode cc pc = .ok (.putfield index, 3)) (k : Jt X ws' cn sn (pc + 3) lv rest) : Jt X ws cn sn pc lv (v :: .ref a :: rest) := by
  obtain ⟨G, p, e, R, s, m, args, below, meth, c, Q, A⟩ := X
  obtain ⟨hx, hb, hml, hown, hts, hK, hG, hZ, hA, hlocks, hR, htr, hr⟩ := C
  intro H locs ls hP hD hS hl
  exact va_putF (C := RX6) (T := TX6) (N := 2) hx hb hts hin tyX6 tyX6_ok nmX6 hown hK hP hD hS q0 he rfl f hf (hts _ hk) (fun _ h9 => h9) hfin hnm hdc hp hnw hft hlf hd (fun H locs hP hD hS => k H locs ls (by rw [← hw]; exact hP) (by rw [← hw]; exact hD) hS hl)
theorem j_get7 (C : Cok X cc own Ts rm N ret) {a index : Nat} {fs : List Value} {v : Value} (q0 : Nat) (he : ws[q0]? = some (a, .inr (7, fs))) (f : Nat) (hf : f < 8) (hin : ∀ w ∈ wsX70, w ∈ Ts) (hk : Cond.fieldLink own index (TX7 f).1 (TX7 f).2.1 (TX7 f).2.2.1 ∈ Ts) (hv : fs[f]? = some v) (hd : decode cc pc = .ok (.getfield index, 3)) (k : Jt X ws cn sn (pc + 3) lv (v :: rest)) : Jt X ws cn sn pc lv (.ref a :: rest) := by
  obtain ⟨G, p, e, R, s, m, args, below, meth, c, Q, A⟩ := X
  obtain ⟨hx, hb, hml, hown, hts, hK, hG, hZ, hA, hlocks, hR, htr, hr⟩ := C
  intro H locs ls hP hD hS hl
  exact va_get (C := RX7) (T := TX7) (N := 8) hx hb hts hin hown hK hP q0 he rfl f hf (hts _ hk) (fun _ h9 => h9) hv hd (k H locs ls hP hD hS hl)
theorem j_getN7 (C : Cok X cc own Ts rm N ret) {a index : Nat} {fs : List Value} {v : Value} (q0 : Nat) (he : ws[q0]? = some (a, .inr (7, fs))) (f : Nat) (hf : f < 8) (hin : ∀ w ∈ wsX70, w ∈ Ts) {host : String} (hk : Cond.fieldLinkNest own index (TX7 f).1 (TX7 f).2.1 (TX7 f).2.2.1 host ∈ jNest) (hv : fs[f]? = some v) (hd : decode cc pc = .ok (.getfield index, 3)) (k : Jt X ws cn sn (pc + 3) lv (v :: rest)) : Jt X ws cn sn pc lv (.ref a :: rest) := by
  obtain ⟨G, p, e, R, s, m, args, below, meth, c, Q, A⟩ := X
  obtain ⟨hx, hb, hml, hown, hts, hK, hG, hZ, hA, hlocks, hR, htr, hr⟩ := C
  intro H locs ls hP hD hS hl
  exact va_getN (C := RX7) (T := TX7) (N := 8) hx hb hts hin hown hK hP q0 he rfl f hf (va_Nw.use rfl (hG.1 _ hk)) (fun _ h9 => h9) hv hd (k H locs ls hP hD hS hl)
theorem j_put7 (C : Cok X cc own Ts rm N ret) {a index : Nat} {fs : List Value} {v : Value} (q0 : Nat) (he : ws[q0]? = some (a, .inr (7, fs))) (f : Nat) (hf : f < 8) (hin : ∀ w ∈ wsX70, w ∈ Ts) (hk : Cond.fieldLink own index (TX7 f).1 (TX7 f).2.1 (TX7 f).2.2.1 ∈ Ts) (hfin : (TX7 f).2.2.2 = false) {ty : FieldType} (hp : parseFieldDescriptor (TX7 f).2.2.1 = some ty) (hnw : narrow ty v = v) (hft : fits ty v = true) (hlf : f < fs.length) (hw : ws.set q0 (a, .inr (7, fs.set f v)) = ws') (hd : decode cc pc = .ok (.putfield index, 3)) (k : Jt X ws' cn sn (pc + 3) lv rest) : Jt X ws cn sn pc lv (v :: .ref a :: rest) := by
  obtain ⟨G, p, e, R, s, m, args, below, meth, c, Q, A⟩ := X
  obtain ⟨hx, hb, hml, hown, hts, hK, hG, hZ, hA, hlocks, hR, htr, hr⟩ := C
  intro H locs ls hP hD hS hl
  exact va_put (C := RX7) (T := TX7) (N := 8) hx hb hts hin tyX7 tyX7_ok nmX7 hown hK hP hD hS q0 he rfl f hf (hts _ hk) (fun _ h9 => h9) hfin hp hnw hft hlf hd (fun H locs hP hD hS => k H locs ls (by rw [← hw]; exact hP) (by rw [← hw]; exact hD) hS hl)
theorem j_putN7 (C : Cok X cc own Ts rm N ret) {a index : Nat} {fs : List Value} {v : Value} (q0 : Nat) (he : ws[q0]? = some (a, .inr (7, fs))) (f : Nat) (hf : f < 8) (hin : ∀ w ∈ wsX70, w ∈ Ts) {host : String} (hk : Cond.fieldLinkNest own index (TX7 f).1 (TX7 f).2.1 (TX7 f).2.2.1 host ∈ jNest) (hfin : (TX7 f).2.2.2 = false) {ty : FieldType} (hp : parseFieldDescriptor (TX7 f).2.2.1 = some ty) (hnw : narrow ty v = v) (hft : fits ty v = true) (hlf : f < fs.length) (hw : ws.set q0 (a, .inr (7, fs.set f v)) = ws') (hd : decode cc pc = .ok (.putfield index, 3)) (k : Jt X ws' cn sn (pc + 3) lv rest) : Jt X ws cn sn pc lv (v :: .ref a :: rest) := by
  obtain ⟨G, p, e, R, s, m, args, below, meth, c, Q, A⟩ := X
  obtain ⟨hx, hb, hml, hown, hts, hK, hG, hZ, hA, hlocks, hR, htr, hr⟩ := C
  intro H locs ls hP hD hS hl
  exact va_putN (C := RX7) (T := TX7) (N := 8) hx hb hts hin tyX7 tyX7_ok nmX7 hown hK hP hD hS q0 he rfl f hf (va_Nw.use rfl (hG.1 _ hk)) (fun _ h9 => h9) hfin hp hnw hft hlf hd (fun H locs hP hD hS => k H locs ls (by rw [← hw]; exact hP) (by rw [← hw]; exact hD) hS hl)
theorem j_putF7 (C : Cok X cc own Ts rm N ret) (hnm : X.2.2.2.2.2.2.2.2.1.name = "<init>") {a index : Nat} {fs : List Value} {v : Value} (q0 : Nat) (he : ws[q0]? = some (a, .inr (7, fs))) (f : Nat) (hf : f < 8) (hin : ∀ w ∈ wsX70, w ∈ Ts) (hdc : (TX7 f).1 = own) (hk : Cond.fieldLink own index (TX7 f).1 (TX7 f).2.1 (TX7 f).2.2.1 ∈ Ts) (hfin : (TX7 f).2.2.2 = true) {ty : FieldType} (hp : parseFieldDescriptor (TX7 f).2.2.1 = some ty) (hnw : narrow ty v = v) (hft : fits ty v = true) (hlf : f < fs.length) (hw : ws.set q0 (a, .inr (7, fs.set f v)) = ws') (hd : decode cc pc = .ok (.putfield index, 3)) (k : Jt X ws' cn sn (pc + 3) lv rest) : Jt X ws cn sn pc lv (v :: .ref a :: rest) := by
  obtain ⟨G, p, e, R, s, m, args, below, meth, c, Q, A⟩ := X
  obtain ⟨hx, hb, hml, hown, hts, hK, hG, hZ, hA, hlocks, hR, htr, hr⟩ := C
  intro H locs ls hP hD hS hl
  exact va_putF (C := RX7) (T := TX7) (N := 8) hx hb hts hin tyX7 tyX7_ok nmX7 hown hK hP hD hS q0 he rfl f hf (hts _ hk) (fun _ h9 => h9) hfin hnm hdc hp hnw hft hlf hd (fun H locs hP hD hS => k H locs ls (by rw [← hw]; exact hP) (by rw [← hw]; exact hD) hS hl)
theorem j_get8 (C : Cok X cc own Ts rm N ret) {a index : Nat} {fs : List Value} {v : Value} (q0 : Nat) (he : ws[q0]? = some (a, .inr (8, fs))) (f : Nat) (hf : f < 12) (hin : ∀ w ∈ wsX80, w ∈ Ts) (hk : Cond.fieldLink own index (TX8 f).1 (TX8 f).2.1 (TX8 f).2.2.1 ∈ Ts) (hv : fs[f]? = some v) (hd : decode cc pc = .ok (.getfield index, 3)) (k : Jt X ws cn sn (pc + 3) lv (v :: rest)) : Jt X ws cn sn pc lv (.ref a :: rest) := by
  obtain ⟨G, p, e, R, s, m, args, below, meth, c, Q, A⟩ := X
  obtain ⟨hx, hb, hml, hown, hts, hK, hG, hZ, hA, hlocks, hR, htr, hr⟩ := C
  intro H locs ls hP hD hS hl
  exact va_get (C := RX8) (T := TX8) (N := 12) hx hb hts hin hown hK hP q0 he rfl f hf (hts _ hk) (fun _ h9 => h9) hv hd (k H locs ls hP hD hS hl)
theorem j_getN8 (C : Cok X cc own Ts rm N ret) {a index : Nat} {fs : List Value} {v : Value} (q0 : Nat) (he : ws[q0]? = some (a, .inr (8, fs))) (f : Nat) (hf : f < 12) (hin : ∀ w ∈ wsX80, w ∈ Ts) {host : String} (hk : Cond.fieldLinkNest own index (TX8 f).1 (TX8 f).2.1 (TX8 f).2.2.1 host ∈ jNest) (hv : fs[f]? = some v) (hd : decode cc pc = .ok (.getfield index, 3)) (k : Jt X ws cn sn (pc + 3) lv (v :: rest)) : Jt X ws cn sn pc lv (.ref a :: rest) := by
  obtain ⟨G, p, e, R, s, m, args, below, meth, c, Q, A⟩ := X
  obtain ⟨hx, hb, hml, hown, hts, hK, hG, hZ, hA, hlocks, hR, htr, hr⟩ := C
  intro H locs ls hP hD hS hl
  exact va_getN (C := RX8) (T := TX8) (N := 12) hx hb hts hin hown hK hP q0 he rfl f hf (va_Nw.use rfl (hG.1 _ hk)) (fun _ h9 => h9) hv hd (k H locs ls hP hD hS hl)
theorem j_put8 (C : Cok X cc own Ts rm N ret) {a index : Nat} {fs : List Value} {v : Value} (q0 : Nat) (he : ws[q0]? = some (a, .inr (8, fs))) (f : Nat) (hf : f < 12) (hin : ∀ w ∈ wsX80, w ∈ Ts) (hk : Cond.fieldLink own index (TX8 f).1 (TX8 f).2.1 (TX8 f).2.2.1 ∈ Ts) (hfin : (TX8 f).2.2.2 = false) {ty : FieldType} (hp : parseFieldDescriptor (TX8 f).2.2.1 = some ty) (hnw : narrow ty v = v) (hft : fits ty v = true) (hlf : f < fs.length) (hw : ws.set q0 (a, .inr (8, fs.set f v)) = ws') (hd : decode cc pc = .ok (.putfield index, 3)) (k : Jt X ws' cn sn (pc + 3) lv rest) : Jt X ws cn sn pc lv (v :: .ref a :: rest) := by
  obtain ⟨G, p, e, R, s, m, args, below, meth, c, Q, A⟩ := X
  obtain ⟨hx, hb, hml, hown, hts, hK, hG, hZ, hA, hlocks, hR, htr, hr⟩ := C
  intro H locs ls hP hD hS hl
  exact va_put (C := RX8) (T := TX8) (N := 12) hx hb hts hin tyX8 tyX8_ok nmX8 hown hK hP hD hS q0 he rfl f hf (hts _ hk) (fun _ h9 => h9) hfin hp hnw hft hlf hd (fun H locs hP hD hS => k H locs ls (by rw [← hw]; exact hP) (by rw [← hw]; exact hD) hS hl)
theorem j_putN8 (C : Cok X cc own Ts rm N ret) {a index : Nat} {fs : List Value} {v : Value} (q0 : Nat) (he : ws[q0]? = some (a, .inr (8, fs))) (f : Nat) (hf : f < 12) (hin : ∀ w ∈ wsX80, w ∈ Ts) {host : String} (hk : Cond.fieldLinkNest own index (TX8 f).1 (TX8 f).2.1 (TX8 f).2.2.1 host ∈ jNest) (hfin : (TX8 f).2.2.2 = false) {ty : FieldType} (hp : parseFieldDescriptor (TX8 f).2.2.1 = some ty) (hnw : narrow ty v = v) (hft : fits ty v = true) (hlf : f < fs.length) (hw : ws.set q0 (a, .inr (8, fs.set f v)) = ws') (hd : decode cc pc = .ok (.putfield index, 3)) (k : Jt X ws' cn sn (pc + 3) lv rest) : Jt X ws cn sn pc lv (v :: .ref a :: rest) := by
  obtain ⟨G, p, e, R, s, m, args, below, meth, c, Q, A⟩ := X
  obtain ⟨hx, hb, hml, hown, hts, hK, hG, hZ, hA, hlocks, hR, htr, hr⟩ := C
  intro H locs ls hP hD hS hl
  exact va_putN (C := RX8) (T := TX8) (N := 12) hx hb hts hin tyX8 tyX8_ok nmX8 hown hK hP hD hS q0 he rfl f hf (va_Nw.use rfl (hG.1 _ hk)) (fun _ h9 => h9) hfin hp hnw hft hlf hd (fun H locs hP hD hS => k H locs ls (by rw [← hw]; exact hP) (by rw [← hw]; exact hD) hS hl)
theorem j_putF8 (C : Cok X cc own Ts rm N ret) (hnm : X.2.2.2.2.2.2.2.2.1.name = "<init>") {a index : Nat} {fs : List Value} {v : Value} (q0 : Nat) (he : ws[q0]? = some (a, .inr (8, fs))) (f : Nat) (hf : f < 12) (hin : ∀ w ∈ wsX80, w ∈ Ts) (hdc : (TX8 f).1 = own) (hk : Cond.fieldLink own index (TX8 f).1 (TX8 f).2.1 (TX8 f).2.2.1 ∈ Ts) (hfin : (TX8 f).2.2.2 = true) {ty : FieldType} (hp : parseFieldDescriptor (TX8 f).2.2.1 = some ty) (hnw : narrow ty v = v) (hft : fits ty v = true) (hlf : f < fs.length) (hw : ws.set q0 (a, .inr (8, fs.set f v)) = ws') (hd : decode cc pc = .ok (.putfield index, 3)) (k : Jt X ws' cn sn (pc + 3) lv rest) : Jt X ws cn sn pc lv (v :: .ref a :: rest) := by
  obtain ⟨G, p, e, R, s, m, args, below, meth, c, Q, A⟩ := X
  obtain ⟨hx, hb, hml, hown, hts, hK, hG, hZ, hA, hlocks, hR, htr, hr⟩ := C
  intro H locs ls hP hD hS hl
  exact va_putF (C := RX8) (T := TX8) (N := 12) hx hb hts hin tyX8 tyX8_ok nmX8 hown hK hP hD hS q0 he rfl f hf (hts _ hk) (fun _ h9 => h9) hfin hnm hdc hp hnw hft hlf hd (fun H locs hP hD hS => k H locs ls (by rw [← hw]; exact hP) (by rw [← hw]; exact hD) hS hl)
theorem j_iald (C : Cok X cc own Ts rm N ret) {a n : Nat} {f : Nat → Int32} {i : Int32} (q0 : Nat) (ha : ws[q0]? = some (a, .inl (gI X.1, n, .inl f))) (hin : vp_in i n) (hd : decode cc pc = .ok (.iaload, 1)) (k : Jt X ws cn sn (pc + 1) lv (.int (f i.toNatClampNeg) :: rest)) : Jt X ws cn sn pc lv (.int i :: .ref a :: rest) := by
  obtain ⟨G, p, e, R, s, m, args, below, meth, c, Q, A⟩ := X
  obtain ⟨hx, hb, hml, hown, hts, hK, hG, hZ, hA, hlocks, hR, htr, hr⟩ := C
  intro H locs ls hP hD hS hl
  exact va_iald hx hb hK hP q0 0 ha rfl hin hd (k H locs ls hP hD hS hl)
theorem j_lald (C : Cok X cc own Ts rm N ret) {a n : Nat} {f : Nat → Int64} {i : Int32} (q0 : Nat) (ha : ws[q0]? = some (a, .inl (gJ X.1, n, .inr (.inl f)))) (hin : vp_in i n) (hd : decode cc pc = .ok (.laload, 1)) (k : Jt X ws cn sn (pc + 1) lv (.long (f i.toNatClampNeg) :: rest)) : Jt X ws cn sn pc lv (.int i :: .ref a :: rest) := by
  obtain ⟨G, p, e, R, s, m, args, below, meth, c, Q, A⟩ := X
  obtain ⟨hx, hb, hml, hown, hts, hK, hG, hZ, hA, hlocks, hR, htr, hr⟩ := C
  intro H locs ls hP hD hS hl
  exact va_lald hx hb hK hP q0 1 ha rfl hin hd (k H locs ls hP hD hS hl)
theorem j_alen (C : Cok X cc own Ts rm N ret) {a : Nat} {y : vp_A} {v : Int32} (q0 : Nat) (ha : ws[q0]? = some (a, .inl (gI X.1, y))) (hv : Int32.ofNat y.1 = v) (hd : decode cc pc = .ok (.arraylength, 1)) (k : Jt X ws cn sn (pc + 1) lv (.int v :: rest)) : Jt X ws cn sn pc lv (.ref a :: rest) := by
  obtain ⟨G, p, e, R, s, m, args, below, meth, c, Q, A⟩ := X
  obtain ⟨hx, hb, hml, hown, hts, hK, hG, hZ, hA, hlocks, hR, htr, hr⟩ := C
  intro H locs ls hP hD hS hl
  exact va_alen hx hb hK hP q0 0 ha rfl hv hd (k H locs ls hP hD hS hl)
theorem j_alenO (C : Cok X cc own Ts rm N ret) {a : Nat} {y : vp_A} {v : Int32} (q0 : Nat) (ha : ws[q0]? = some (a, .inl (gO X.1, y))) (hv : Int32.ofNat y.1 = v) (hd : decode cc pc = .ok (.arraylength, 1)) (k : Jt X ws cn sn (pc + 1) lv (.int v :: rest)) : Jt X ws cn sn pc lv (.ref a :: rest) := by
  obtain ⟨G, p, e, R, s, m, args, below, meth, c, Q, A⟩ := X
  obtain ⟨hx, hb, hml, hown, hts, hK, hG, hZ, hA, hlocks, hR, htr, hr⟩ := C
  intro H locs ls hP hD hS hl
  exact va_alen hx hb hK hP q0 2 ha rfl hv hd (k H locs ls hP hD hS hl)
theorem j_iast (C : Cok X cc own Ts rm N ret) {a n : Nat} {f : Nat → Int32} {i x : Int32} (q0 : Nat) (ha : ws[q0]? = some (a, .inl (gI X.1, n, .inl f))) (hin : vp_in i n) (hw : ws.set q0 (a, .inl (gI X.1, n, .inl (upd f i.toNatClampNeg x))) = ws') (hd : decode cc pc = .ok (.iastore, 1)) (k : Jt X ws' cn sn (pc + 1) lv rest) : Jt X ws cn sn pc lv (.int x :: .int i :: .ref a :: rest) := by
  obtain ⟨G, p, e, R, s, m, args, below, meth, c, Q, A⟩ := X
  obtain ⟨hx, hb, hml, hown, hts, hK, hG, hZ, hA, hlocks, hR, htr, hr⟩ := C
  intro H locs ls hP hD hS hl
  exact va_iast hx hb hK hP hD hS q0 0 ha rfl hin hd (fun H locs hP hD hS => k H locs ls (by rw [← hw]; exact hP) (by rw [← hw]; exact hD) hS hl)
theorem j_last (C : Cok X cc own Ts rm N ret) {a n : Nat} {f : Nat → Int64} {i : Int32} {x : Int64} (q0 : Nat) (ha : ws[q0]? = some (a, .inl (gJ X.1, n, .inr (.inl f)))) (hin : vp_in i n) (hw : ws.set q0 (a, .inl (gJ X.1, n, .inr (.inl (vp_updL f i.toNatClampNeg x)))) = ws') (hd : decode cc pc = .ok (.lastore, 1)) (k : Jt X ws' cn sn (pc + 1) lv rest) : Jt X ws cn sn pc lv (.long x :: .int i :: .ref a :: rest) := by
  obtain ⟨G, p, e, R, s, m, args, below, meth, c, Q, A⟩ := X
  obtain ⟨hx, hb, hml, hown, hts, hK, hG, hZ, hA, hlocks, hR, htr, hr⟩ := C
  intro H locs ls hP hD hS hl
  exact va_last hx hb hK hP hD hS q0 1 ha rfl hin hd (fun H locs hP hD hS => k H locs ls (by rw [← hw]; exact hP) (by rw [← hw]; exact hD) hS hl)
theorem j_copy (C : Cok X cc own Ts rm N ret) {index a a0 n0 n1 : Nat} {f g : Nat → Int32} {n : Int32} (q0 q1 : Nat) (ha0 : ws[q0]? = some (a0, .inl (gI X.1, n0, .inl f))) (ha1 : ws[q1]? = some (a, .inl (gI X.1, n1, .inl g))) (h3 : ¬ n < 0) (h4 : n.toNatClampNeg ≤ n0) (h5 : n.toNatClampNeg ≤ n1) (hk : Cond.methodLink own index arraycopyName ∈ Ts) (hna : Cond.native arraycopyName ∈ Ts) (hsa : Cond.static arraycopyName ∈ Ts) (hia : Cond.initialized "java/lang/System" ∈ Ts) (hfr : 1 ≤ rm.frames) (hlo : (rest.map fun v => v.category).sum + (nativeFrameWords "java/lang/System" "arraycopy" 5 + 11) ≤ rm.locals) (hw : ws.set q1 (a, .inl (gI X.1, n1, .inl (va_cpy f g 0 0 n.toNatClampNeg))) = ws') (hd : decode cc pc = .ok (.invokestatic index, 3)) (k : Jt X ws' cn sn (pc + 3) lv rest) : Jt X ws cn sn pc lv (.int n :: .int 0 :: .ref a :: .int 0 :: .ref a0 :: rest) := by
  obtain ⟨G, p, e, R, s, m, args, below, meth, c, Q, A⟩ := X
  obtain ⟨hx, hb, hml, hown, hts, hK, hG, hZ, hA, hlocks, hR, htr, hr⟩ := C
  intro H locs ls hP hD hS hl
  exact va_copyi hx hb hl.1.symm hown (hts _ hk) (hts _ hna) (hts _ hsa) (hts _ hia) hK hP hD hS q0 q1 0 0 (ty := .int) ha0 ha1 rfl rfl rfl (by decide) (by decide) h3 (by rw [show (0 : Int32).toNatClampNeg = 0 from rfl, Nat.zero_add]; exact h4) (by rw [show (0 : Int32).toNatClampNeg = 0 from rfl, Nat.zero_add]; exact h5) (fun _ _ => rfl) (by rw [hR]; exact hfr) (by rw [hR]; exact hlo) hd (fun H locs hP hD hS => k H locs ls (by rw [← hw]; exact hP) (by rw [← hw]; exact hD) hS hl)
theorem j_iret (C : Cok X cc own Ts rm N ret) {fin : jFin} {mc ms : Nat} (hQ : Rok X fin mc ms) {v : Int32} (hrt : ret = some .int) (hd : decode cc pc = .ok (.ireturn, 1)) (hc : cn ≤ mc) (hs : sn ≤ ms) (hf : fin (.inl (some (.int v))) ws) : Jt X ws cn sn pc lv [.int v] := by
  obtain ⟨G, p, e, R, s, m, args, below, meth, c, Q, A⟩ := X
  obtain ⟨hx, hb, hml, hown, hts, hK, hG, hZ, hA, hlocks, hR, htr, hr⟩ := C
  intro H locs ls hP hD hS hl
  have hQ : Q = vx_MQ below (jQc G A fin) (jXC G A fin) args s mc ms A := hQ
  subst hQ
  exact vx_ret (W.widen hc hs (W.iret hx hb (hr.trans hrt) (fun t ht hW => ⟨⟨_, ws, rfl, hf, by rw [ht]; exact hP, va_K.moved hW.alike hK, hD⟩, hS.F ht⟩) hS.2.2 hd hlocks))
theorem j_zret (C : Cok X cc own Ts rm N ret) {fin : jFin} {mc ms : Nat} (hQ : Rok X fin mc ms) {v : Int32} (hrt : ret = some .boolean) (hnw : narrow .boolean (.int v) = .int v) (hd : decode cc pc = .ok (.ireturn, 1)) (hc : cn ≤ mc) (hs : sn ≤ ms) (hf : fin (.inl (some (.int v))) ws) : Jt X ws cn sn pc lv [.int v] := by
  obtain ⟨G, p, e, R, s, m, args, below, meth, c, Q, A⟩ := X
  obtain ⟨hx, hb, hml, hown, hts, hK, hG, hZ, hA, hlocks, hR, htr, hr⟩ := C
  intro H locs ls hP hD hS hl
  have hQ : Q = vx_MQ below (jQc G A fin) (jXC G A fin) args s mc ms A := hQ
  subst hQ
  exact vx_ret (W.widen hc hs (W.zret hx hb (hr.trans hrt) hnw (fun t ht hW => ⟨⟨_, ws, rfl, hf, by rw [ht]; exact hP, va_K.moved hW.alike hK, hD⟩, hS.F ht⟩) hS.2.2 hd hlocks))
theorem j_lret (C : Cok X cc own Ts rm N ret) {fin : jFin} {mc ms : Nat} (hQ : Rok X fin mc ms) {v : Int64} (hrt : ret = some .long) (hd : decode cc pc = .ok (.lreturn, 1)) (hc : cn ≤ mc) (hs : sn ≤ ms) (hf : fin (.inl (some (.long v))) ws) : Jt X ws cn sn pc lv [.long v] := by
  obtain ⟨G, p, e, R, s, m, args, below, meth, c, Q, A⟩ := X
  obtain ⟨hx, hb, hml, hown, hts, hK, hG, hZ, hA, hlocks, hR, htr, hr⟩ := C
  intro H locs ls hP hD hS hl
  have hQ : Q = vx_MQ below (jQc G A fin) (jXC G A fin) args s mc ms A := hQ
  subst hQ
  exact vx_ret (W.widen hc hs (W.lret hx hb (hr.trans hrt) (fun t ht hW => ⟨⟨_, ws, rfl, hf, by rw [ht]; exact hP, va_K.moved hW.alike hK, hD⟩, hS.F ht⟩) hS.2.2 hd hlocks))
theorem j_dret (C : Cok X cc own Ts rm N ret) {fin : jFin} {mc ms : Nat} (hQ : Rok X fin mc ms) {v : UInt64} (hrt : ret = some .double) (hd : decode cc pc = .ok (.dreturn, 1)) (hc : cn ≤ mc) (hs : sn ≤ ms) (hf : fin (.inl (some (.double v))) ws) : Jt X ws cn sn pc lv [.double v] := by
  obtain ⟨G, p, e, R, s, m, args, below, meth, c, Q, A⟩ := X
  obtain ⟨hx, hb, hml, hown, hts, hK, hG, hZ, hA, hlocks, hR, htr, hr⟩ := C
  intro H locs ls hP hD hS hl
  have hQ : Q = vx_MQ below (jQc G A fin) (jXC G A fin) args s mc ms A := hQ
  subst hQ
  exact vx_ret (W.widen hc hs (W.dret hx hb (hr.trans hrt) (fun t ht hW => ⟨⟨_, ws, rfl, hf, by rw [ht]; exact hP, va_K.moved hW.alike hK, hD⟩, hS.F ht⟩) hS.2.2 hd hlocks))
theorem j_vret (C : Cok X cc own Ts rm N ret) {fin : jFin} {mc ms : Nat} (hQ : Rok X fin mc ms) (hrt : ret = none) (hd : decode cc pc = .ok (.return_, 1)) (hc : cn ≤ mc) (hs : sn ≤ ms) (hf : fin (.inl none) ws) : Jt X ws cn sn pc lv [] := by
  obtain ⟨G, p, e, R, s, m, args, below, meth, c, Q, A⟩ := X
  obtain ⟨hx, hb, hml, hown, hts, hK, hG, hZ, hA, hlocks, hR, htr, hr⟩ := C
  intro H locs ls hP hD hS hl
  have hQ : Q = vx_MQ below (jQc G A fin) (jXC G A fin) args s mc ms A := hQ
  subst hQ
  exact vx_ret (W.widen hc hs (W.vret hx hb (hr.trans hrt) (fun t ht hW => ⟨⟨_, ws, rfl, hf, by rw [ht]; exact hP, va_K.moved hW.alike hK, hD⟩, hS.F ht⟩) hS.2.2 hd hlocks))
theorem j_aret (C : Cok X cc own Ts rm N ret) {fin : jFin} {mc ms : Nat} (hQ : Rok X fin mc ms) {v : Nat} {cN : String} (hrt : ret = some (.object cN)) (hd : decode cc pc = .ok (.areturn, 1)) (hc : cn ≤ mc) (hs : sn ≤ ms) (hf : fin (.inl (some (.ref v))) ws) : Jt X ws cn sn pc lv [.ref v] := by
  obtain ⟨G, p, e, R, s, m, args, below, meth, c, Q, A⟩ := X
  obtain ⟨hx, hb, hml, hown, hts, hK, hG, hZ, hA, hlocks, hR, htr, hr⟩ := C
  intro H locs ls hP hD hS hl
  have hQ : Q = vx_MQ below (jQc G A fin) (jXC G A fin) args s mc ms A := hQ
  subst hQ
  exact vx_ret (W.widen hc hs (W.aret hx hb (hr.trans hrt) (Or.inl ⟨_, rfl⟩) (Or.inr ⟨_, rfl⟩) (fun t ht hW => ⟨⟨_, ws, rfl, hf, by rw [ht]; exact hP, va_K.moved hW.alike hK, hD⟩, hS.F ht⟩) hS.2.2 hd hlocks))
/-- what a call needs to know of the callee, whoever calls -/
def Cf (y : MethodName) (wy : List Cond) (rmy : Room) (bytes : ByteArray) (maxL : Nat) (rt : Option FieldType) (n : Nat) : Prop := (∃ wy', wy = Cond.code y bytes maxL rt :: wy') ∧ y.cls ≠ "java/lang/invoke/MethodHandle" ∧ y.cls ≠ "java/lang/invoke/VarHandle" ∧ (parseMethodDescriptor y.desc).map (fun d => d.parameters.length) = some n
theorem jpre {G : CG} {p : Program} {e : Env} {s : State} {H : Heap} {locs : List Loc} {A : Nat → Prop} {av : List Value} {ws wc : va_W} (hK : va_K (gD G) vwCl (gT G) s) (hG : jGF G s) (hZ : jZ A s s.heap) (hS : va_S A s.heap H locs) (hPc : va_P (gD G) vwCl wc H) (hDc : va_D A wc) (hFc : ∀ q, va_A wc H.size q → A q) : ∀ U : State, U.heap = H → s.WarmedH U.vm → jPc G av wc H.size av.toArray U := by
  intro U hU hW
  have z : ∀ {C n d : String}, vx_Zq C n d A s s.heap → vx_Zq C n d (va_A wc H.size) U U.heap := fun h => by
    rw [hU]
    exact vx_Zq.moved hW.alike (vx_Zq.narrow (vx_Zq.kept h (fun a h1 h2 => hS.2.1 a h1 h2)) hFc)
  exact ⟨rfl, by rw [hU], by rw [hU]; exact hPc, va_K.moved hW.alike hK, hDc.weaken (fun _ _ _ _ => trivial), jGF.warm hW hG, z hZ.1, z hZ.2⟩
theorem jrun {G : CG} {p : Program} {e : Env} {R : Room} {s : State} {m : MethodId} {args : Array Value} {below : List Frame} {meth : Method} {c : Code} {Q : State → Prop} {A : Nat → Prop} {H : Heap} {locs : List Loc} {ls : Array Slot} {av : Array Value} {wc wr : va_W} {fin : jFin} {mc ms : Nat} {isC isR : List Nat}
    (hP : va_P (gD G) vwCl ws H) (hD : va_D A ws) (hS : va_S A s.heap H locs) (hA : ∀ q, s.heap.size ≤ q → A q)
    (hC : isC.map (fun i => ws[i]?) = wc.map some) (hR2 : isR.map (fun i => ws[i]?) = wr.map some) (hnR : va_nd isR = true) (hdis : isR.all (fun i => !isC.contains i) = true)
    (hr : va_Run p (gL G) e R s m args below meth c H locs cn sn mc ms (F0 m pc ls st) rest (jQc G (va_A wc H.size) fin av) (va_A wc H.size))
    (k : ∀ (v : Option Value) (w1 : va_W) (H1 : Heap) (locs1 : List Loc), fin (.inl v) w1 → va_P (gD G) vwCl (wr ++ w1) H1 → va_D A (wr ++ w1) → va_S A s.heap H1 locs1 → W p (gL G) e R s m args below meth c H1 locs1 (cn + mc) (sn + ms) Q (F0 m (pc + 3) ls (v.toList ++ rest))) : W p (gL G) e R s m args below meth c H locs cn sn Q (F0 m pc ls st) := by
  have hFc := va_free (wc := wc) hD hS hA isC hC
  intro T hT X
  obtain ⟨v, st₀, t, T', L, h0, X', hL, e1, e2, ⟨⟨v', w1, hv, hfin, hP1, hK1, hD1⟩, hz, hk⟩, stp⟩ := hr T hT X
  cases hv
  rw [h0] at hz hk
  have hk' : ∀ q : Nat, q < H.size → ¬ va_A wc H.size q → T'.heap[q]? = H[q]? := fun q h1 h2 => by rw [e1]; exact hk q h1 h2
  obtain ⟨hP2, hD2⟩ := va_join (wr := wr) (w1 := w1) hP hD isC isR hC hR2 hnR (fun i hi hj => by
    have := List.all_eq_true.mp hdis i hi
    simp [hj] at this) hk' hFc (by rw [e1]; exact hP1) hD1
  obtain ⟨t2, a1, b1⟩ := k v w1 T'.heap (locs ++ L) hfin hP2 hD2
    ⟨Nat.le_trans hS.1 (by rw [e1]; exact hz), fun q h1 h2 => by rw [hk' q (Nat.lt_of_lt_of_le h1 hS.1) (fun z => h2 (hFc q z))]; exact hS.2.1 q h1 h2, fun q hq => by
      rcases List.mem_append.mp hq with h | h
      · exact hS.2.2 q h
      · exact hFc _ (hL q h)⟩ T' rfl X'
  exact ⟨t2, stp t2 a1, b1⟩
theorem jsubP {D : va_G} {cl : List vw_C} {H : Heap} {wc : va_W} (hP : va_P D cl ws H) (isC : List Nat) (hC : isC.map (fun i => ws[i]?) = wc.map some) : va_P D cl wc H := by
  refine hP.sub isC ?_
  have h1 : ∀ (l : List Nat) (v : va_W), l.map (fun i => ws[i]?) = v.map some → l.filterMap (fun i => ws[i]?) = v := by
    intro l
    induction l with
    | nil => intro v hv; cases v with
      | nil => rfl
      | cons a v => cases hv
    | cons i l ih => intro v hv; cases v with
      | nil => cases hv
      | cons a v =>
        simp only [List.map_cons, List.cons.injEq] at hv
        rw [List.filterMap_cons, hv.1]
        exact congrArg _ (ih v hv.2)
  exact h1 isC wc hC
theorem j_callV (C : Cok X cc own Ts rm N ret) {y : MethodName} {wy : List Cond} {rmy : Room} {bytes : ByteArray} {maxL n index mc ms : Nat} {rt : Option FieldType} {wc wr : va_W} {fin : jFin} {b : Nat} {As : List Value} (hc : Ct X.1 y wy rmy (.ref b :: As) wc fin mc ms) (hne : ∀ E w, ¬ fin (.inr E) w) (hcf : Cf y wy rmy bytes maxL rt n) {Cn : String} (hg : GoodIn Ts (wsV own index Cn y wy)) (hcn : y.cls = Cn) {ci q0 : Nat} {T : u_T} {Nn : Nat} {fs : List Value} (hcl : vwCl[ci]? = some (Cn, T, Nn)) (hrv : wc[q0]? = some (b, .inr (ci, fs))) (hn : As.length = n) (hst : st = As.reverse ++ .ref b :: rest) (hd : decode cc pc = .ok (.invokevirtual index, 3)) (isC isR : List Nat) (hC : isC.map (fun i => ws[i]?) = wc.map some) (hR2 : isR.map (fun i => ws[i]?) = wr.map some) (hnd : (va_nd isC && va_nd isR && isR.all (fun i => !isC.contains i)) = true) (hrm : rmy.frames + 1 ≤ rm.frames ∧ 8 + (maxL + 11) + rmy.locals ≤ rm.locals ∧ rmy.cells = mc ∧ rmy.slots = ms ∧ cn + mc ≤ rm.cells ∧ sn + ms ≤ rm.slots) (hcat : (rest.map fun v => v.category).sum ≤ 8) (k : ∀ v w1, fin (.inl v) w1 → Jt X (wr ++ w1) (cn + mc) (sn + ms) (pc + 3) lv (v.toList ++ rest)) : Jt X ws cn sn pc lv st := by
  obtain ⟨G, p, e, R, s, m, args, below, meth, c, Q, A⟩ := X
  obtain ⟨hx, hb, hml, hown, hts, hK, hG, hZ, hA, hlocks, rfl, htr, hr⟩ := C
  intro H locs ls hP hD hS hl
  simp only [Bool.and_eq_true] at hnd
  obtain ⟨⟨⟨wy', hwy⟩, hy1, hy2, hy3⟩, hm1, hm2, hm3, hm4, hm5, hm6⟩ := And.intro hcf hrm
  subst hst
  have hDc := hD.sub isC hnd.1.1 hC
  have hPc : va_P (gD G) vwCl wc H := jsubP hP isC hC
  have hFc := va_free (wc := wc) hD hS hA isC hC
  exact jrun hP hD hS hA hC hR2 hnd.1.2 hnd.2 (va_runV (As := As) (rest := rest) ⟨hx, hb, hml, hown, hts⟩ (hc.met hne H.size) (cwV n hts hg hwy hm3 hm4 ⟨hcn, hy1, hy2, hy3⟩ ⟨hm1, hm2⟩) ⟨jPc.blind, va_recv hK hPc hcl hrv, jpre (p := p) (e := e) (ws := ws) hK hG hZ hS hPc hDc hFc⟩ rfl hn (hl.1.trans hml) rfl (lv_room hcat) hd ⟨hm5, hm6⟩) (fun v w1 H1 locs1 hfin hP1 hD1 hS1 => k v w1 hfin H1 locs1 ls hP1 hD1 hS1 hl)
theorem j_callS (C : Cok X cc own Ts rm N ret) {y : MethodName} {wy : List Cond} {rmy : Room} {bytes : ByteArray} {maxL n index mc ms : Nat} {rt : Option FieldType} {wc wr : va_W} {fin : jFin} {As : List Value} (hc : Ct X.1 y wy rmy As wc fin mc ms) (hne : ∀ E w, ¬ fin (.inr E) w) (hcf : Cf y wy rmy bytes maxL rt n) (hg : GoodIn Ts (va_wsS own index y wy)) (hn : As.length = n) (hst : st = As.reverse ++ rest) (hd : decode cc pc = .ok (.invokestatic index, 3)) (isC isR : List Nat) (hC : isC.map (fun i => ws[i]?) = wc.map some) (hR2 : isR.map (fun i => ws[i]?) = wr.map some) (hnd : (va_nd isC && va_nd isR && isR.all (fun i => !isC.contains i)) = true) (hrm : rmy.frames + 1 ≤ rm.frames ∧ 8 + (maxL + 11) + rmy.locals ≤ rm.locals ∧ rmy.cells = mc ∧ rmy.slots = ms ∧ cn + mc ≤ rm.cells ∧ sn + ms ≤ rm.slots) (hcat : (rest.map fun v => v.category).sum ≤ 8) (k : ∀ v w1, fin (.inl v) w1 → Jt X (wr ++ w1) (cn + mc) (sn + ms) (pc + 3) lv (v.toList ++ rest)) : Jt X ws cn sn pc lv st := by
  obtain ⟨G, p, e, R, s, m, args, below, meth, c, Q, A⟩ := X
  obtain ⟨hx, hb, hml, hown, hts, hK, hG, hZ, hA, hlocks, rfl, htr, hr⟩ := C
  intro H locs ls hP hD hS hl
  simp only [Bool.and_eq_true] at hnd
  obtain ⟨⟨⟨wy', hwy⟩, hy1, hy2, hy3⟩, hm1, hm2, hm3, hm4, hm5, hm6⟩ := And.intro hcf hrm
  subst hst
  have hDc := hD.sub isC hnd.1.1 hC
  have hPc : va_P (gD G) vwCl wc H := jsubP hP isC hC
  have hFc := va_free (wc := wc) hD hS hA isC hC
  have ok : ∀ w ∈ va_wsS own index y wy, w.before args s = true := fun w h => hts w (hg w h).1
  exact jrun hP hD hS hA hC hR2 hnd.1.2 hnd.2 (va_runS (As := As) (rest := rest) ⟨hx, hb, hml, hown, hts⟩ (hc.met hne H.size) ⟨callB_of n hts (fun w h => hg w (by unfold va_wsS; exact List.mem_append_right _ h)) hwy hm3 hm4 (ok _ (by simp [va_wsS])) (ok _ (by simp [va_wsS])) ⟨hy1, hy2, hy3⟩ ⟨hm1, hm2⟩, ok _ (by simp [va_wsS])⟩ ⟨jPc.blind, jpre (p := p) (e := e) (ws := ws) hK hG hZ hS hPc hDc hFc⟩ rfl hn (hl.1.trans hml) rfl (lv_room hcat) hd ⟨hm5, hm6⟩) (fun v w1 H1 locs1 hfin hP1 hD1 hS1 => k v w1 hfin H1 locs1 ls hP1 hD1 hS1 hl)
theorem j_callN (C : Cok X cc own Ts rm N ret) {y : MethodName} {wy : List Cond} {rmy : Room} {bytes : ByteArray} {maxL n index mc ms : Nat} {rt : Option FieldType} {wc wr : va_W} {fin : jFin} {host : String} {As : List Value} (hc : Ct X.1 y wy rmy As wc fin mc ms) (hne : ∀ E w, ¬ fin (.inr E) w) (hcf : Cf y wy rmy bytes maxL rt n) (hg : GoodIn Ts wy) (hnw : Cond.methodLinkNest own index y host ∈ jNest) (hini : Cond.initialized y.cls ∈ Ts) (hsta : Cond.static y ∈ Ts) (hn : As.length = n) (hst : st = As.reverse ++ rest) (hd : decode cc pc = .ok (.invokestatic index, 3)) (isC isR : List Nat) (hC : isC.map (fun i => ws[i]?) = wc.map some) (hR2 : isR.map (fun i => ws[i]?) = wr.map some) (hnd : (va_nd isC && va_nd isR && isR.all (fun i => !isC.contains i)) = true) (hrm : rmy.frames + 1 ≤ rm.frames ∧ 8 + (maxL + 11) + rmy.locals ≤ rm.locals ∧ rmy.cells = mc ∧ rmy.slots = ms ∧ cn + mc ≤ rm.cells ∧ sn + ms ≤ rm.slots) (hcat : (rest.map fun v => v.category).sum ≤ 8) (k : ∀ v w1, fin (.inl v) w1 → Jt X (wr ++ w1) (cn + mc) (sn + ms) (pc + 3) lv (v.toList ++ rest)) : Jt X ws cn sn pc lv st := by
  obtain ⟨G, p, e, R, s, m, args, below, meth, c, Q, A⟩ := X
  obtain ⟨hx, hb, hml, hown, hts, hK, hG, hZ, hA, hlocks, rfl, htr, hr⟩ := C
  intro H locs ls hP hD hS hl
  simp only [Bool.and_eq_true] at hnd
  obtain ⟨⟨⟨wy', hwy⟩, hy1, hy2, hy3⟩, hm1, hm2, hm3, hm4, hm5, hm6⟩ := And.intro hcf hrm
  subst hst
  have hDc := hD.sub isC hnd.1.1 hC
  have hPc : va_P (gD G) vwCl wc H := jsubP hP isC hC
  have hFc := va_free (wc := wc) hD hS hA isC hC
  exact jrun hP hD hS hA hC hR2 hnd.1.2 hnd.2 (va_runSN (host := host) (As := As) (rest := rest) ⟨hx, hb, hml, hown, hts⟩ (hc.met hne H.size) ⟨va_cnB n hts hg hwy hm3 hm4 (hG.1 _ hnw) (hts _ hini) ⟨hy1, hy2, hy3⟩ ⟨hm1, hm2⟩, hts _ hsta, trivial⟩ ⟨jPc.blind, jpre (p := p) (e := e) (ws := ws) hK hG hZ hS hPc hDc hFc⟩ rfl hn (hl.1.trans hml) rfl (lv_room hcat) hd ⟨hm5, hm6⟩) (fun v w1 H1 locs1 hfin hP1 hD1 hS1 => k v w1 hfin H1 locs1 ls hP1 hD1 hS1 hl)
end JL
