section ENUM
variable {p : Program} {l : Launch} {e : Env} {R : Room} {s : State} {sargs : Array Value} {below : List Frame}
/-- a callee that is walked, not taken by a contract: for a method whose class bears no word on its initialization -/
theorem backWalk {y : MethodName} {len Wt : Nat} {ws : List Cond} {rm : Room} {Pc : Array Value → State → Prop} {Qc : Array Value → State → Outcome → State → Prop} {mc ms : Nat} {free : Addr → Prop} {cc : ByteArray} {maxL : Nat} {ret : Option FieldType}
    (hy : plainName y.cls = true) (hblind : FrameBlind Pc) (hrc : rm.cells = mc) (hrs : rm.slots = ms) (hframes : rm.frames + 1 ≤ R.frames) (hlocals : Wt + (maxL + 11) + rm.locals ≤ R.locals)
    (hws : ∀ w ∈ ws, ∀ (a' : Array Value) (U : State), s.WarmedH U.vm → w.before a' U = true) (hcode : Cond.code y cc maxL ret ∈ ws)
    (k : ∀ (s' : State) (mk : MethodId) (a : Array Value) (below' : List Frame) (meth' : Method) (c' : Code), s'.methodNamed? y = some mk → s'.vm.method? mk = some meth' → c'.code = cc → meth'.sig.returnType = ret → c'.maxLocals = maxL → meth'.locks = false → (∀ w ∈ ws, w.before a s' = true) → Pc a s' → W p l e rm s' mk a below' meth' c' s'.heap [] 0 0 (MQ below' Qc a s' mc ms free) (entryFrame mk a maxL)) :
    Back l R p e below s sargs y len Wt (PreOf R mc ms Pc) (PostOf Qc mc ms free) := by
  intro m meth c A g ig mk a X hg hsize hdg hW hn hp
  obtain ⟨U, Ls, c0, s0⟩ := A
  obtain ⟨hp1, hp2, hP⟩ := hp
  dsimp only [Pt.U, Pt.locs, Pt.cells, Pt.slots] at hp1 hp2 hP X hn ⊢
  obtain ⟨methY, cY, hmY, hcY, hbY, hlY, hrY, hkY, -, -⟩ := Cond.code_spec hn (hws _ hcode a U X.warmed)
  have hfull := X.notFull (g := g) hsize (vars := cY.maxLocals) (by omega) (by rw [hlY]; omega)
  have hroom := X.room_calling (g := g) (R' := rm) (args' := a) hsize hmY hcY hframes (by rw [hlY]; omega) (by omega) (by omega)
  have hpl : U.plainMethod mk := by
    refine State.plainMethod.of_name ?_
    intro k0 hk0
    obtain ⟨k1, hk1, hn1⟩ := className_of_methodNamed hn
    cases hk0.symm.trans hk1
    rw [hn1]; exact hy
  have h : At U g.method c below := by rw [hg]; exact X.here
  have hf : (U.calling g mk a).frames = .invoking mk a :: .java g :: U.frames.tail := State.frames_calling h.top g mk a
  have h1 := h.enter a hmY hcY hpl
  have hcur := State.cur_lt_of_frames hf
  have hs1 : (U.setTop g).pushFrame (.java (entryFrame mk a cY.maxLocals)) = (U.calling g mk a).setFrames (.java (entryFrame mk a cY.maxLocals) :: .java g :: U.frames.tail) := by
    rw [State.calling_eq h.top, State.setFrames_setFrames]
    obtain ⟨g₀, hg0⟩ := Option.isSome_iff_exists.mp h.top
    obtain ⟨r, hr⟩ := State.topJava?_eq_some.mp hg0
    rw [State.pushFrame, State.frames_setTop _ hr, State.setTop_of_frames _ hr, State.setFrames_setFrames, hr]
    rfl
  have hf1 := frames_entered (g := g) h.top (.java (entryFrame mk a cY.maxLocals))
  have hAt : At ((U.setTop g).pushFrame (.java (entryFrame mk a cY.maxLocals))) mk cY (.java g :: U.frames.tail) :=
    ⟨h1.top, ⟨[], by rw [hf1]; rfl⟩, h1.running, h1.runnable, h1.alone, h1.code, h1.plain⟩
  have hcode' : (U.calling g mk a).code? g.method = some c := by
    have h2 := h.code
    rw [State.code?_eq] at h2 ⊢
    simpa [State.calling, State.pushFrame, State.setFrames] using h2
  have hhears : (U.calling g mk a).hears mk (.java g :: U.frames.tail) = true := by simp [State.hears, hcode', hdg, Except.toOption]
  have hvm : (U.calling g mk a).vm = U.vm := rfl
  have hX' : Stand p l e rm (U.calling g mk a) mk a (.java g :: U.frames.tail) methY cY ((U.setTop g).pushFrame (.java (entryFrame mk a cY.maxLocals))) [] 0 0 := by
    obtain ⟨t, ht, -⟩ := State.frames_cons hf
    refine ⟨X.admits, X.cas, X.clock, hf, hroom, hhears, hmY, hcY, hAt, by rw [hf1]; rfl, State.WarmedH.refl (U.calling g mk a), by rw [hs1, State.stackLimits_setFrames], by rw [hs1, State.stackBytes_setFrames], ?_⟩
    have h2 := (State.sameButNew.refl (U.calling g mk a) ht).setFrames (.java (entryFrame mk a cY.maxLocals) :: .java g :: U.frames.tail) hcur
    rw [hs1]
    exact h2
  have hW0 : s.WarmedH (U.calling g mk a).vm := X.warmed
  have hn' : (U.calling g mk a).methodNamed? y = some mk := hn
  obtain ⟨t, a1, o, b1, b2, hq, L, hfe, hL⟩ := k (U.calling g mk a) mk a (.java g :: U.frames.tail) methY cY hn' hmY hbY hrY hlY hkY (fun w hw => hws w hw a _ hW0) (hblind _ _ _ _ hP) ((U.setTop g).pushFrame (.java (entryFrame mk a cY.maxLocals))) rfl hX'
  obtain ⟨mid, hmid⟩ := h.above
  have hsteps : Steps p.tables e below (doInvoke e (U.setTop g) [] mk a).1 t := by
    rw [doInvoke_enter h.top [] hmY hcY hkY hfull]
    rw [← hlY] at a1
    obtain ⟨n0, hn0, w0⟩ := a1
    refine ⟨n0, hn0, fun j hj => ?_⟩
    have h2 := w0 j hj
    rw [show (Frame.java g :: U.frames.tail) = (.java g :: mid) ++ below by rw [hmid]; rfl] at h2
    exact h2.weaken
  obtain ⟨⟨v, rfl⟩, hW₂, e2, q2, q3, q4, q5, q6⟩ := id hfe
  obtain ⟨c₂, i₂, len₂, hc₂, hd₂, hf₂⟩ := b2
  have hW' : U.WarmedH t.vm := hW₂
  have hcc : c₂ = c := by
    have h2 : t.code? g.method = U.code? g.method := by
      rw [State.code?_eq, State.code?_eq, hW'.alike.method?]
    exact Option.some.inj (hc₂.symm.trans (h2.trans h.code))
  subst hcc
  have hlen : len₂ = len := by rw [hdg] at hd₂; cases hd₂; rfl
  subst hlen
  have e3 : t = ({ (U.calling g mk a).setFrames t.frames with heap := t.heap, slotsUsed := t.slotsUsed } : State).setVm t.vm := by
    have h2 : t = ({ t with vm := (U.calling g mk a).vm } : State).setVm t.vm := rfl
    rw [e2] at h2
    exact h2
  obtain ⟨g₀, hg0⟩ := Option.isSome_iff_exists.mp h.top
  obtain ⟨r, hr⟩ := State.topJava?_eq_some.mp hg0
  have ht : t = (({ U with heap := t.heap, slotsUsed := t.slotsUsed } : State).setVm t.vm).setTop { g with pc := g.pc + len₂, stack := v.toList ++ g.stack } := by
    have hr' : (({ U with heap := t.heap, slotsUsed := t.slotsUsed } : State).setVm t.vm).frames = .java g₀ :: r := hr
    refine e3.trans ?_
    rw [hf₂, State.calling_eq h.top, State.setFrames_setFrames, State.setTop_of_frames _ hr', hr]
    rfl
  have hsame : U.sameButNew ({ U with heap := t.heap, slotsUsed := t.slotsUsed } : State) L mc ms := by
    refine ⟨?_, q2, q3, q4, q5, q6⟩
    obtain ⟨t0, ht0, -⟩ := State.frames_cons hr
    show ({ U with heap := t.heap, slotsUsed := t.slotsUsed } : State) = { U.setFrames U.frames with heap := t.heap, slotsUsed := t.slotsUsed }
    rw [State.setFrames_self ht0]
  subst hg
  refine ⟨v, ⟨(({ U with heap := t.heap, slotsUsed := t.slotsUsed } : State).setVm t.vm), Ls ++ L, c0 + mc, s0 + ms⟩,
    ⟨X.admits, X.cas, X.clock, X.frames, X.room, X.hears, X.method, X.code, (X.here.setHeapUsed t.heap t.slotsUsed).setVm hW'.alike, X.tail, State.WarmedH.trans X.warmed hW', X.limits, X.bytes, X.same.trans (hsame.setVm s.vm)⟩,
    ⟨g, mk, t, L, rfl, rfl, hq, rfl, hL, rfl, rfl⟩, ?_⟩
  show Steps p.tables e below _ ((({ U with heap := t.heap, slotsUsed := t.slotsUsed } : State).setVm t.vm).setTop { g with pc := g.pc + len₂, stack := v.toList ++ g.stack })
  rw [← ht]
  exact hsteps
theorem mkB {y : MethodName} {own : String} {cc : ByteArray} {maxL : Nat} {ret : Option FieldType} {wsl : List Cond} {rm : Room} {av : List Value} {D : va_G} {T : List (ClassId × FieldType)} {ws : va_W} {sz Wt len : Nat} {X : State → Prop} (Qc : (Nat → Prop) → Array Value → State → Outcome → State → Prop) {mc ms : Nat} {lv : List (Nat × Value)} (hx : p.tables.exec = Jvm.exec) (hy : plainName y.cls = true) (hw : Cond.code y cc maxL ret ∈ wsl) (ho : y.cls = own) (hsl : (lg_sl av).length ≤ maxL) (hlv : lv_args 0 av = lv)
    (hblind : FrameBlind (va_Pc av (wPre D T ws sz X))) (hrc : rm.cells = mc) (hrs : rm.slots = ms) (hframes : rm.frames + 1 ≤ R.frames) (hlocals : Wt + (maxL + 11) + rm.locals ≤ R.locals)
    (hws : ∀ w ∈ wsl, ∀ (a' : Array Value) (U : State), s.WarmedH U.vm → w.before a' U = true)
    (k : ∀ (s : State) (m : MethodId) (below : List Frame) (meth : Method) (c : Code) (A : Nat → Prop) (ls : Array Slot), p.tables.exec = Jvm.exec → c.code = cc → meth.sig.returnType = ret → (∀ w ∈ wsl, w.before av.toArray s = true) → s.vm.findClass own = some m.cls → c.maxLocals = maxL → meth.locks = false → va_P D vwCl ws s.heap → va_K D vwCl T s → va_D A ws → va_S A s.heap s.heap [] → (∀ q : Nat, s.heap.size ≤ q → A q) → A = va_A ws sz → s.heap.size = sz → X s → lv_has ls maxL lv → W p l e rm s m av.toArray below meth c s.heap [] 0 0 (MQ below (Qc A) av.toArray s mc ms A) (F0 m 0 ls [])) : Back l R p e below s sargs y len Wt (PreOf R mc ms (va_Pc av (wPre D T ws sz X))) (PostOf (Qc (va_A ws sz)) mc ms (va_A ws sz)) := by
  refine backWalk hy hblind hrc hrs hframes hlocals hws hw ?_
  intro s' mk a below' meth' c' hn hm hb hr hml hlk hts hv
  obtain ⟨rfl, hsz, ⟨hP, hK, hD0⟩, hX⟩ := hv
  have hown : s'.vm.findClass own = some mk.cls := by rw [← ho]; exact findClass_of_methodNamed hn
  have hl := lv_entry av (n := maxL) hsl
  rw [hlv] at hl
  rw [lg_entry_eq]
  have hD : va_D (va_A ws sz) ws := hD0.self
  exact k s' mk below' meth' c' (va_A ws sz) _ hx hb hr hts hown hml hlk hP hK hD va_S.rf (fun q h => Or.inr (by rw [← hsz]; exact h)) rfl hsz hX hl
variable {m : MethodId} {args : Array Value} {meth : Method} {c : Code} {H : Heap} {locs : List Loc} {cells slots : Nat}
theorem runW {x y : MethodName} {bytes cc : ByteArray} {maxL nL mc ms n index : Nat} {ret : Option FieldType} {ws ws' : List Cond} {Pc : Array Value → State → Prop} {Qc : Array Value → State → Outcome → State → Prop} {free : Addr → Prop} {Ts : List Cond} {own C owner : String} {b : Addr} {As rest : List Value} {g : JFrame}
    (S : CallFix p m c cc nL s args Ts own) (hK : Back l R p e below s args y 3 8 (PreOf R mc ms Pc) (PostOf Qc mc ms free)) (hT : GoodIn Ts (([.methodLink own index x, .sameMethod x.cls owner x.name x.desc, .selects C x y, .instanceMethod y] : List Cond) ++ ws)) (hw : ws = Cond.code y bytes maxL ret :: ws')
    (hyx : y = ⟨owner, x.name, x.desc⟩) (hd : owner ≠ "java/lang/invoke/MethodHandle" ∧ owner ≠ "java/lang/invoke/VarHandle" ∧ (parseMethodDescriptor x.desc).map (fun d => d.parameters.length) = some n) (hp : PreV s H C b Pc As)
    (hg : g.method = m) (hn : As.length = n) (hsize : g.locals.size = nL) (hstack : g.stack = As.reverse ++ .ref b :: rest) (hW : 2 * g.monitorRoom + (rest.map fun v => v.category).sum ≤ 8) (hdg : decode cc g.pc = .ok (.invokevirtual index, 3)) (hf : cells + mc ≤ R.cells ∧ slots + ms ≤ R.slots) :
    va_Run p l e R s m args below meth c H locs cells slots mc ms g rest (Qc (Value.ref b :: As).toArray) free := by
  obtain ⟨hx, hb, hml, ho, ht⟩ := S
  have ok : ∀ w ∈ (([.methodLink own index x, .sameMethod x.cls owner x.name x.desc, .selects C x y, .instanceMethod y] : List Cond) ++ ws), w.before args s = true := fun w h => ht w (hT w h).1
  have hc : (Cond.code y bytes maxL ret).before args s = true := ok _ (by rw [hw]; simp)
  have hdecl : va_Decl s ⟨owner, x.name, x.desc⟩ := by rw [← hyx]; exact va_Decl.of (ok (.instanceMethod y) (by simp)) hc
  obtain ⟨-, ⟨cellB, hcB, hoB, hclB⟩, hPc⟩ := hp
  intro T hT0 X
  obtain ⟨v, vm₁, ⟨U', l2, c2, s2⟩, hW₁, X', ⟨g', mk, t, L, e1, e2, hq, h1, hL, h2, h3⟩, st⟩ := va_callVU X hx (C := C) (owner := owner) (x := x) (bytes := bytes) (maxL := maxL) (ret := ret) ho (ok (.methodLink own index x) (by simp)) (ok (.sameMethod x.cls owner x.name x.desc) (by simp)) hdecl ⟨hd.1, hd.2.1⟩ (ok (.selects C x y) (by simp)) (ok (.instanceMethod y) (by simp)) hc hK (by rw [hT0]; exact hcB) hoB hclB hg (hsize.trans hml.symm) (argsL := As) (rest := rest)
    (fun sig h => by
      have h4 := hd.2.2
      rw [h] at h4
      exact hn.trans (Option.some.inj h4).symm) hstack hW (by rw [hb]; exact hdg)
    (fun vm₁ hW₁ => ⟨hf.1, hf.2, hPc (T.setVm vm₁) hT0 hW₁⟩)
  dsimp only [Pt.U, Pt.locs, Pt.cells, Pt.slots] at X' e1 e2 h1 h2 h3 st
  subst h1; subst h2; subst h3
  exact ⟨v, (T.setVm vm₁).calling g' mk (Value.ref b :: As).toArray, t, U', L, hT0, X', hL, e1, e2, hq, st⟩
end ENUM
