/-! MY OWN BASE: starts, ends and calls of methods, each in one row. -/
/-- 0 or 1 -/
def bi (b : Bool) : Int32 := if b then 1 else 0
theorem bi_z {b : Bool} (h : bi b = 0) : ¬ b = true := by
  cases b with
  | false => decide
  | true => exact absurd h (by decide)
theorem bi_o {b : Bool} (h : ¬ bi b = 0) : b = true := by
  cases b with
  | false => exact absurd rfl h
  | true => rfl
theorem bi_nar (b : Bool) : narrow .boolean (.int (bi b)) = .int (bi b) := by cases b <;> rfl
/-- a world in a state -/
def wB (D : va_G) (T : List (ClassId × FieldType)) (A : Nat → Prop) (ws : va_W) (t : State) : Prop := va_P D vwCl ws t.heap ∧ va_K D vwCl T t ∧ va_D A ws
/-- a method's start -/
def wPre (D : va_G) (T : List (ClassId × FieldType)) (ws : va_W) (sz : Nat) (X : State → Prop) : State → Prop := fun U => U.heap.size = sz ∧ wB D T (fun _ => True) ws U ∧ X U
theorem wPre_blind {D : va_G} {T : List (ClassId × FieldType)} {ws : va_W} {sz : Nat} {X : State → Prop} {av : List Value} (hX : ∀ (U : State) (g : JFrame) (mk : MethodId) (a : Array Value), X U → X (U.calling g mk a)) : FrameBlind (va_Pc av (wPre D T ws sz X)) := fun a U g mk q => by
  obtain ⟨q0, q1, ⟨qP, qK, qD⟩, qX⟩ := q
  exact ⟨q0, q1, ⟨qP, va_K.moved (u := U) (U := U.calling g mk a) (Vm.Alike.refl U.vm) qK, qD⟩, hX U g mk a qX⟩
/-- what a world of a state says besides: nothing -/
abbrev X0 : State → Prop := fun _ => True
theorem X0_blind : ∀ (U : State) (g : JFrame) (mk : MethodId) (a : Array Value), X0 U → X0 (U.calling g mk a) := fun _ _ _ _ h => h
/-- cells put back at their places -/
def wput : va_W → List Nat → va_W → va_W
  | ws, i :: is, x :: xs => wput (ws.set i x) is xs
  | ws, _, _ => ws
theorem wput_fst : ∀ (is : List Nat) (xs ws : va_W), is.map (fun i => (ws.map Prod.fst)[i]?) = (xs.map Prod.fst).map some → (wput ws is xs).map Prod.fst = ws.map Prod.fst := by
  intro is
  induction is with
  | nil =>
    intro xs ws h
    cases xs <;> rfl
  | cons i is ih =>
    intro xs ws h
    cases xs with
    | nil => rfl
    | cons x xs =>
      have h' := List.cons.inj h
      have e : (ws.set i x).map Prod.fst = ws.map Prod.fst := by
        rw [List.map_set]
        apply List.ext_getElem?
        intro k
        rw [List.getElem?_set]
        by_cases hk : i = k
        · subst hk
          rw [if_pos rfl]
          by_cases hl : i < (ws.map Prod.fst).length
          · rw [if_pos hl]
            exact h'.1.symm
          · rw [if_neg hl]
            exact (List.getElem?_eq_none (by omega)).symm
        · rw [if_neg hk]
      show (wput (ws.set i x) is xs).map Prod.fst = _
      rw [ih xs (ws.set i x) (by rw [e]; exact h'.2), e]
theorem wput_at {D : va_G} {cl : List vw_C} {H : Heap} : ∀ (is : List Nat) (xs ws : va_W), is.length = xs.length → (∀ (k : Nat) (q : Nat × va_E), ws[k]? = some q → k ∉ is → va_at D cl q H) → (∀ x ∈ xs, va_at D cl x H) → va_P D cl (wput ws is xs) H := by
  intro is
  induction is with
  | nil =>
    intro xs ws hl h1 h2
    have e : wput ws [] xs = ws := by cases xs <;> rfl
    rw [e]
    exact fun k q hq => h1 k q hq List.not_mem_nil
  | cons i is ih =>
    intro xs ws hl h1 h2
    cases xs with
    | nil => cases hl
    | cons x xs =>
      refine ih xs (ws.set i x) (Nat.succ.inj hl) (fun k q hq hk => ?_) (fun y hy => h2 y (List.mem_cons_of_mem _ hy))
      rw [List.getElem?_set] at hq
      by_cases hik : i = k
      · rw [if_pos hik] at hq
        by_cases hlt : i < ws.length
        · rw [if_pos hlt] at hq
          cases hq
          exact h2 x List.mem_cons_self
        · rw [if_neg hlt] at hq
          cases hq
      · rw [if_neg hik] at hq
        refine h1 k q hq (fun hm => ?_)
        rcases List.mem_cons.mp hm with e | e
        · exact hik e.symm
        · exact hk e
theorem va_D_fst {A : Nat → Prop} {ws ws' : va_W} (h : va_D A ws) (e : ws'.map Prod.fst = ws.map Prod.fst) : va_D A ws' := by
  have g : ∀ (k : Nat) (q : Nat × va_E), ws'[k]? = some q → ∃ q' : Nat × va_E, ws[k]? = some q' ∧ q'.1 = q.1 := by
    intro k q hq
    have h1 : (ws'.map Prod.fst)[k]? = some q.1 := by rw [List.getElem?_map, hq]; rfl
    rw [e, List.getElem?_map] at h1
    cases hk : ws[k]? with
    | none => rw [hk] at h1; cases h1
    | some q' => rw [hk] at h1; exact ⟨q', rfl, Option.some.inj h1⟩
  refine ⟨fun i j p q hi hj hpq => ?_, fun k q hq => ?_⟩
  · obtain ⟨p', h1, h2⟩ := g i p hi
    obtain ⟨q', h3, h4⟩ := g j q hj
    exact h.1 i j p' q' h1 h3 (by rw [h2, h4, hpq])
  · obtain ⟨q', h1, h2⟩ := g k q hq
    rw [← h2]
    exact h.2 k q' h1
theorem va_at_keep {D : va_G} {cl : List vw_C} {ws : va_W} {H H1 : Heap} (hP : va_P D cl ws H) (q : Nat × va_E) (k : Nat) (hq : ws[k]? = some q) (e : H1[q.1]? = H[q.1]?) : va_at D cl q H1 := (hP k q hq).kept e
/-- behind a call: what came back, at its places -/
theorem wput_join {A0 : Nat → Prop} {D : va_G} {cl : List vw_C} {ws wc w1 : va_W} {H H1 : Heap} (hP : va_P D cl ws H) (hD : va_D A0 ws) (isC : List Nat) (hC : isC.map (fun i => ws[i]?) = wc.map some) (hfst : w1.map Prod.fst = wc.map Prod.fst)
    (hk : ∀ q : Nat, q < H.size → ¬ va_A wc H.size q → H1[q]? = H[q]?) (hP1 : va_P D cl w1 H1) : va_P D cl (wput ws isC w1) H1 ∧ va_D A0 (wput ws isC w1) := by
  have hlen : isC.length = wc.length := by
    have := congrArg List.length hC
    rwa [List.length_map, List.length_map] at this
  have hlen1 : w1.length = wc.length := by
    have := congrArg List.length hfst
    rwa [List.length_map, List.length_map] at this
  constructor
  · refine wput_at isC w1 ws (by omega) (fun k q hq hn => ?_) (fun x hx => ?_)
    · refine va_at_keep hP q k hq (hk q.1 (hP k q hq).lt (fun hA => ?_))
      rcases hA with ⟨j, e, hj⟩ | hge
      · have h1 : (isC.map (fun i => ws[i]?))[j]? = some (some (q.1, e)) := by rw [hC, List.getElem?_map, hj]; rfl
        rw [List.getElem?_map] at h1
        cases hi : isC[j]? with
        | none => rw [hi] at h1; cases h1
        | some i =>
          rw [hi] at h1
          have h2 : ws[i]? = some (q.1, e) := Option.some.inj h1
          have h3 := hD.1 k i q (q.1, e) hq h2 rfl
          rw [h3] at hn
          exact hn (List.mem_of_getElem? hi)
      · exact absurd (hP k q hq).lt (Nat.not_lt.mpr hge)
    · obtain ⟨k, hk'⟩ := List.getElem?_of_mem hx
      exact hP1 k x hk'
  · refine va_D_fst hD (wput_fst isC w1 ws ?_)
    rw [hfst]
    apply List.ext_getElem?
    intro k
    rw [List.getElem?_map, List.getElem?_map, List.getElem?_map]
    have h1 : (isC.map (fun i => ws[i]?))[k]? = (wc.map some)[k]? := by rw [hC]
    rw [List.getElem?_map, List.getElem?_map] at h1
    cases hi : isC[k]? with
    | none =>
      rw [hi] at h1
      cases hw : wc[k]? with
      | none => rfl
      | some z => rw [hw] at h1; cases h1
    | some i =>
      rw [hi] at h1
      cases hw : wc[k]? with
      | none => rw [hw] at h1; cases h1
      | some z =>
        rw [hw] at h1
        have h2 : ws[i]? = some z := Option.some.inj h1
        show some ((ws.map Prod.fst)[i]?) = some (some z.1)
        rw [List.getElem?_map, h2]
        rfl
/-- behind a call of a method that has no world -/
theorem va_P_far {D : va_G} {cl : List vw_C} {ws : va_W} {H H1 : Heap} (hP : va_P D cl ws H) (hk : ∀ q : Nat, q < H.size → ¬ va_A [] H.size q → H1[q]? = H[q]?) : va_P D cl ws H1 := fun k q hq => by
  refine va_at_keep hP q k hq (hk q.1 (hP k q hq).lt (fun hA => ?_))
  rcases hA with ⟨j, e, hj⟩ | hge
  · cases hj
  · exact absurd (hP k q hq).lt (Nat.not_lt.mpr hge)

/-- the nest's words: calls of the outer class's own methods, an enum's own fields -/
def wN (U : State) : Prop := va_Nw (.methodLinkNest RX4 23 yX8_isWithin RX8) U ∧ va_Nw (.methodLinkNest RX5 50 yX8_isWithin RX8) U ∧ va_Nw (.methodLinkNest RX5 66 yX8_isCell RX8) U ∧ va_Nw (.methodLinkNest RX5 89 yX8_isTime RX8) U ∧ va_Nw (.fieldLinkNest RX4 38 RX7 "word" "Ljava/lang/String;" RX8) U ∧ va_Nw (.fieldLinkNest RX4 49 RX7 "numbers" "I" RX8) U
theorem wN_warm {s U : State} (hW : s.WarmedH U.vm) (h : wN s) : wN U := ⟨h.1.warmM hW, h.2.1.warmM hW, h.2.2.1.warmM hW, h.2.2.2.1.warmM hW, h.2.2.2.2.1.warmF hW, h.2.2.2.2.2.warmF hW⟩
theorem wN_blind : ∀ (U : State) (g : JFrame) (mk : MethodId) (a : Array Value), wN U → wN (U.calling g mk a) := fun U g mk a h => ⟨va_Nw.same rfl rfl h.1, va_Nw.same rfl rfl h.2.1, va_Nw.same rfl rfl h.2.2.1, va_Nw.same rfl rfl h.2.2.2.1, va_Nw.same rfl rfl h.2.2.2.2.1, va_Nw.same rfl rfl h.2.2.2.2.2⟩
abbrev qI {S : Type} (D : va_G) (T : List (ClassId × FieldType)) (post : Int32 → S → Prop) (B : S → va_W) (A : Nat → Prop) : Array Value → State → Outcome → State → Prop := va_Qi post (fun u t => wB D T A (B u) t) A
abbrev qF {S : Type} (D : va_G) (T : List (ClassId × FieldType)) (post : UInt32 → S → Prop) (B : S → va_W) (A : Nat → Prop) : Array Value → State → Outcome → State → Prop := va_Qf post (fun u t => wB D T A (B u) t) A
abbrev qL {S : Type} (D : va_G) (T : List (ClassId × FieldType)) (post : Int64 → S → Prop) (B : S → va_W) (A : Nat → Prop) : Array Value → State → Outcome → State → Prop := va_Ql post (fun u t => wB D T A (B u) t) A
abbrev qV {S : Type} (D : va_G) (T : List (ClassId × FieldType)) (post : S → Prop) (B : S → va_W) (A : Nat → Prop) : Array Value → State → Outcome → State → Prop := va_Qv post (fun u t => wB D T A (B u) t) A
abbrev qQ {S : Type} (D : va_G) (T : List (ClassId × FieldType)) (post : Option Nat → S → Prop) (B : S → va_W) (A : Nat → Prop) : Array Value → State → Outcome → State → Prop := va_Qq post (fun u t => wB D T A (B u) t) A
set_option maxHeartbeats 4000000 in
/-- a method's contract out of the walk of its body -/
theorem mkM {l : Launch} {y : MethodName} {own : String} {cc : ByteArray} {maxL : Nat} {ret : Option FieldType} {ws' wsl : List Cond} {rm : Room} {av : List Value} {D : va_G} {T : List (ClassId × FieldType)} {ws : va_W} {sz : Nat} {X : State → Prop} (Qc : (Nat → Prop) → Array Value → State → Outcome → State → Prop) {mc ms : Nat} {lv : List (Nat × Value)} (hy : plainName y.cls = true) (hw : wsl = Cond.code y cc maxL ret :: ws') (ho : y.cls = own) (hsl : (lg_sl av).length ≤ maxL) (hlv : lv_args 0 av = lv)
    (k : ∀ (p : Program) (e : Env) (s : State) (m : MethodId) (below : List Frame) (meth : Method) (c : Code) (A : Nat → Prop) (ls : Array Slot), p.tables.exec = Jvm.exec → c.code = cc → meth.sig.returnType = ret → (∀ w ∈ wsl, w.before av.toArray s = true) → s.vm.findClass own = some m.cls → c.maxLocals = maxL → meth.locks = false → (y.name = "<init>" → meth.name = "<init>") → va_P D vwCl ws s.heap → va_K D vwCl T s → va_D A ws → va_S A s.heap s.heap [] → (∀ q : Nat, s.heap.size ≤ q → A q) → A = va_A ws sz → s.heap.size = sz → X s → lv_has ls maxL lv → W p l e (headSpec wsl rm).room s m av.toArray below meth c s.heap [] 0 0 (MQ below (Qc A) av.toArray s mc ms A) (F0 m 0 ls [])) : Met l y wsl rm (va_Pc av (wPre D T ws sz X)) (Qc (va_A ws sz)) mc ms (va_A ws sz) := by
  refine Met.ofW (cc := cc) (maxL := maxL) (ret := ret) hy hw ?_
  intro p e s m args below meth c s₁ B hml hv
  obtain ⟨rfl, hsz, ⟨hP, hK, hD0⟩, hX⟩ := hv
  have hown : s.vm.findClass own = some m.cls := by rw [← ho]; exact findClass_of_methodNamed B.named
  have hl := lv_entry av (n := maxL) hsl
  rw [hlv] at hl
  rw [lg_entry_eq]
  have hD : va_D (va_A ws sz) ws := hD0.self
  exact k p e s m below meth c (va_A ws sz) _ B.exec B.bytes B.returns (atoms_spec B.pre) hown hml B.notSynchronized (fun h => by rw [← h]; exact (name_of_methodNamed B.named B.method).1) hP hK hD va_S.rf (fun q h => Or.inr (by rw [← hsz]; exact h)) rfl hsz hX hl
section EndCall
variable {p : Program} {l : Launch} {e : Env} {R : Room} {s : State} {m : MethodId} {args : Array Value} {below : List Frame} {meth : Method} {c : Code} {H : Heap} {locs : List Loc} {cells slots : Nat} {Q : State → Prop}
variable {cc : ByteArray} {pc : Nat} {ls : Array Slot} {D : va_G} {T : List (ClassId × FieldType)} {A : Nat → Prop} {ws : va_W} {S : Type} {B : S → va_W}
theorem endI {post : Int32 → S → Prop} {v : Int32} (hx : p.tables.exec = Jvm.exec) (hb : c.code = cc) (hr : meth.sig.returnType = some .int) (hlocks : meth.locks = false) (hP : va_P D vwCl ws H) (hK : va_K D vwCl T s) (hD : va_D A ws) (hS : va_S A s.heap H locs) (hdg : decode cc pc = .ok (.ireturn, 1)) (u : S) (hu : B u = ws) (hp : post v u) : W p l e R s m args below meth c H locs cells slots (MQ below (qI D T post B A) args s cells slots A) (F0 m pc ls [.int v]) :=
  W.iret hx hb hr (fun t ht hW => ⟨⟨v, u, rfl, hp, by rw [hu, ht]; exact hP, va_K.moved hW.alike hK, by rw [hu]; exact hD⟩, hS.F ht⟩) hS.2.2 hdg hlocks
theorem endZ {post : Int32 → S → Prop} {v : Int32} {ty : FieldType} (hx : p.tables.exec = Jvm.exec) (hb : c.code = cc) (hr : meth.sig.returnType = some ty) (hlocks : meth.locks = false) (hP : va_P D vwCl ws H) (hK : va_K D vwCl T s) (hD : va_D A ws) (hS : va_S A s.heap H locs) (hdg : decode cc pc = .ok (.ireturn, 1)) (hn : narrow ty (.int v) = .int v) (u : S) (hu : B u = ws) (hp : post v u) : W p l e R s m args below meth c H locs cells slots (MQ below (qI D T post B A) args s cells slots A) (F0 m pc ls [.int v]) :=
  W.zret hx hb hr hn (fun t ht hW => ⟨⟨v, u, rfl, hp, by rw [hu, ht]; exact hP, va_K.moved hW.alike hK, by rw [hu]; exact hD⟩, hS.F ht⟩) hS.2.2 hdg hlocks
theorem endV {post : S → Prop} (hx : p.tables.exec = Jvm.exec) (hb : c.code = cc) (hr : meth.sig.returnType = none) (hlocks : meth.locks = false) (hP : va_P D vwCl ws H) (hK : va_K D vwCl T s) (hD : va_D A ws) (hS : va_S A s.heap H locs) (hdg : decode cc pc = .ok (.return_, 1)) (u : S) (hu : B u = ws) (hp : post u) : W p l e R s m args below meth c H locs cells slots (MQ below (qV D T post B A) args s cells slots A) (F0 m pc ls []) :=
  W.vret hx hb hr (fun t ht hW => ⟨⟨u, rfl, hp, by rw [hu, ht]; exact hP, va_K.moved hW.alike hK, by rw [hu]; exact hD⟩, hS.F ht⟩) hS.2.2 hdg hlocks
theorem endF {post : UInt32 → S → Prop} {v : UInt32} (hx : p.tables.exec = Jvm.exec) (hb : c.code = cc) (hr : meth.sig.returnType = some .float) (hlocks : meth.locks = false) (hP : va_P D vwCl ws H) (hK : va_K D vwCl T s) (hD : va_D A ws) (hS : va_S A s.heap H locs) (hdg : decode cc pc = .ok (.freturn, 1)) (u : S) (hu : B u = ws) (hp : post v u) : W p l e R s m args below meth c H locs cells slots (MQ below (qF D T post B A) args s cells slots A) (F0 m pc ls [.float v]) :=
  W.fret hx hb hr (fun t ht hW => ⟨⟨v, u, rfl, hp, by rw [hu, ht]; exact hP, va_K.moved hW.alike hK, by rw [hu]; exact hD⟩, hS.F ht⟩) hS.2.2 hdg hlocks
theorem endL {post : Int64 → S → Prop} {v : Int64} (hx : p.tables.exec = Jvm.exec) (hb : c.code = cc) (hr : meth.sig.returnType = some .long) (hlocks : meth.locks = false) (hP : va_P D vwCl ws H) (hK : va_K D vwCl T s) (hD : va_D A ws) (hS : va_S A s.heap H locs) (hdg : decode cc pc = .ok (.lreturn, 1)) (u : S) (hu : B u = ws) (hp : post v u) : W p l e R s m args below meth c H locs cells slots (MQ below (qL D T post B A) args s cells slots A) (F0 m pc ls [.long v]) :=
  W.lret hx hb hr (fun t ht hW => ⟨⟨v, u, rfl, hp, by rw [hu, ht]; exact hP, va_K.moved hW.alike hK, by rw [hu]; exact hD⟩, hS.F ht⟩) hS.2.2 hdg hlocks
theorem fm_of {is : List Nat} {ws wc : va_W} (h : is.map (fun i => ws[i]?) = wc.map some) : is.filterMap (fun i => ws[i]?) = wc := by
  induction is generalizing wc with
  | nil =>
    cases wc with
    | nil => rfl
    | cons x xs => cases h
  | cons i is ih =>
    cases wc with
    | nil => cases h
    | cons x xs =>
      have h' := List.cons.inj h
      have h1 : ws[i]? = some x := h'.1
      rw [List.filterMap_cons]
      simp only [h1]
      rw [ih h'.2]
/-- the start of a callee on an object -/
theorem preV {H1 : Heap} {C : String} {b q0 ci : Nat} {As : List Value} {wc : va_W} {A0 : Nat → Prop} {X : State → Prop} {qc : vw_C} {fs : List Value} (hX : ∀ (U : State) (g : JFrame) (mk : MethodId) (a : Array Value), X U → X (U.calling g mk a)) (hXs : ∀ U : State, U.heap = H1 → s.WarmedH U.vm → X U) (hP : va_P D vwCl ws H1) (hK : va_K D vwCl T s) (hD : va_D A0 ws) (isC : List Nat) (hC : isC.map (fun i => ws[i]?) = wc.map some) (hnd : va_nd isC = true) (hc : vwCl[ci]? = some qc) (hqc : qc.1 = C) (he : wc[q0]? = some (b, .inr (ci, fs))) : PreV s H1 C b (va_Pc (.ref b :: As) (wPre D T wc H1.size X)) As := by
  have hPc : va_P D vwCl wc H1 := hP.sub isC (fm_of hC)
  have hDc : va_D A0 wc := hD.sub isC hnd hC
  subst hqc
  exact ⟨wPre_blind hX, va_recv hK hPc hc he, fun U hU hW => ⟨rfl, by rw [hU], ⟨by rw [hU]; exact hPc, va_K.moved hW.alike hK, hDc.weaken (fun _ _ _ _ => trivial)⟩, hXs U hU hW⟩⟩
theorem preS {H1 : Heap} {As : List Value} {wc : va_W} {A0 : Nat → Prop} {X : State → Prop} (hX : ∀ (U : State) (g : JFrame) (mk : MethodId) (a : Array Value), X U → X (U.calling g mk a)) (hXs : ∀ U : State, U.heap = H1 → s.WarmedH U.vm → X U) (hP : va_P D vwCl ws H1) (hK : va_K D vwCl T s) (hD : va_D A0 ws) (isC : List Nat) (hC : isC.map (fun i => ws[i]?) = wc.map some) (hnd : va_nd isC = true) : PreS s H1 (va_Pc As (wPre D T wc H1.size X)) As := by
  have hPc : va_P D vwCl wc H1 := hP.sub isC (fm_of hC)
  have hDc : va_D A0 wc := hD.sub isC hnd hC
  exact ⟨wPre_blind hX, fun U hU hW => ⟨rfl, by rw [hU], ⟨by rw [hU]; exact hPc, va_K.moved hW.alike hK, hDc.weaken (fun _ _ _ _ => trivial)⟩, hXs U hU hW⟩⟩
variable {y : MethodName} {bytes : ByteArray} {maxL nL n index : Nat} {ret : Option FieldType} {wsc Ts : List Cond} {rm : Room} {own C : String} {b : Nat} {As rest st0 : List Value} {wc : va_W} {X : State → Prop} {lv : List (Nat × Value)}
/-- a call on an object -/
theorem callVi {G : S} {π : S → Int32} (hM : Met l y wsc rm (va_Pc (.ref b :: As) (wPre D T wc H.size X)) (qI D T (fun r u => G = u ∧ r = π u) B (va_A wc H.size)) 0 0 (va_A wc H.size)) (S0 : CallFix p m c cc nL s args Ts own) (cw : CallW R s args own C index y bytes maxL ret wsc rm 0 0 n) (hX : ∀ (U : State) (g : JFrame) (mk : MethodId) (a : Array Value), X U → X (U.calling g mk a)) (hXs : ∀ U : State, U.heap = H → s.WarmedH U.vm → X U)
    (hP : va_P D vwCl ws H) (hK : va_K D vwCl T s) (hD : va_D A ws) (hS : va_S A s.heap H locs) (hA : ∀ q, s.heap.size ≤ q → A q) (hl : lv_has ls nL lv) (isC : List Nat) (hC : isC.map (fun i => ws[i]?) = wc.map some) (hnd : va_nd isC = true) (q0 ci : Nat) {qc : vw_C} {fs : List Value} (hc : vwCl[ci]? = some qc) (hqc : qc.1 = C) (he : wc[q0]? = some (b, .inr (ci, fs)))
    (hn : As.length = n) (hst : st0 = As.reverse ++ .ref b :: rest) (hrest : (rest.map fun v => v.category).sum ≤ 8) (hdg : decode cc pc = .ok (.invokevirtual index, 3)) (hf : cells ≤ R.cells ∧ slots ≤ R.slots) (hfst : ∀ u, (B u).map Prod.fst = wc.map Prod.fst)
    (kk : ∀ (u : S) (H1 : Heap) (locs1 : List Loc), G = u → va_P D vwCl (wput ws isC (B u)) H1 → va_D A (wput ws isC (B u)) → va_S A s.heap H1 locs1 → W p l e R s m args below meth c H1 locs1 cells slots Q (F0 m (pc + 3) ls (.int (π u) :: rest))) : W p l e R s m args below meth c H locs cells slots Q (F0 m pc ls st0) := by
  subst hst
  have hFc := va_free (wc := wc) hD hS hA isC hC
  refine va_calli (va_runV (As := As) (rest := rest) S0 hM cw (preV hX hXs hP hK hD isC hC hnd hc hqc he) rfl hn hl.1 rfl (lv_room hrest) hdg hf) hS (fun q _ h => hFc q h) hFc (fun r u t H1 locs1 ht hvm hw hB hz1 hk1 hS1 => ?_)
  obtain ⟨hP1, hK1, hD1⟩ := hB
  rw [ht] at hP1
  obtain ⟨hP2, hD2⟩ := wput_join hP hD isC hC (hfst u) hk1 hP1
  rw [hw.2]
  exact kk u H1 locs1 hw.1 hP2 hD2 hS1
/-- a call on an object -/
theorem callVf {G : S} {π : S → UInt32} (hM : Met l y wsc rm (va_Pc (.ref b :: As) (wPre D T wc H.size X)) (qF D T (fun r u => G = u ∧ r = π u) B (va_A wc H.size)) 0 0 (va_A wc H.size)) (S0 : CallFix p m c cc nL s args Ts own) (cw : CallW R s args own C index y bytes maxL ret wsc rm 0 0 n) (hX : ∀ (U : State) (g : JFrame) (mk : MethodId) (a : Array Value), X U → X (U.calling g mk a)) (hXs : ∀ U : State, U.heap = H → s.WarmedH U.vm → X U)
    (hP : va_P D vwCl ws H) (hK : va_K D vwCl T s) (hD : va_D A ws) (hS : va_S A s.heap H locs) (hA : ∀ q, s.heap.size ≤ q → A q) (hl : lv_has ls nL lv) (isC : List Nat) (hC : isC.map (fun i => ws[i]?) = wc.map some) (hnd : va_nd isC = true) (q0 ci : Nat) {qc : vw_C} {fs : List Value} (hc : vwCl[ci]? = some qc) (hqc : qc.1 = C) (he : wc[q0]? = some (b, .inr (ci, fs)))
    (hn : As.length = n) (hst : st0 = As.reverse ++ .ref b :: rest) (hrest : (rest.map fun v => v.category).sum ≤ 8) (hdg : decode cc pc = .ok (.invokevirtual index, 3)) (hf : cells ≤ R.cells ∧ slots ≤ R.slots) (hfst : ∀ u, (B u).map Prod.fst = wc.map Prod.fst)
    (kk : ∀ (u : S) (H1 : Heap) (locs1 : List Loc), G = u → va_P D vwCl (wput ws isC (B u)) H1 → va_D A (wput ws isC (B u)) → va_S A s.heap H1 locs1 → W p l e R s m args below meth c H1 locs1 cells slots Q (F0 m (pc + 3) ls (.float (π u) :: rest))) : W p l e R s m args below meth c H locs cells slots Q (F0 m pc ls st0) := by
  subst hst
  have hFc := va_free (wc := wc) hD hS hA isC hC
  refine va_callf (va_runV (As := As) (rest := rest) S0 hM cw (preV hX hXs hP hK hD isC hC hnd hc hqc he) rfl hn hl.1 rfl (lv_room hrest) hdg hf) hS (fun q _ h => hFc q h) hFc (fun r u t H1 locs1 ht hvm hw hB hz1 hk1 hS1 => ?_)
  obtain ⟨hP1, hK1, hD1⟩ := hB
  rw [ht] at hP1
  obtain ⟨hP2, hD2⟩ := wput_join hP hD isC hC (hfst u) hk1 hP1
  rw [hw.2]
  exact kk u H1 locs1 hw.1 hP2 hD2 hS1
/-- a call on an object -/
theorem callVl {G : S} {π : S → Int64} (hM : Met l y wsc rm (va_Pc (.ref b :: As) (wPre D T wc H.size X)) (qL D T (fun r u => G = u ∧ r = π u) B (va_A wc H.size)) 0 0 (va_A wc H.size)) (S0 : CallFix p m c cc nL s args Ts own) (cw : CallW R s args own C index y bytes maxL ret wsc rm 0 0 n) (hX : ∀ (U : State) (g : JFrame) (mk : MethodId) (a : Array Value), X U → X (U.calling g mk a)) (hXs : ∀ U : State, U.heap = H → s.WarmedH U.vm → X U)
    (hP : va_P D vwCl ws H) (hK : va_K D vwCl T s) (hD : va_D A ws) (hS : va_S A s.heap H locs) (hA : ∀ q, s.heap.size ≤ q → A q) (hl : lv_has ls nL lv) (isC : List Nat) (hC : isC.map (fun i => ws[i]?) = wc.map some) (hnd : va_nd isC = true) (q0 ci : Nat) {qc : vw_C} {fs : List Value} (hc : vwCl[ci]? = some qc) (hqc : qc.1 = C) (he : wc[q0]? = some (b, .inr (ci, fs)))
    (hn : As.length = n) (hst : st0 = As.reverse ++ .ref b :: rest) (hrest : (rest.map fun v => v.category).sum ≤ 8) (hdg : decode cc pc = .ok (.invokevirtual index, 3)) (hf : cells ≤ R.cells ∧ slots ≤ R.slots) (hfst : ∀ u, (B u).map Prod.fst = wc.map Prod.fst)
    (kk : ∀ (u : S) (H1 : Heap) (locs1 : List Loc), G = u → va_P D vwCl (wput ws isC (B u)) H1 → va_D A (wput ws isC (B u)) → va_S A s.heap H1 locs1 → W p l e R s m args below meth c H1 locs1 cells slots Q (F0 m (pc + 3) ls (.long (π u) :: rest))) : W p l e R s m args below meth c H locs cells slots Q (F0 m pc ls st0) := by
  subst hst
  have hFc := va_free (wc := wc) hD hS hA isC hC
  refine va_calll (va_runV (As := As) (rest := rest) S0 hM cw (preV hX hXs hP hK hD isC hC hnd hc hqc he) rfl hn hl.1 rfl (lv_room hrest) hdg hf) hS (fun q _ h => hFc q h) hFc (fun r u t H1 locs1 ht hvm hw hB hz1 hk1 hS1 => ?_)
  obtain ⟨hP1, hK1, hD1⟩ := hB
  rw [ht] at hP1
  obtain ⟨hP2, hD2⟩ := wput_join hP hD isC hC (hfst u) hk1 hP1
  rw [hw.2]
  exact kk u H1 locs1 hw.1 hP2 hD2 hS1
/-- a call on an object: nothing comes back -/
theorem callVv {G : S} (hM : Met l y wsc rm (va_Pc (.ref b :: As) (wPre D T wc H.size X)) (qV D T (fun u => G = u) B (va_A wc H.size)) 0 0 (va_A wc H.size)) (S0 : CallFix p m c cc nL s args Ts own) (cw : CallW R s args own C index y bytes maxL ret wsc rm 0 0 n) (hX : ∀ (U : State) (g : JFrame) (mk : MethodId) (a : Array Value), X U → X (U.calling g mk a)) (hXs : ∀ U : State, U.heap = H → s.WarmedH U.vm → X U)
    (hP : va_P D vwCl ws H) (hK : va_K D vwCl T s) (hD : va_D A ws) (hS : va_S A s.heap H locs) (hA : ∀ q, s.heap.size ≤ q → A q) (hl : lv_has ls nL lv) (isC : List Nat) (hC : isC.map (fun i => ws[i]?) = wc.map some) (hnd : va_nd isC = true) (q0 ci : Nat) {qc : vw_C} {fs : List Value} (hc : vwCl[ci]? = some qc) (hqc : qc.1 = C) (he : wc[q0]? = some (b, .inr (ci, fs)))
    (hn : As.length = n) (hst : st0 = As.reverse ++ .ref b :: rest) (hrest : (rest.map fun v => v.category).sum ≤ 8) (hdg : decode cc pc = .ok (.invokevirtual index, 3)) (hf : cells ≤ R.cells ∧ slots ≤ R.slots) (hfst : ∀ u, (B u).map Prod.fst = wc.map Prod.fst)
    (kk : ∀ (u : S) (H1 : Heap) (locs1 : List Loc), G = u → va_P D vwCl (wput ws isC (B u)) H1 → va_D A (wput ws isC (B u)) → va_S A s.heap H1 locs1 → W p l e R s m args below meth c H1 locs1 cells slots Q (F0 m (pc + 3) ls rest)) : W p l e R s m args below meth c H locs cells slots Q (F0 m pc ls st0) := by
  subst hst
  have hFc := va_free (wc := wc) hD hS hA isC hC
  refine va_callv (va_runV (As := As) (rest := rest) S0 hM cw (preV hX hXs hP hK hD isC hC hnd hc hqc he) rfl hn hl.1 rfl (lv_room hrest) hdg hf) hS (fun q _ h => hFc q h) hFc (fun u t H1 locs1 ht hvm hw hB hz1 hk1 hS1 => ?_)
  obtain ⟨hP1, hK1, hD1⟩ := hB
  rw [ht] at hP1
  obtain ⟨hP2, hD2⟩ := wput_join hP hD isC hC (hfst u) hk1 hP1
  exact kk u H1 locs1 hw hP2 hD2 hS1
/-- a static call of a method that has no world -/
theorem callSi {G : S} {π : S → Int32} (hM : Met l y wsc rm (va_Pc As (wPre D T [] H.size X0)) (qI D T (fun r u => G = u ∧ r = π u) (fun _ => []) (va_A [] H.size)) 0 0 (va_A [] H.size)) (S0 : CallFix p m c cc nL s args Ts own) (cw : CallB R s args own index y bytes maxL ret wsc rm 0 0 n ∧ (Cond.static y).before args s = true)
    (hP : va_P D vwCl ws H) (hK : va_K D vwCl T s) (hD : va_D A ws) (hS : va_S A s.heap H locs) (hA : ∀ q, s.heap.size ≤ q → A q) (hl : lv_has ls nL lv)
    (hn : As.length = n) (hst : st0 = As.reverse ++ rest) (hrest : (rest.map fun v => v.category).sum ≤ 8) (hdg : decode cc pc = .ok (.invokestatic index, 3)) (hf : cells ≤ R.cells ∧ slots ≤ R.slots)
    (kk : ∀ (u : S) (H1 : Heap) (locs1 : List Loc), G = u → va_P D vwCl ws H1 → va_S A s.heap H1 locs1 → W p l e R s m args below meth c H1 locs1 cells slots Q (F0 m (pc + 3) ls (.int (π u) :: rest))) : W p l e R s m args below meth c H locs cells slots Q (F0 m pc ls st0) := by
  subst hst
  have hFc : ∀ q, va_A [] H.size q → A q := va_free (wc := []) hD hS hA [] rfl
  refine va_calli (va_runS (As := As) (rest := rest) S0 hM cw (preS (X := X0) X0_blind (fun _ _ _ => trivial) hP hK hD [] rfl rfl) rfl hn hl.1 rfl (lv_room hrest) hdg hf) hS (fun q _ h => hFc q h) hFc (fun r u t H1 locs1 ht hvm hw hB hz1 hk1 hS1 => ?_)
  rw [hw.2]
  exact kk u H1 locs1 hw.1 (va_P_far hP hk1) hS1
/-- a static call of a method that has no world -/
theorem callSl {G : S} {π : S → Int64} (hM : Met l y wsc rm (va_Pc As (wPre D T [] H.size X0)) (qL D T (fun r u => G = u ∧ r = π u) (fun _ => []) (va_A [] H.size)) 0 0 (va_A [] H.size)) (S0 : CallFix p m c cc nL s args Ts own) (cw : CallB R s args own index y bytes maxL ret wsc rm 0 0 n ∧ (Cond.static y).before args s = true)
    (hP : va_P D vwCl ws H) (hK : va_K D vwCl T s) (hD : va_D A ws) (hS : va_S A s.heap H locs) (hA : ∀ q, s.heap.size ≤ q → A q) (hl : lv_has ls nL lv)
    (hn : As.length = n) (hst : st0 = As.reverse ++ rest) (hrest : (rest.map fun v => v.category).sum ≤ 8) (hdg : decode cc pc = .ok (.invokestatic index, 3)) (hf : cells ≤ R.cells ∧ slots ≤ R.slots)
    (kk : ∀ (u : S) (H1 : Heap) (locs1 : List Loc), G = u → va_P D vwCl ws H1 → va_S A s.heap H1 locs1 → W p l e R s m args below meth c H1 locs1 cells slots Q (F0 m (pc + 3) ls (.long (π u) :: rest))) : W p l e R s m args below meth c H locs cells slots Q (F0 m pc ls st0) := by
  subst hst
  have hFc : ∀ q, va_A [] H.size q → A q := va_free (wc := []) hD hS hA [] rfl
  refine va_calll (va_runS (As := As) (rest := rest) S0 hM cw (preS (X := X0) X0_blind (fun _ _ _ => trivial) hP hK hD [] rfl rfl) rfl hn hl.1 rfl (lv_room hrest) hdg hf) hS (fun q _ h => hFc q h) hFc (fun r u t H1 locs1 ht hvm hw hB hz1 hk1 hS1 => ?_)
  rw [hw.2]
  exact kk u H1 locs1 hw.1 (va_P_far hP hk1) hS1
/-- a static call of a method that has no world -/
theorem callNi {host : String} {G : S} {π : S → Int32} (hM : Met l y wsc rm (va_Pc As (wPre D T [] H.size X0)) (qI D T (fun r u => G = u ∧ r = π u) (fun _ => []) (va_A [] H.size)) 0 0 (va_A [] H.size)) (S0 : CallFix p m c cc nL s args Ts own) (cw : va_CN R s args own index y host bytes maxL ret wsc rm 0 0 n ∧ (Cond.static y).before args s = true ∧ True)
    (hP : va_P D vwCl ws H) (hK : va_K D vwCl T s) (hD : va_D A ws) (hS : va_S A s.heap H locs) (hA : ∀ q, s.heap.size ≤ q → A q) (hl : lv_has ls nL lv)
    (hn : As.length = n) (hst : st0 = As.reverse ++ rest) (hrest : (rest.map fun v => v.category).sum ≤ 8) (hdg : decode cc pc = .ok (.invokestatic index, 3)) (hf : cells ≤ R.cells ∧ slots ≤ R.slots)
    (kk : ∀ (u : S) (H1 : Heap) (locs1 : List Loc), G = u → va_P D vwCl ws H1 → va_S A s.heap H1 locs1 → W p l e R s m args below meth c H1 locs1 cells slots Q (F0 m (pc + 3) ls (.int (π u) :: rest))) : W p l e R s m args below meth c H locs cells slots Q (F0 m pc ls st0) := by
  subst hst
  have hFc : ∀ q, va_A [] H.size q → A q := va_free (wc := []) hD hS hA [] rfl
  refine va_calli (va_runSN (As := As) (rest := rest) S0 hM cw (preS (X := X0) X0_blind (fun _ _ _ => trivial) hP hK hD [] rfl rfl) rfl hn hl.1 rfl (lv_room hrest) hdg hf) hS (fun q _ h => hFc q h) hFc (fun r u t H1 locs1 ht hvm hw hB hz1 hk1 hS1 => ?_)
  rw [hw.2]
  exact kk u H1 locs1 hw.1 (va_P_far hP hk1) hS1
end EndCall
/-- the places' kinds: ints, chars, surveys -/
abbrev TY (cI cC cS : ClassId) : List (ClassId × FieldType) := [(cI, .int), (cC, .char), (cS, .object RX5)]
/-- a value is had: the rest goes on with it -/
def bd1 {α γ : Type} (x : α) (f : α → γ) : γ := f x
def bd2 {α β γ : Type} (x : α × β) (f : α → β → γ) : γ := f x.1 x.2
def bd3 {α β δ γ : Type} (x : α × β × δ) (f : α → β → δ → γ) : γ := f x.1 x.2.1 x.2.2
def bd4 {α β δ ε γ : Type} (x : α × β × δ × ε) (f : α → β → δ → ε → γ) : γ := f x.1 x.2.1 x.2.2.1 x.2.2.2
def bd5 {α β δ ε ζ γ : Type} (x : α × β × δ × ε × ζ) (f : α → β → δ → ε → ζ → γ) : γ := f x.1 x.2.1 x.2.2.1 x.2.2.2.1 x.2.2.2.2
theorem bd1_e {α γ : Type} {x : α} {f : α → γ} {a : α} (h : x = a) : bd1 x f = f a := by rw [bd1, h]
theorem bd2_e {α β γ : Type} {x : α × β} {f : α → β → γ} {a : α} {b : β} (h : x = (a, b)) : bd2 x f = f a b := by rw [bd2, h]
theorem bd3_e {α β δ γ : Type} {x : α × β × δ} {f : α → β → δ → γ} {a : α} {b : β} {d : δ} (h : x = (a, b, d)) : bd3 x f = f a b d := by rw [bd3, h]
theorem bd4_e {α β δ ε γ : Type} {x : α × β × δ × ε} {f : α → β → δ → ε → γ} {a : α} {b : β} {d : δ} {e : ε} (h : x = (a, b, d, e)) : bd4 x f = f a b d e := by rw [bd4, h]
theorem bd5_e {α β δ ε ζ γ : Type} {x : α × β × δ × ε × ζ} {f : α → β → δ → ε → ζ → γ} {a : α} {b : β} {d : δ} {e : ε} {z : ζ} (h : x = (a, b, d, e, z)) : bd5 x f = f a b d e z := by rw [bd5, h]
theorem bd1_n {α γ : Type} {x : α} {f : α → γ} {a : α} (h : a = x) : bd1 x f = f a := by rw [bd1, h]
theorem bi_fit (b : Bool) : fits .boolean (.int (bi b)) = true := by cases b <;> rfl
/-- an index that was looked at -/
theorem vp_in_of2 {x : Int32} {n : Nat} (h1 : ¬ x < 0) (h2 : ¬ Int32.ofNat n ≤ x) (hn : n < 2 ^ 31) : vp_in x n := by
  obtain ⟨j, hj, e⟩ := nI_of h1
  subst e
  rcases Nat.lt_or_ge j n with q | q
  · exact vp_in_nI q hn
  · exact absurd (nI_le q hj) h2
theorem tab_out {x : Int32} {lo hi : Int} (hr : -2147483648 ≤ lo ∧ hi < 2147483648) (h : ∀ k : Int, lo ≤ k → k ≤ hi → ¬ x.toInt = k) : x.toInt < lo ∨ hi < x.toInt := by
  rcases Int.lt_or_le x.toInt lo with q | q
  · exact Or.inl q
  · rcases Int.lt_or_le hi x.toInt with r | r
    · exact Or.inr r
    · exact absurd rfl (h x.toInt q r)
theorem ne_ti {x y : Int32} {k : Int} (h : ¬ x = y) (hk : y.toInt = k) : ¬ x.toInt = k := fun e => h (Int32.toInt_inj.mp (e.trans hk.symm))
/-- a counter comes nearer to its bound -/
theorem lp_dec {a b : Int32} (h : ¬ b ≤ a) : (b.toInt - (a + 1).toInt).toNat < (b.toInt - a.toInt).toNat := by
  have h1 : a.toInt < b.toInt := by
    rcases Int.lt_or_le a.toInt b.toInt with q | q
    · exact q
    · exact absurd (Int32.le_iff_toInt_le.mpr q) h
  have hb := Int32.toInt_lt b
  have ha := Int32.le_toInt a
  have h2 : (a + 1).toInt = a.toInt + 1 := by
    rw [Int32.toInt_add]
    have e1 : (1 : Int32).toInt = 1 := by decide
    rw [e1]
    apply Int.bmod_eq_of_le <;> omega
  omega
theorem inc_nn {x : Int32} {n : Nat} (h1 : ¬ x < 0) (h2 : ¬ Int32.ofNat n ≤ x) (hn : n < 2 ^ 31) : ¬ x + 1 < 0 := by
  obtain ⟨j, hj, e⟩ := nI_of h1
  subst e
  rcases Nat.lt_or_ge j n with q | q
  · rw [nI_1]
    exact nI_pos (by omega)
  · exact absurd (nI_le q hj) h2
theorem sub_r {big : List Cond} (ws : List Cond) (ps : List Nat) (hp : ws = ps.filterMap (fun i => big[i]?)) : ∀ w ∈ ws, w ∈ big := by
  intro w hw
  rw [hp] at hw
  obtain ⟨i, -, hi⟩ := List.mem_filterMap.mp hw
  exact List.mem_of_getElem? hi
