/-! worlds by segments: a call takes some of them, and puts them back -/
def sput : List va_W → List Nat → List va_W → List va_W
  | sg, i :: is, x :: xs => sput (sg.set i x) is xs
  | sg, _, _ => sg
theorem va_P_mem {D : va_G} {cl : List vw_C} {ws : va_W} {H : Heap} : va_P D cl ws H ↔ ∀ q ∈ ws, va_at D cl q H := by
  constructor
  · intro h q hq
    obtain ⟨k, hk⟩ := List.getElem?_of_mem hq
    exact h k q hk
  · intro h k q hk
    exact h q (List.mem_of_getElem? hk)
theorem va_D_mem {A : Nat → Prop} {ws : va_W} : va_D A ws ↔ (ws.Pairwise (fun p q => p.1 ≠ q.1)) ∧ ∀ q ∈ ws, A q.1 := by
  constructor
  · intro h
    refine ⟨List.pairwise_iff_getElem.mpr (fun i j hi hj hij e => ?_), fun q hq => ?_⟩
    · have := h.1 i j ws[i] ws[j] (List.getElem?_eq_getElem hi) (List.getElem?_eq_getElem hj) e
      omega
    · obtain ⟨k, hk⟩ := List.getElem?_of_mem hq
      exact h.2 k q hk
  · intro h
    refine ⟨fun i j p q hi hj e => ?_, fun k q hk => h.2 q (List.mem_of_getElem? hk)⟩
    obtain ⟨hi', ei⟩ := List.getElem?_eq_some_iff.mp hi
    obtain ⟨hj', ej⟩ := List.getElem?_eq_some_iff.mp hj
    rcases Nat.lt_trichotomy i j with q1 | q1 | q1
    · exact absurd (by rw [ei, ej]; exact e) (List.pairwise_iff_getElem.mp h.1 i j hi' hj' q1)
    · exact q1
    · exact absurd (by rw [ei, ej]; exact e.symm) (List.pairwise_iff_getElem.mp h.1 j i hj' hi' q1)
theorem sg_at {sg wcs : List va_W} {isC : List Nat} (hC : isC.map (fun i => sg[i]?) = wcs.map some) {w : va_W} (hw : w ∈ wcs) : ∃ i, i ∈ isC ∧ sg[i]? = some w := by
  have h1 : some w ∈ wcs.map some := List.mem_map_of_mem hw
  rw [← hC] at h1
  obtain ⟨i, h2, h3⟩ := List.mem_map.mp h1
  exact ⟨i, h2, h3⟩
/-- cells of different segments are apart -/
theorem sg_apart {A : Nat → Prop} {sg : List va_W} (hD : va_D A sg.flatten) {i j : Nat} {v w : va_W} {p q : Nat × va_E} (hi : sg[i]? = some v) (hj : sg[j]? = some w) (hp : p ∈ v) (hq : q ∈ w) (e : p.1 = q.1) : i = j := by
  have h := (List.pairwise_flatten.mp (va_D_mem.mp hD).1).2
  obtain ⟨hi', ei⟩ := List.getElem?_eq_some_iff.mp hi
  obtain ⟨hj', ej⟩ := List.getElem?_eq_some_iff.mp hj
  rcases Nat.lt_trichotomy i j with q1 | q1 | q1
  · exact absurd e (List.pairwise_iff_getElem.mp h i j hi' hj' q1 p (by rw [ei]; exact hp) q (by rw [ej]; exact hq))
  · exact q1
  · exact absurd e.symm (List.pairwise_iff_getElem.mp h j i hj' hi' q1 q (by rw [ej]; exact hq) p (by rw [ei]; exact hp))
theorem sg_P {D : va_G} {cl : List vw_C} {sg wcs : List va_W} {H : Heap} {isC : List Nat} (hP : va_P D cl sg.flatten H) (hC : isC.map (fun i => sg[i]?) = wcs.map some) : va_P D cl wcs.flatten H := va_P_mem.mpr (fun q hq => by
  obtain ⟨w, hw, hqw⟩ := List.mem_flatten.mp hq
  obtain ⟨i, -, hi⟩ := sg_at hC hw
  exact va_P_mem.mp hP q (List.mem_flatten.mpr ⟨w, List.mem_of_getElem? hi, hqw⟩))
theorem sg_D {A : Nat → Prop} {sg wcs : List va_W} {isC : List Nat} (hD : va_D A sg.flatten) (hC : isC.map (fun i => sg[i]?) = wcs.map some) (hnd : va_nd isC = true) : va_D A wcs.flatten := by
  have hA := va_D_mem.mp hD
  have key : ∀ (k : Nat) (hk : k < wcs.length), ∃ i, isC[k]? = some i ∧ sg[i]? = some wcs[k] := by
    intro k hk
    have h1 : (isC.map (fun i => sg[i]?))[k]? = some (some wcs[k]) := by rw [hC, List.getElem?_map, List.getElem?_eq_getElem hk]; rfl
    rw [List.getElem?_map] at h1
    cases hi : isC[k]? with
    | none => rw [hi] at h1; cases h1
    | some i => rw [hi] at h1; exact ⟨i, rfl, Option.some.inj h1⟩
  refine va_D_mem.mpr ⟨List.pairwise_flatten.mpr ⟨fun w hw => ?_, List.pairwise_iff_getElem.mpr (fun k l hk hl hkl p hp q hq e => ?_)⟩, fun q hq => ?_⟩
  · obtain ⟨i, -, hi⟩ := sg_at hC hw
    exact (List.pairwise_flatten.mp hA.1).1 w (List.mem_of_getElem? hi)
  · obtain ⟨i, h1, h2⟩ := key k hk
    obtain ⟨j, h3, h4⟩ := key l hl
    have := sg_apart hD h2 h4 hp hq e
    subst this
    have := va_nd_inj isC hnd k l i h1 h3
    omega
  · obtain ⟨w, hw, hqw⟩ := List.mem_flatten.mp hq
    obtain ⟨i, -, hi⟩ := sg_at hC hw
    exact hA.2 q (List.mem_flatten.mpr ⟨w, List.mem_of_getElem? hi, hqw⟩)
theorem sg_free {A0 : Nat → Prop} {sg wcs : List va_W} {H0 H : Heap} {locs : List Loc} (hD : va_D A0 sg.flatten) (hS : va_S A0 H0 H locs) (hA : ∀ q, H0.size ≤ q → A0 q) (isC : List Nat) (hC : isC.map (fun i => sg[i]?) = wcs.map some) : ∀ q, va_A wcs.flatten H.size q → A0 q := by
  intro q h
  rcases h with ⟨k, e, h⟩ | h
  · obtain ⟨w, hw, hqw⟩ := List.mem_flatten.mp (List.mem_of_getElem? h)
    obtain ⟨i, -, hi⟩ := sg_at hC hw
    exact (va_D_mem.mp hD).2 (q, e) (List.mem_flatten.mpr ⟨w, List.mem_of_getElem? hi, hqw⟩)
  · exact hA q (Nat.le_trans hS.1 h)
theorem sput_get : ∀ (is : List Nat) (xs sg : List va_W) (k : Nat) (w : va_W), (sput sg is xs)[k]? = some w → (sg[k]? = some w ∧ (k ∉ is ∨ xs.length < is.length ∨ w ∈ xs)) ∨ w ∈ xs := by
  intro is
  induction is with
  | nil =>
    intro xs sg k w h
    have e : sput sg [] xs = sg := by cases xs <;> rfl
    rw [e] at h
    exact Or.inl ⟨h, Or.inl List.not_mem_nil⟩
  | cons i is ih =>
    intro xs sg k w h
    cases xs with
    | nil => exact Or.inl ⟨h, Or.inr (Or.inl (by simp))⟩
    | cons x xs =>
      rcases ih xs (sg.set i x) k w h with ⟨h1, h2⟩ | h1
      · rw [List.getElem?_set] at h1
        by_cases hik : i = k
        · rw [if_pos hik] at h1
          split at h1
          · cases h1
            exact Or.inr List.mem_cons_self
          · cases h1
        · rw [if_neg hik] at h1
          refine Or.inl ⟨h1, ?_⟩
          rcases h2 with h2 | h2 | h2
          · exact Or.inl (fun hm => by
              rcases List.mem_cons.mp hm with e | e
              · exact hik e.symm
              · exact h2 e)
          · exact Or.inr (Or.inl (by simp; omega))
          · exact Or.inr (Or.inr (List.mem_cons_of_mem _ h2))
      · exact Or.inr (List.mem_cons_of_mem _ h1)
theorem sput_fst : ∀ (is : List Nat) (xs sg : List va_W), is.map (fun i => (sg.map (fun w => w.map Prod.fst))[i]?) = (xs.map (fun w => w.map Prod.fst)).map some → (sput sg is xs).map (fun w => w.map Prod.fst) = sg.map (fun w => w.map Prod.fst) := by
  intro is
  induction is with
  | nil =>
    intro xs sg h
    cases xs <;> rfl
  | cons i is ih =>
    intro xs sg h
    cases xs with
    | nil => rfl
    | cons x xs =>
      have h' := List.cons.inj h
      have e : (sg.set i x).map (fun w => w.map Prod.fst) = sg.map (fun w => w.map Prod.fst) := by
        rw [List.map_set]
        apply List.ext_getElem?
        intro k
        rw [List.getElem?_set]
        by_cases hk : i = k
        · subst hk
          rw [if_pos rfl]
          by_cases hl : i < (sg.map (fun w => w.map Prod.fst)).length
          · rw [if_pos hl]
            exact h'.1.symm
          · rw [if_neg hl]
            exact (List.getElem?_eq_none (by omega)).symm
        · rw [if_neg hk]
      show (sput (sg.set i x) is xs).map _ = _
      rw [ih xs (sg.set i x) (by rw [e]; exact h'.2), e]
theorem sg_join {A0 : Nat → Prop} {D : va_G} {cl : List vw_C} {sg wcs w1 : List va_W} {H H1 : Heap} (hP : va_P D cl sg.flatten H) (hD : va_D A0 sg.flatten) (isC : List Nat) (hC : isC.map (fun i => sg[i]?) = wcs.map some) (hfst : w1.map (fun w => w.map Prod.fst) = wcs.map (fun w => w.map Prod.fst))
    (hk : ∀ q : Nat, q < H.size → ¬ va_A wcs.flatten H.size q → H1[q]? = H[q]?) (hP1 : va_P D cl w1.flatten H1) : va_P D cl (sput sg isC w1).flatten H1 ∧ va_D A0 (sput sg isC w1).flatten := by
  have hlen : isC.length = wcs.length := by
    have := congrArg List.length hC
    rwa [List.length_map, List.length_map] at this
  have hlen1 : w1.length = wcs.length := by
    have := congrArg List.length hfst
    rwa [List.length_map, List.length_map] at this
  constructor
  · refine va_P_mem.mpr (fun q hq => ?_)
    obtain ⟨w, hw, hqw⟩ := List.mem_flatten.mp hq
    obtain ⟨k, hkw⟩ := List.getElem?_of_mem hw
    have new : w ∈ w1 → va_at D cl q H1 := fun h => va_P_mem.mp hP1 q (List.mem_flatten.mpr ⟨w, h, hqw⟩)
    rcases sput_get isC w1 sg k w hkw with ⟨h1, h2⟩ | h1
    · rcases h2 with h2 | h2 | h2
      · have hat := va_P_mem.mp hP q (List.mem_flatten.mpr ⟨w, List.mem_of_getElem? h1, hqw⟩)
        refine hat.kept (hk q.1 hat.lt (fun hA => ?_))
        rcases hA with ⟨j, e, hj⟩ | hge
        · obtain ⟨v, hv, hqv⟩ := List.mem_flatten.mp (List.mem_of_getElem? hj)
          obtain ⟨i, hi1, hi2⟩ := sg_at hC hv
          have := sg_apart hD h1 hi2 hqw hqv rfl
          subst this
          exact h2 hi1
        · exact absurd hat.lt (Nat.not_lt.mpr hge)
      · omega
      · exact new h2
    · exact new h1
  · refine va_D_fst hD ?_
    rw [List.map_flatten, List.map_flatten]
    congr 1
    refine sput_fst isC w1 sg ?_
    rw [hfst]
    apply List.ext_getElem?
    intro k
    rw [List.getElem?_map, List.getElem?_map, List.getElem?_map]
    have h1 : (isC.map (fun i => sg[i]?))[k]? = (wcs.map some)[k]? := by rw [hC]
    rw [List.getElem?_map, List.getElem?_map] at h1
    cases hi : isC[k]? with
    | none =>
      rw [hi] at h1
      cases hw : wcs[k]? with
      | none => rfl
      | some z => rw [hw] at h1; cases h1
    | some i =>
      rw [hi] at h1
      cases hw : wcs[k]? with
      | none => rw [hw] at h1; cases h1
      | some z =>
        rw [hw] at h1
        have h2 : sg[i]? = some z := Option.some.inj h1
        show some ((sg.map (fun w => w.map Prod.fst))[i]?) = some (some (z.map Prod.fst))
        rw [List.getElem?_map, h2]
        rfl
section SegCall
variable {p : Program} {l : Launch} {e : Env} {R : Room} {s : State} {m : MethodId} {args : Array Value} {below : List Frame} {meth : Method} {c : Code} {H : Heap} {locs : List Loc} {cells slots : Nat} {Q : State → Prop}
variable {cc : ByteArray} {pc : Nat} {ls : Array Slot} {D : va_G} {T : List (ClassId × FieldType)} {A : Nat → Prop} {sg wcs : List va_W} {S : Type} {Bs : S → List va_W}
theorem sg_preV {H1 : Heap} {C : String} {b q0 ci : Nat} {As : List Value} {A0 : Nat → Prop} {X : State → Prop} {qc : vw_C} {fs : List Value} (hX : ∀ (U : State) (g : JFrame) (mk : MethodId) (a : Array Value), X U → X (U.calling g mk a)) (hXs : ∀ U : State, U.heap = H1 → s.WarmedH U.vm → X U) (hP : va_P D vwCl sg.flatten H1) (hK : va_K D vwCl T s) (hD : va_D A0 sg.flatten) (isC : List Nat) (hC : isC.map (fun i => sg[i]?) = wcs.map some) (hnd : va_nd isC = true) (hc : vwCl[ci]? = some qc) (hqc : qc.1 = C) (he : wcs.flatten[q0]? = some (b, .inr (ci, fs))) : PreV s H1 C b (va_Pc (.ref b :: As) (wPre D T wcs.flatten H1.size X)) As := by
  have hPc : va_P D vwCl wcs.flatten H1 := sg_P hP hC
  have hDc : va_D A0 wcs.flatten := sg_D hD hC hnd
  subst hqc
  exact ⟨wPre_blind hX, va_recv hK hPc hc he, fun U hU hW => ⟨rfl, by rw [hU], ⟨by rw [hU]; exact hPc, va_K.moved hW.alike hK, hDc.weaken (fun _ _ _ _ => trivial)⟩, hXs U hU hW⟩⟩
variable {y : MethodName} {bytes : ByteArray} {maxL nL n index : Nat} {ret : Option FieldType} {wsc Ts : List Cond} {rm : Room} {own C : String} {b : Nat} {As rest st0 : List Value} {X : State → Prop} {lv : List (Nat × Value)}
/-- a call on an object, by segments -/
theorem scallVi {G : S} {π : S → Int32} (hM : Met l y wsc rm (va_Pc (.ref b :: As) (wPre D T wcs.flatten H.size X)) (qI D T (fun r u => G = u ∧ r = π u) (fun u => (Bs u).flatten) (va_A wcs.flatten H.size)) 0 0 (va_A wcs.flatten H.size)) (S0 : CallFix p m c cc nL s args Ts own) (cw : CallW R s args own C index y bytes maxL ret wsc rm 0 0 n) (hX : ∀ (U : State) (g : JFrame) (mk : MethodId) (a : Array Value), X U → X (U.calling g mk a)) (hXs : ∀ U : State, U.heap = H → s.WarmedH U.vm → X U)
    (hP : va_P D vwCl sg.flatten H) (hK : va_K D vwCl T s) (hD : va_D A sg.flatten) (hS : va_S A s.heap H locs) (hA : ∀ q, s.heap.size ≤ q → A q) (hl : lv_has ls nL lv) (isC : List Nat) (hC : isC.map (fun i => sg[i]?) = wcs.map some) (hnd : va_nd isC = true) (q0 ci : Nat) {qc : vw_C} {fs : List Value} (hc : vwCl[ci]? = some qc) (hqc : qc.1 = C) (he : wcs.flatten[q0]? = some (b, .inr (ci, fs)))
    (hn : As.length = n) (hst : st0 = As.reverse ++ .ref b :: rest) (hrest : (rest.map fun v => v.category).sum ≤ 8) (hdg : decode cc pc = .ok (.invokevirtual index, 3)) (hf : cells ≤ R.cells ∧ slots ≤ R.slots) (hfst : ∀ u, (Bs u).map (fun w => w.map Prod.fst) = wcs.map (fun w => w.map Prod.fst))
    (kk : ∀ (u : S) (H1 : Heap) (locs1 : List Loc), G = u → va_P D vwCl (sput sg isC (Bs u)).flatten H1 → va_D A (sput sg isC (Bs u)).flatten → va_S A s.heap H1 locs1 → W p l e R s m args below meth c H1 locs1 cells slots Q (F0 m (pc + 3) ls (.int (π u) :: rest))) : W p l e R s m args below meth c H locs cells slots Q (F0 m pc ls st0) := by
  subst hst
  have hFc := sg_free hD hS hA isC hC
  refine va_calli (va_runV (As := As) (rest := rest) S0 hM cw (sg_preV hX hXs hP hK hD isC hC hnd hc hqc he) rfl hn hl.1 rfl (lv_room hrest) hdg hf) hS (fun q _ h => hFc q h) hFc (fun r u t H1 locs1 ht hvm hw hB hz1 hk1 hS1 => ?_)
  obtain ⟨hP1, hK1, hD1⟩ := hB
  rw [ht] at hP1
  obtain ⟨hP2, hD2⟩ := sg_join hP hD isC hC (hfst u) hk1 hP1
  rw [hw.2]
  exact kk u H1 locs1 hw.1 hP2 hD2 hS1

/-- a call on an object, by segments -/
theorem scallVf {G : S} {π : S → UInt32} (hM : Met l y wsc rm (va_Pc (.ref b :: As) (wPre D T wcs.flatten H.size X)) (qF D T (fun r u => G = u ∧ r = π u) (fun u => (Bs u).flatten) (va_A wcs.flatten H.size)) 0 0 (va_A wcs.flatten H.size)) (S0 : CallFix p m c cc nL s args Ts own) (cw : CallW R s args own C index y bytes maxL ret wsc rm 0 0 n) (hX : ∀ (U : State) (g : JFrame) (mk : MethodId) (a : Array Value), X U → X (U.calling g mk a)) (hXs : ∀ U : State, U.heap = H → s.WarmedH U.vm → X U)
    (hP : va_P D vwCl sg.flatten H) (hK : va_K D vwCl T s) (hD : va_D A sg.flatten) (hS : va_S A s.heap H locs) (hA : ∀ q, s.heap.size ≤ q → A q) (hl : lv_has ls nL lv) (isC : List Nat) (hC : isC.map (fun i => sg[i]?) = wcs.map some) (hnd : va_nd isC = true) (q0 ci : Nat) {qc : vw_C} {fs : List Value} (hc : vwCl[ci]? = some qc) (hqc : qc.1 = C) (he : wcs.flatten[q0]? = some (b, .inr (ci, fs)))
    (hn : As.length = n) (hst : st0 = As.reverse ++ .ref b :: rest) (hrest : (rest.map fun v => v.category).sum ≤ 8) (hdg : decode cc pc = .ok (.invokevirtual index, 3)) (hf : cells ≤ R.cells ∧ slots ≤ R.slots) (hfst : ∀ u, (Bs u).map (fun w => w.map Prod.fst) = wcs.map (fun w => w.map Prod.fst))
    (kk : ∀ (u : S) (H1 : Heap) (locs1 : List Loc), G = u → va_P D vwCl (sput sg isC (Bs u)).flatten H1 → va_D A (sput sg isC (Bs u)).flatten → va_S A s.heap H1 locs1 → W p l e R s m args below meth c H1 locs1 cells slots Q (F0 m (pc + 3) ls (.float (π u) :: rest))) : W p l e R s m args below meth c H locs cells slots Q (F0 m pc ls st0) := by
  subst hst
  have hFc := sg_free hD hS hA isC hC
  refine va_callf (va_runV (As := As) (rest := rest) S0 hM cw (sg_preV hX hXs hP hK hD isC hC hnd hc hqc he) rfl hn hl.1 rfl (lv_room hrest) hdg hf) hS (fun q _ h => hFc q h) hFc (fun r u t H1 locs1 ht hvm hw hB hz1 hk1 hS1 => ?_)
  obtain ⟨hP1, hK1, hD1⟩ := hB
  rw [ht] at hP1
  obtain ⟨hP2, hD2⟩ := sg_join hP hD isC hC (hfst u) hk1 hP1
  rw [hw.2]
  exact kk u H1 locs1 hw.1 hP2 hD2 hS1

/-- a call on an object, by segments -/
theorem scallVl {G : S} {π : S → Int64} (hM : Met l y wsc rm (va_Pc (.ref b :: As) (wPre D T wcs.flatten H.size X)) (qL D T (fun r u => G = u ∧ r = π u) (fun u => (Bs u).flatten) (va_A wcs.flatten H.size)) 0 0 (va_A wcs.flatten H.size)) (S0 : CallFix p m c cc nL s args Ts own) (cw : CallW R s args own C index y bytes maxL ret wsc rm 0 0 n) (hX : ∀ (U : State) (g : JFrame) (mk : MethodId) (a : Array Value), X U → X (U.calling g mk a)) (hXs : ∀ U : State, U.heap = H → s.WarmedH U.vm → X U)
    (hP : va_P D vwCl sg.flatten H) (hK : va_K D vwCl T s) (hD : va_D A sg.flatten) (hS : va_S A s.heap H locs) (hA : ∀ q, s.heap.size ≤ q → A q) (hl : lv_has ls nL lv) (isC : List Nat) (hC : isC.map (fun i => sg[i]?) = wcs.map some) (hnd : va_nd isC = true) (q0 ci : Nat) {qc : vw_C} {fs : List Value} (hc : vwCl[ci]? = some qc) (hqc : qc.1 = C) (he : wcs.flatten[q0]? = some (b, .inr (ci, fs)))
    (hn : As.length = n) (hst : st0 = As.reverse ++ .ref b :: rest) (hrest : (rest.map fun v => v.category).sum ≤ 8) (hdg : decode cc pc = .ok (.invokevirtual index, 3)) (hf : cells ≤ R.cells ∧ slots ≤ R.slots) (hfst : ∀ u, (Bs u).map (fun w => w.map Prod.fst) = wcs.map (fun w => w.map Prod.fst))
    (kk : ∀ (u : S) (H1 : Heap) (locs1 : List Loc), G = u → va_P D vwCl (sput sg isC (Bs u)).flatten H1 → va_D A (sput sg isC (Bs u)).flatten → va_S A s.heap H1 locs1 → W p l e R s m args below meth c H1 locs1 cells slots Q (F0 m (pc + 3) ls (.long (π u) :: rest))) : W p l e R s m args below meth c H locs cells slots Q (F0 m pc ls st0) := by
  subst hst
  have hFc := sg_free hD hS hA isC hC
  refine va_calll (va_runV (As := As) (rest := rest) S0 hM cw (sg_preV hX hXs hP hK hD isC hC hnd hc hqc he) rfl hn hl.1 rfl (lv_room hrest) hdg hf) hS (fun q _ h => hFc q h) hFc (fun r u t H1 locs1 ht hvm hw hB hz1 hk1 hS1 => ?_)
  obtain ⟨hP1, hK1, hD1⟩ := hB
  rw [ht] at hP1
  obtain ⟨hP2, hD2⟩ := sg_join hP hD isC hC (hfst u) hk1 hP1
  rw [hw.2]
  exact kk u H1 locs1 hw.1 hP2 hD2 hS1

/-- a call on an object, by segments -/
theorem scallVv {G : S} (hM : Met l y wsc rm (va_Pc (.ref b :: As) (wPre D T wcs.flatten H.size X)) (qV D T (fun u => G = u) (fun u => (Bs u).flatten) (va_A wcs.flatten H.size)) 0 0 (va_A wcs.flatten H.size)) (S0 : CallFix p m c cc nL s args Ts own) (cw : CallW R s args own C index y bytes maxL ret wsc rm 0 0 n) (hX : ∀ (U : State) (g : JFrame) (mk : MethodId) (a : Array Value), X U → X (U.calling g mk a)) (hXs : ∀ U : State, U.heap = H → s.WarmedH U.vm → X U)
    (hP : va_P D vwCl sg.flatten H) (hK : va_K D vwCl T s) (hD : va_D A sg.flatten) (hS : va_S A s.heap H locs) (hA : ∀ q, s.heap.size ≤ q → A q) (hl : lv_has ls nL lv) (isC : List Nat) (hC : isC.map (fun i => sg[i]?) = wcs.map some) (hnd : va_nd isC = true) (q0 ci : Nat) {qc : vw_C} {fs : List Value} (hc : vwCl[ci]? = some qc) (hqc : qc.1 = C) (he : wcs.flatten[q0]? = some (b, .inr (ci, fs)))
    (hn : As.length = n) (hst : st0 = As.reverse ++ .ref b :: rest) (hrest : (rest.map fun v => v.category).sum ≤ 8) (hdg : decode cc pc = .ok (.invokevirtual index, 3)) (hf : cells ≤ R.cells ∧ slots ≤ R.slots) (hfst : ∀ u, (Bs u).map (fun w => w.map Prod.fst) = wcs.map (fun w => w.map Prod.fst))
    (kk : ∀ (u : S) (H1 : Heap) (locs1 : List Loc), G = u → va_P D vwCl (sput sg isC (Bs u)).flatten H1 → va_D A (sput sg isC (Bs u)).flatten → va_S A s.heap H1 locs1 → W p l e R s m args below meth c H1 locs1 cells slots Q (F0 m (pc + 3) ls rest)) : W p l e R s m args below meth c H locs cells slots Q (F0 m pc ls st0) := by
  subst hst
  have hFc := sg_free hD hS hA isC hC
  refine va_callv (va_runV (As := As) (rest := rest) S0 hM cw (sg_preV hX hXs hP hK hD isC hC hnd hc hqc he) rfl hn hl.1 rfl (lv_room hrest) hdg hf) hS (fun q _ h => hFc q h) hFc (fun u t H1 locs1 ht hvm hw hB hz1 hk1 hS1 => ?_)
  obtain ⟨hP1, hK1, hD1⟩ := hB
  rw [ht] at hP1
  obtain ⟨hP2, hD2⟩ := sg_join hP hD isC hC (hfst u) hk1 hP1
  exact kk u H1 locs1 hw hP2 hD2 hS1

/-- a call on an object, by segments -/
theorem scallVq {G : S} {π : S → Option Nat} (hM : Met l y wsc rm (va_Pc (.ref b :: As) (wPre D T wcs.flatten H.size X)) (qQ D T (fun r u => G = u ∧ r = π u) (fun u => (Bs u).flatten) (va_A wcs.flatten H.size)) 0 0 (va_A wcs.flatten H.size)) (S0 : CallFix p m c cc nL s args Ts own) (cw : CallW R s args own C index y bytes maxL ret wsc rm 0 0 n) (hX : ∀ (U : State) (g : JFrame) (mk : MethodId) (a : Array Value), X U → X (U.calling g mk a)) (hXs : ∀ U : State, U.heap = H → s.WarmedH U.vm → X U)
    (hP : va_P D vwCl sg.flatten H) (hK : va_K D vwCl T s) (hD : va_D A sg.flatten) (hS : va_S A s.heap H locs) (hA : ∀ q, s.heap.size ≤ q → A q) (hl : lv_has ls nL lv) (isC : List Nat) (hC : isC.map (fun i => sg[i]?) = wcs.map some) (hnd : va_nd isC = true) (q0 ci : Nat) {qc : vw_C} {fs : List Value} (hc : vwCl[ci]? = some qc) (hqc : qc.1 = C) (he : wcs.flatten[q0]? = some (b, .inr (ci, fs)))
    (hn : As.length = n) (hst : st0 = As.reverse ++ .ref b :: rest) (hrest : (rest.map fun v => v.category).sum ≤ 8) (hdg : decode cc pc = .ok (.invokevirtual index, 3)) (hf : cells ≤ R.cells ∧ slots ≤ R.slots) (hfst : ∀ u, (Bs u).map (fun w => w.map Prod.fst) = wcs.map (fun w => w.map Prod.fst))
    (kk : ∀ (u : S) (H1 : Heap) (locs1 : List Loc), G = u → va_P D vwCl (sput sg isC (Bs u)).flatten H1 → va_D A (sput sg isC (Bs u)).flatten → va_S A s.heap H1 locs1 → W p l e R s m args below meth c H1 locs1 cells slots Q (F0 m (pc + 3) ls (va_rf (π u) :: rest))) : W p l e R s m args below meth c H locs cells slots Q (F0 m pc ls st0) := by
  subst hst
  have hFc := sg_free hD hS hA isC hC
  refine va_callq (va_runV (As := As) (rest := rest) S0 hM cw (sg_preV hX hXs hP hK hD isC hC hnd hc hqc he) rfl hn hl.1 rfl (lv_room hrest) hdg hf) hS (fun q _ h => hFc q h) hFc (fun r u t H1 locs1 ht hvm hw hB hz1 hk1 hS1 => ?_)
  obtain ⟨hP1, hK1, hD1⟩ := hB
  rw [ht] at hP1
  obtain ⟨hP2, hD2⟩ := sg_join hP hD isC hC (hfst u) hk1 hP1
  rw [hw.2]
  exact kk u H1 locs1 hw.1 hP2 hD2 hS1

end SegCall
