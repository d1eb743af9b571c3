/-! cells that are made -/
def wAO (U : State) : Prop := va_AO RX5 U
theorem wAO_warm {s U : State} (hW : s.WarmedH U.vm) (h : wAO s) : wAO U := va_AO.moved hW.alike h
theorem wAO_blind : ∀ (U : State) (g : JFrame) (mk : MethodId) (a : Array Value), wAO U → wAO (U.calling g mk a) := fun U g mk a h => va_AO.moved (u := U) (U := U.calling g mk a) (Vm.Alike.refl U.vm) h
theorem ty_sameI {D : va_G} {cI cC cS cA : ClassId} {s : State} (h : va_K D vwCl (TY cI cC cS) s) (h1 : va_K D vwCl (TY cI cC cS ++ [(cA, .int)]) s) : cI = cA := by
  have g1 : s.vm.findClass ("[" ++ FieldType.int.toString) = some cI := (h.2 0 _ rfl).2
  have g2 : s.vm.findClass ("[" ++ FieldType.int.toString) = some cA := (h1.2 3 _ rfl).2
  exact Option.some.inj (g1.symm.trans g2)
theorem ty_sameC {D : va_G} {cI cC cS cA : ClassId} {s : State} (h : va_K D vwCl (TY cI cC cS) s) (h1 : va_K D vwCl (TY cI cC cS ++ [(cA, .char)]) s) : cC = cA := by
  have g1 : s.vm.findClass ("[" ++ FieldType.char.toString) = some cC := (h.2 1 _ rfl).2
  have g2 : s.vm.findClass ("[" ++ FieldType.char.toString) = some cA := (h1.2 3 _ rfl).2
  exact Option.some.inj (g1.symm.trans g2)
theorem ty_sameS {D : va_G} {cI cC cS cA : ClassId} {s : State} (h : va_K D vwCl (TY cI cC cS) s) (h1 : va_K D vwCl (TY cI cC cS ++ [(cA, .object RX5)]) s) : cS = cA := by
  obtain ⟨_, _, _, _, _, g1⟩ := (h.2 2 _ rfl).2
  obtain ⟨_, _, _, _, _, g2⟩ := (h1.2 3 _ rfl).2
  exact Option.some.inj (g1.symm.trans g2)
theorem nd_from : ∀ (n k : Nat), va_nd (List.range' k n) = true := by
  intro n
  induction n with
  | zero => intro k; rfl
  | succ n ih =>
    intro k
    show va_nd (k :: List.range' (k + 1) n) = true
    simp only [va_nd, Bool.and_eq_true, decide_eq_true_eq]
    exact ⟨fun h => by have := (List.mem_range'_1.mp h).1; omega, ih (k + 1)⟩
theorem rest_at (wr : va_W) (x : Nat × va_E) : (List.range' 0 wr.length).map (fun i => (wr ++ [x])[i]?) = wr.map some := by
  apply List.ext_getElem?
  intro k
  rw [List.getElem?_map, List.getElem?_map]
  by_cases hk : k < wr.length
  · rw [List.getElem?_range' hk, List.getElem?_eq_getElem hk]
    show some ((wr ++ [x])[0 + 1 * k]?) = some (some wr[k])
    rw [Nat.one_mul, Nat.zero_add, List.getElem?_append_left hk, List.getElem?_eq_getElem hk]
  · rw [List.getElem?_eq_none (by rw [List.length_range']; omega), List.getElem?_eq_none (by omega)]
    rfl
section NewCall
variable {p : Program} {l : Launch} {e : Env} {R : Room} {s : State} {m : MethodId} {args : Array Value} {below : List Frame} {meth : Method} {c : Code} {H : Heap} {locs : List Loc} {cells slots : Nat} {Q : State → Prop}
variable {cc : ByteArray} {pc : Nat} {ls : Array Slot} {D : va_G} {T : List (ClassId × FieldType)} {A : Nat → Prop} {S : Type} {B : S → va_W}
variable {y : MethodName} {bytes : ByteArray} {maxL nL n index : Nat} {wsc Ts : List Cond} {rm : Room} {own : String} {b : Nat} {As rest st0 : List Value} {X : State → Prop} {lv : List (Nat × Value)}
/-- a constructor's call, on the cell that was made last -/
theorem callIn {post : S → Prop} {mc ms ci : Nat} {fs : List Value} {wr : va_W} (hM : Met l y wsc rm (va_Pc (.ref b :: As) (wPre D T [(b, .inr (ci, fs))] H.size X)) (qV D T post B (va_A [(b, .inr (ci, fs))] H.size)) mc ms (va_A [(b, .inr (ci, fs))] H.size)) (S0 : CallFix p m c cc nL s args Ts own) (cw : CallB R s args own index y bytes maxL none wsc rm mc ms n ∧ y.name = "<init>" ∧ (Cond.instanceMethod y).before args s = true) (hX : ∀ (U : State) (g : JFrame) (mk : MethodId) (a : Array Value), X U → X (U.calling g mk a)) (hXs : ∀ U : State, U.heap = H → s.WarmedH U.vm → X U)
    (hP : va_P D vwCl (wr ++ [(b, .inr (ci, fs))]) H) (hK : va_K D vwCl T s) (hD : va_D A (wr ++ [(b, .inr (ci, fs))])) (hS : va_S A s.heap H locs) (hA : ∀ q, s.heap.size ≤ q → A q) (hl : lv_has ls nL lv)
    (hn : As.length = n) (hst : st0 = As.reverse ++ .ref b :: rest) (hrest : (rest.map fun v => v.category).sum ≤ 8) (hdg : decode cc pc = .ok (.invokespecial index, 3)) (hf : cells + mc ≤ R.cells ∧ slots + ms ≤ R.slots)
    (kk : ∀ (u : S) (H1 : Heap) (locs1 : List Loc), post u → va_P D vwCl (wr ++ B u) H1 → va_D A (wr ++ B u) → va_S A s.heap H1 locs1 → W p l e R s m args below meth c H1 locs1 (cells + mc) (slots + ms) Q (F0 m (pc + 3) ls rest)) : W p l e R s m args below meth c H locs cells slots Q (F0 m pc ls st0) := by
  subst hst
  have hC : [wr.length].map (fun i => (wr ++ [(b, (.inr (ci, fs) : va_E))])[i]?) = [(b, (.inr (ci, fs) : va_E))].map some := by
    show [(wr ++ [(b, (.inr (ci, fs) : va_E))])[wr.length]?] = _
    rw [List.getElem?_append_right (Nat.le_refl _), Nat.sub_self]
    rfl
  have hFc := va_free (wc := [(b, .inr (ci, fs))]) hD hS hA [wr.length] hC
  refine va_callv (va_runI (As := As) (rest := rest) S0 hM cw (preS hX hXs hP hK hD [wr.length] hC rfl) rfl hn hl.1 rfl (lv_room hrest) hdg hf) hS (fun q _ h => hFc q h) hFc (fun u t H1 locs1 ht hvm hw hB hz1 hk1 hS1 => ?_)
  obtain ⟨hP1, hK1, hD1⟩ := hB
  rw [ht] at hP1
  obtain ⟨hP2, hD2⟩ := va_join hP hD [wr.length] (List.range' 0 wr.length) hC (rest_at wr _) (nd_from _ _) (fun i hi h => by
    have h1 := (List.mem_range'_1.mp hi).2
    have h2 := List.mem_singleton.mp h
    omega) hk1 hFc hP1 hD1
  exact kk u H1 locs1 hw hP2 hD2 hS1
end NewCall
theorem ix_c0 {x : Int32} (h0 : ¬ x < 0) (h1 : ¬ 12 ≤ x) : vp_in (8 + 3 * x + 0) 314 := by
  obtain ⟨a, ha, rfl⟩ := vp_in_of (vp_k (n := 12) h0 h1 (vp_d rfl)) (by decide)
  have h : ∀ a : Nat, a < 12 → decide (0 ≤ (8 + 3 * (nI a) + 0).toInt ∧ (8 + 3 * (nI a) + 0).toInt < (314 : Nat)) = true := by decide +kernel
  exact vp_d (h a ha)
theorem ix_c2 {x : Int32} (h0 : ¬ x < 0) (h1 : ¬ 12 ≤ x) : vp_in (8 + 3 * x + 2) 314 := by
  obtain ⟨a, ha, rfl⟩ := vp_in_of (vp_k (n := 12) h0 h1 (vp_d rfl)) (by decide)
  have h : ∀ a : Nat, a < 12 → decide (0 ≤ (8 + 3 * (nI a) + 2).toInt ∧ (8 + 3 * (nI a) + 2).toInt < (314 : Nat)) = true := by decide +kernel
  exact vp_d (h a ha)
/-- the value of X6_init -/
def fX6_inita  : Unit :=
  ()

set_option maxHeartbeats 4000000 in
set_option maxRecDepth 100000 in
/-- X6_init -/
theorem mX6_inita (l : Launch) (D : va_G) (cI cC cS : ClassId) (sz : Nat) (h : Nat)  : Met l yX6_init wsX6_init ({ frames := 1, cells := 1, slots := 240, locals := 16 } : Jvm.Room) (va_Pc [.ref h, .int 24, .int 10] (wPre D (TY cI cC cS) [(h, .inr (5, [.null, .int 0]))] sz X0)) (qV D (TY cI cC cS) (fun (u : Unit × (Nat → Nat)) => fX6_inita = u.1) (fun u => [(h, .inr (5, [.ref (u.2 0), .int 10])), ((u.2 0), .inl (cI, 240, .inl (fun _ => 0)))]) (va_A [(h, .inr (5, [.null, .int 0]))] sz)) 1 240 (va_A [(h, .inr (5, [.null, .int 0]))] sz) := by
  refine mkM (y := yX6_init) (wsl := wsX6_init) (fun Fr => qV D (TY cI cC cS) (fun (u : Unit × (Nat → Nat)) => fX6_inita = u.1) (fun u => [(h, .inr (5, [.ref (u.2 0), .int 10])), ((u.2 0), .inl (cI, 240, .inl (fun _ => 0)))]) Fr) (cc := cX6_init) (maxL := 4) (ret := none) (own := RX6) (lv := [(0, .ref h), (1, .int 24), (2, .int 10)]) (by decide) rfl rfl (Nat.le_of_ble_eq_true rfl) rfl ?_
  intro p e s m below meth c Fr ls hx hb hr hts hown hml hlk hin hP hK hD hS hA hAe hsz hX hl
  have hin := hin rfl
  have w_1 := hts (.fieldLink RX6 7 "FieldQuotas$Table" "numbers" "[I") (List.mem_of_getElem? (i := 5) rfl)
  have w_2 := sub_r (big := wsX6_init) (u_ws RX6 TX6 2) [7, 8] rfl
  have w_3 := hts (.fieldLink RX6 13 "FieldQuotas$Table" "columns" "I") (List.mem_of_getElem? (i := 6) rfl)
  refine lv_aload_n hx hb dX6_init_0 rfl (lv_at hl 0 rfl) ?_
  refine W.objInit hx hb hown (hts (.methodLink RX6 1 objectInit) (List.mem_of_getElem? (i := 1) rfl)) (hts (.instanceMethod objectInit) (List.mem_of_getElem? (i := 2) rfl)) (hts (.code objectInit ⟨#[0xb1]⟩ 1 none) (List.mem_of_getElem? (i := 3) rfl)) rfl (by rw [hml]; exact hl.1) rfl dX6_init_1 (Nat.le_of_ble_eq_true rfl) (Nat.le_of_ble_eq_true rfl) ?_
  refine W.eq (g2 := F0 m 4 ls []) rfl ?_
  refine lv_iload_n hx hb dX6_init_4 rfl (lv_at hl 1 rfl) ?_
  refine lv_iload_n hx hb dX6_init_5 rfl (lv_at hl 2 rfl) ?_
  refine lv_imul hx hb dX6_init_6 ?_
  refine W.eq (g2 := F0 m 7 ls [.int 240]) (by rw [show (24 : Int32) * 10 = 240 from by decide]) ?_
  refine lv_istore_n (lv' := [(3, .int 240), (0, .ref h), (1, .int 24), (2, .int 10)]) hx hb dX6_init_7 rfl hl (by decide) rfl (fun ls hl => ?_)
  refine lv_aload_n hx hb dX6_init_8 rfl (lv_at hl 1 rfl) ?_
  refine lv_iload_n hx hb dX6_init_9 rfl (lv_at hl 0 rfl) ?_
  refine lv_if_le (tgt := 17) hx hb dX6_init_10 (by decide) (fun h => absurd h (by decide)) (fun _ => ?_)
  refine lv_iload_n hx hb dX6_init_13 rfl (lv_at hl 0 rfl) ?_
  refine lv_goto (tgt := 18) hx hb dX6_init_14 (by decide) ?_
  refine va_newa (atype := .int) (ty := .int) (N' := 240) (a0 := (240, .inl (fun _ => 0))) hx hb (hts (.arrayClass .int) (List.mem_of_getElem? (i := 4) rfl)) rfl hK hP hD hS hA (fun _ => rfl) (by decide) (by decide) (Nat.le_of_ble_eq_true rfl) (Nat.le_of_ble_eq_true rfl) (Nat.le_of_ble_eq_true rfl) dX6_init_18 (fun q18_1 cA H hK1 hP hD hS => ?_)
  obtain rfl : cI = cA := ty_sameI hK hK1
  have hP : va_P D vwCl ([(h, .inr (5, [.null, .int 0])), (q18_1, .inl (cI, 240, .inl (fun _ => 0)))]) H := hP
  have hD : va_D Fr ([(h, .inr (5, [.null, .int 0])), (q18_1, .inl (cI, 240, .inl (fun _ => 0)))]) := hD
  refine va_putF (D := D) (ci := 5) (v := .ref q18_1) (ty := (.array .int)) (C := RX6) (T := TX6) (N := 2) hx hb hts w_2 tyX6 tyX6_ok nmX6 hown hK hP hD hS 0 rfl rfl 0 (by decide) w_1 (fun _ h9 => h9) rfl hin rfl (by decide +kernel) rfl rfl (Nat.le_of_ble_eq_true rfl) dX6_init_20 (fun H locs hP hD hS => ?_)
  have hP : va_P D vwCl ([(h, .inr (5, [.ref q18_1, .int 0])), (q18_1, .inl (cI, 240, .inl (fun _ => 0)))]) H := hP
  have hD : va_D Fr ([(h, .inr (5, [.ref q18_1, .int 0])), (q18_1, .inl (cI, 240, .inl (fun _ => 0)))]) := hD
  refine lv_aload_n hx hb dX6_init_23 rfl (lv_at hl 1 rfl) ?_
  refine lv_iload_n hx hb dX6_init_24 rfl (lv_at hl 3 rfl) ?_
  refine va_putF (D := D) (ci := 5) (v := .int 10) (ty := .int) (C := RX6) (T := TX6) (N := 2) hx hb hts w_2 tyX6 tyX6_ok nmX6 hown hK hP hD hS 0 rfl rfl 1 (by decide) w_3 (fun _ h9 => h9) rfl hin rfl (by decide +kernel) rfl rfl (Nat.le_of_ble_eq_true rfl) dX6_init_25 (fun H locs hP hD hS => ?_)
  have hP : va_P D vwCl ([(h, .inr (5, [.ref q18_1, .int 10])), (q18_1, .inl (cI, 240, .inl (fun _ => 0)))]) H := hP
  have hD : va_D Fr ([(h, .inr (5, [.ref q18_1, .int 10])), (q18_1, .inl (cI, 240, .inl (fun _ => 0)))]) := hD
  exact endV hx hb hr hlk hP hK hD hS dX6_init_28 ((), fun i => ([q18_1] : List Nat).getD i 0) rfl rfl

/-- the value of X6_init -/
def fX6_initb  : Unit :=
  ()

set_option maxHeartbeats 4000000 in
set_option maxRecDepth 100000 in
/-- X6_init -/
theorem mX6_initb (l : Launch) (D : va_G) (cI cC cS : ClassId) (sz : Nat) (h : Nat)  : Met l yX6_init wsX6_init ({ frames := 1, cells := 1, slots := 30, locals := 16 } : Jvm.Room) (va_Pc [.ref h, .int 5, .int 6] (wPre D (TY cI cC cS) [(h, .inr (5, [.null, .int 0]))] sz X0)) (qV D (TY cI cC cS) (fun (u : Unit × (Nat → Nat)) => fX6_initb = u.1) (fun u => [(h, .inr (5, [.ref (u.2 0), .int 6])), ((u.2 0), .inl (cI, 30, .inl (fun _ => 0)))]) (va_A [(h, .inr (5, [.null, .int 0]))] sz)) 1 30 (va_A [(h, .inr (5, [.null, .int 0]))] sz) := by
  refine mkM (y := yX6_init) (wsl := wsX6_init) (fun Fr => qV D (TY cI cC cS) (fun (u : Unit × (Nat → Nat)) => fX6_initb = u.1) (fun u => [(h, .inr (5, [.ref (u.2 0), .int 6])), ((u.2 0), .inl (cI, 30, .inl (fun _ => 0)))]) Fr) (cc := cX6_init) (maxL := 4) (ret := none) (own := RX6) (lv := [(0, .ref h), (1, .int 5), (2, .int 6)]) (by decide) rfl rfl (Nat.le_of_ble_eq_true rfl) rfl ?_
  intro p e s m below meth c Fr ls hx hb hr hts hown hml hlk hin hP hK hD hS hA hAe hsz hX hl
  have hin := hin rfl
  have w_1 := hts (.fieldLink RX6 7 "FieldQuotas$Table" "numbers" "[I") (List.mem_of_getElem? (i := 5) rfl)
  have w_2 := sub_r (big := wsX6_init) (u_ws RX6 TX6 2) [7, 8] rfl
  have w_3 := hts (.fieldLink RX6 13 "FieldQuotas$Table" "columns" "I") (List.mem_of_getElem? (i := 6) rfl)
  refine lv_aload_n hx hb dX6_init_0 rfl (lv_at hl 0 rfl) ?_
  refine W.objInit hx hb hown (hts (.methodLink RX6 1 objectInit) (List.mem_of_getElem? (i := 1) rfl)) (hts (.instanceMethod objectInit) (List.mem_of_getElem? (i := 2) rfl)) (hts (.code objectInit ⟨#[0xb1]⟩ 1 none) (List.mem_of_getElem? (i := 3) rfl)) rfl (by rw [hml]; exact hl.1) rfl dX6_init_1 (Nat.le_of_ble_eq_true rfl) (Nat.le_of_ble_eq_true rfl) ?_
  refine W.eq (g2 := F0 m 4 ls []) rfl ?_
  refine lv_iload_n hx hb dX6_init_4 rfl (lv_at hl 1 rfl) ?_
  refine lv_iload_n hx hb dX6_init_5 rfl (lv_at hl 2 rfl) ?_
  refine lv_imul hx hb dX6_init_6 ?_
  refine W.eq (g2 := F0 m 7 ls [.int 30]) (by rw [show (5 : Int32) * 6 = 30 from by decide]) ?_
  refine lv_istore_n (lv' := [(3, .int 30), (0, .ref h), (1, .int 5), (2, .int 6)]) hx hb dX6_init_7 rfl hl (by decide) rfl (fun ls hl => ?_)
  refine lv_aload_n hx hb dX6_init_8 rfl (lv_at hl 1 rfl) ?_
  refine lv_iload_n hx hb dX6_init_9 rfl (lv_at hl 0 rfl) ?_
  refine lv_if_le (tgt := 17) hx hb dX6_init_10 (by decide) (fun h => absurd h (by decide)) (fun _ => ?_)
  refine lv_iload_n hx hb dX6_init_13 rfl (lv_at hl 0 rfl) ?_
  refine lv_goto (tgt := 18) hx hb dX6_init_14 (by decide) ?_
  refine va_newa (atype := .int) (ty := .int) (N' := 30) (a0 := (30, .inl (fun _ => 0))) hx hb (hts (.arrayClass .int) (List.mem_of_getElem? (i := 4) rfl)) rfl hK hP hD hS hA (fun _ => rfl) (by decide) (by decide) (Nat.le_of_ble_eq_true rfl) (Nat.le_of_ble_eq_true rfl) (Nat.le_of_ble_eq_true rfl) dX6_init_18 (fun q18_1 cA H hK1 hP hD hS => ?_)
  obtain rfl : cI = cA := ty_sameI hK hK1
  have hP : va_P D vwCl ([(h, .inr (5, [.null, .int 0])), (q18_1, .inl (cI, 30, .inl (fun _ => 0)))]) H := hP
  have hD : va_D Fr ([(h, .inr (5, [.null, .int 0])), (q18_1, .inl (cI, 30, .inl (fun _ => 0)))]) := hD
  refine va_putF (D := D) (ci := 5) (v := .ref q18_1) (ty := (.array .int)) (C := RX6) (T := TX6) (N := 2) hx hb hts w_2 tyX6 tyX6_ok nmX6 hown hK hP hD hS 0 rfl rfl 0 (by decide) w_1 (fun _ h9 => h9) rfl hin rfl (by decide +kernel) rfl rfl (Nat.le_of_ble_eq_true rfl) dX6_init_20 (fun H locs hP hD hS => ?_)
  have hP : va_P D vwCl ([(h, .inr (5, [.ref q18_1, .int 0])), (q18_1, .inl (cI, 30, .inl (fun _ => 0)))]) H := hP
  have hD : va_D Fr ([(h, .inr (5, [.ref q18_1, .int 0])), (q18_1, .inl (cI, 30, .inl (fun _ => 0)))]) := hD
  refine lv_aload_n hx hb dX6_init_23 rfl (lv_at hl 1 rfl) ?_
  refine lv_iload_n hx hb dX6_init_24 rfl (lv_at hl 3 rfl) ?_
  refine va_putF (D := D) (ci := 5) (v := .int 6) (ty := .int) (C := RX6) (T := TX6) (N := 2) hx hb hts w_2 tyX6 tyX6_ok nmX6 hown hK hP hD hS 0 rfl rfl 1 (by decide) w_3 (fun _ h9 => h9) rfl hin rfl (by decide +kernel) rfl rfl (Nat.le_of_ble_eq_true rfl) dX6_init_25 (fun H locs hP hD hS => ?_)
  have hP : va_P D vwCl ([(h, .inr (5, [.ref q18_1, .int 6])), (q18_1, .inl (cI, 30, .inl (fun _ => 0)))]) H := hP
  have hD : va_D Fr ([(h, .inr (5, [.ref q18_1, .int 6])), (q18_1, .inl (cI, 30, .inl (fun _ => 0)))]) := hD
  exact endV hx hb hr hlk hP hK hD hS dX6_init_28 ((), fun i => ([q18_1] : List Nat).getD i 0) rfl rfl

/-- the value of X6_init -/
def fX6_initc  : Unit :=
  ()

set_option maxHeartbeats 4000000 in
set_option maxRecDepth 100000 in
/-- X6_init -/
theorem mX6_initc (l : Launch) (D : va_G) (cI cC cS : ClassId) (sz : Nat) (h : Nat)  : Met l yX6_init wsX6_init ({ frames := 1, cells := 1, slots := 36, locals := 16 } : Jvm.Room) (va_Pc [.ref h, .int 12, .int 3] (wPre D (TY cI cC cS) [(h, .inr (5, [.null, .int 0]))] sz X0)) (qV D (TY cI cC cS) (fun (u : Unit × (Nat → Nat)) => fX6_initc = u.1) (fun u => [(h, .inr (5, [.ref (u.2 0), .int 3])), ((u.2 0), .inl (cI, 36, .inl (fun _ => 0)))]) (va_A [(h, .inr (5, [.null, .int 0]))] sz)) 1 36 (va_A [(h, .inr (5, [.null, .int 0]))] sz) := by
  refine mkM (y := yX6_init) (wsl := wsX6_init) (fun Fr => qV D (TY cI cC cS) (fun (u : Unit × (Nat → Nat)) => fX6_initc = u.1) (fun u => [(h, .inr (5, [.ref (u.2 0), .int 3])), ((u.2 0), .inl (cI, 36, .inl (fun _ => 0)))]) Fr) (cc := cX6_init) (maxL := 4) (ret := none) (own := RX6) (lv := [(0, .ref h), (1, .int 12), (2, .int 3)]) (by decide) rfl rfl (Nat.le_of_ble_eq_true rfl) rfl ?_
  intro p e s m below meth c Fr ls hx hb hr hts hown hml hlk hin hP hK hD hS hA hAe hsz hX hl
  have hin := hin rfl
  have w_1 := hts (.fieldLink RX6 7 "FieldQuotas$Table" "numbers" "[I") (List.mem_of_getElem? (i := 5) rfl)
  have w_2 := sub_r (big := wsX6_init) (u_ws RX6 TX6 2) [7, 8] rfl
  have w_3 := hts (.fieldLink RX6 13 "FieldQuotas$Table" "columns" "I") (List.mem_of_getElem? (i := 6) rfl)
  refine lv_aload_n hx hb dX6_init_0 rfl (lv_at hl 0 rfl) ?_
  refine W.objInit hx hb hown (hts (.methodLink RX6 1 objectInit) (List.mem_of_getElem? (i := 1) rfl)) (hts (.instanceMethod objectInit) (List.mem_of_getElem? (i := 2) rfl)) (hts (.code objectInit ⟨#[0xb1]⟩ 1 none) (List.mem_of_getElem? (i := 3) rfl)) rfl (by rw [hml]; exact hl.1) rfl dX6_init_1 (Nat.le_of_ble_eq_true rfl) (Nat.le_of_ble_eq_true rfl) ?_
  refine W.eq (g2 := F0 m 4 ls []) rfl ?_
  refine lv_iload_n hx hb dX6_init_4 rfl (lv_at hl 1 rfl) ?_
  refine lv_iload_n hx hb dX6_init_5 rfl (lv_at hl 2 rfl) ?_
  refine lv_imul hx hb dX6_init_6 ?_
  refine W.eq (g2 := F0 m 7 ls [.int 36]) (by rw [show (12 : Int32) * 3 = 36 from by decide]) ?_
  refine lv_istore_n (lv' := [(3, .int 36), (0, .ref h), (1, .int 12), (2, .int 3)]) hx hb dX6_init_7 rfl hl (by decide) rfl (fun ls hl => ?_)
  refine lv_aload_n hx hb dX6_init_8 rfl (lv_at hl 1 rfl) ?_
  refine lv_iload_n hx hb dX6_init_9 rfl (lv_at hl 0 rfl) ?_
  refine lv_if_le (tgt := 17) hx hb dX6_init_10 (by decide) (fun h => absurd h (by decide)) (fun _ => ?_)
  refine lv_iload_n hx hb dX6_init_13 rfl (lv_at hl 0 rfl) ?_
  refine lv_goto (tgt := 18) hx hb dX6_init_14 (by decide) ?_
  refine va_newa (atype := .int) (ty := .int) (N' := 36) (a0 := (36, .inl (fun _ => 0))) hx hb (hts (.arrayClass .int) (List.mem_of_getElem? (i := 4) rfl)) rfl hK hP hD hS hA (fun _ => rfl) (by decide) (by decide) (Nat.le_of_ble_eq_true rfl) (Nat.le_of_ble_eq_true rfl) (Nat.le_of_ble_eq_true rfl) dX6_init_18 (fun q18_1 cA H hK1 hP hD hS => ?_)
  obtain rfl : cI = cA := ty_sameI hK hK1
  have hP : va_P D vwCl ([(h, .inr (5, [.null, .int 0])), (q18_1, .inl (cI, 36, .inl (fun _ => 0)))]) H := hP
  have hD : va_D Fr ([(h, .inr (5, [.null, .int 0])), (q18_1, .inl (cI, 36, .inl (fun _ => 0)))]) := hD
  refine va_putF (D := D) (ci := 5) (v := .ref q18_1) (ty := (.array .int)) (C := RX6) (T := TX6) (N := 2) hx hb hts w_2 tyX6 tyX6_ok nmX6 hown hK hP hD hS 0 rfl rfl 0 (by decide) w_1 (fun _ h9 => h9) rfl hin rfl (by decide +kernel) rfl rfl (Nat.le_of_ble_eq_true rfl) dX6_init_20 (fun H locs hP hD hS => ?_)
  have hP : va_P D vwCl ([(h, .inr (5, [.ref q18_1, .int 0])), (q18_1, .inl (cI, 36, .inl (fun _ => 0)))]) H := hP
  have hD : va_D Fr ([(h, .inr (5, [.ref q18_1, .int 0])), (q18_1, .inl (cI, 36, .inl (fun _ => 0)))]) := hD
  refine lv_aload_n hx hb dX6_init_23 rfl (lv_at hl 1 rfl) ?_
  refine lv_iload_n hx hb dX6_init_24 rfl (lv_at hl 3 rfl) ?_
  refine va_putF (D := D) (ci := 5) (v := .int 3) (ty := .int) (C := RX6) (T := TX6) (N := 2) hx hb hts w_2 tyX6 tyX6_ok nmX6 hown hK hP hD hS 0 rfl rfl 1 (by decide) w_3 (fun _ h9 => h9) rfl hin rfl (by decide +kernel) rfl rfl (Nat.le_of_ble_eq_true rfl) dX6_init_25 (fun H locs hP hD hS => ?_)
  have hP : va_P D vwCl ([(h, .inr (5, [.ref q18_1, .int 3])), (q18_1, .inl (cI, 36, .inl (fun _ => 0)))]) H := hP
  have hD : va_D Fr ([(h, .inr (5, [.ref q18_1, .int 3])), (q18_1, .inl (cI, 36, .inl (fun _ => 0)))]) := hD
  exact endV hx hb hr hlk hP hK hD hS dX6_init_28 ((), fun i => ([q18_1] : List Nat).getD i 0) rfl rfl

/-- the loop of X5_init at 59 -/
def fX5_init_59  : Nat → Int32 → (Nat → Int32) → Nat → Int32
  | 0, _, _ => default
  | fu + 1, x1, QC =>
    (if (12 : Int32) ≤ x1 then QC else bd1 (fX6_put 36 QC 3 x1 0 2) (fun (u_6 : Nat → Int32) => bd1 (fX6_put 36 u_6 3 x1 2 100) (fun (u_9 : Nat → Int32) => fX5_init_59 fu (x1 + 1) u_9)))
theorem fX5_init_59_s  (fu : Nat) (x1 : Int32) (QC : Nat → Int32) : fX5_init_59 (fu + 1) x1 QC =
    (if (12 : Int32) ≤ x1 then QC else bd1 (fX6_put 36 QC 3 x1 0 2) (fun (u_6 : Nat → Int32) => bd1 (fX6_put 36 u_6 3 x1 2 100) (fun (u_9 : Nat → Int32) => fX5_init_59 fu (x1 + 1) u_9))) := rfl

/-- the value of X5_init -/
def fX5_init  : Nat → Int32 :=
  fX5_init_59 (((12 : Int32).toInt - (0 : Int32).toInt).toNat + 1) 0 (fun _ => 0)

set_option maxHeartbeats 4000000 in
set_option maxRecDepth 100000 in
/-- X5_init -/
theorem mX5_init (l : Launch) (D : va_G) (cI cC cS : ClassId) (sz : Nat) (h : Nat)  : Met l yX5_init wsX5_init ({ frames := 2, cells := 6, slots := 312, locals := 39 } : Jvm.Room) (va_Pc [.ref h] (wPre D (TY cI cC cS) [(h, .inr (4, [.null, .null, .null, .int 0, .int 0, .int 0, .int 0, .int 0]))] sz X0)) (qV D (TY cI cC cS) (fun (u : (Nat → Int32) × (Nat → Nat)) => fX5_init = u.1) (fun u => svW h (u.2 0) (u.2 1) (u.2 2) (u.2 3) (u.2 4) (u.2 5) cI (fun _ => 0) (fun _ => 0) u.1 0 0 0 4 1) (va_A [(h, .inr (4, [.null, .null, .null, .int 0, .int 0, .int 0, .int 0, .int 0]))] sz)) 6 312 (va_A [(h, .inr (4, [.null, .null, .null, .int 0, .int 0, .int 0, .int 0, .int 0]))] sz) := by
  refine mkM (y := yX5_init) (wsl := wsX5_init) (fun Fr => qV D (TY cI cC cS) (fun (u : (Nat → Int32) × (Nat → Nat)) => fX5_init = u.1) (fun u => svW h (u.2 0) (u.2 1) (u.2 2) (u.2 3) (u.2 4) (u.2 5) cI (fun _ => 0) (fun _ => 0) u.1 0 0 0 4 1) Fr) (cc := cX5_init) (maxL := 2) (ret := none) (own := RX5) (lv := [(0, .ref h)]) (by decide) rfl rfl (Nat.le_of_ble_eq_true rfl) rfl ?_
  intro p e s m below meth c Fr ls hx hb hr hts hown hml hlk hin hP hK hD hS hA hAe hsz hX hl
  have hin := hin rfl
  have w_1 := sub_r (big := wsX5_init) (u_ws RX6 TX6 2) [23, 24] rfl
  have w_2 := hts (.fieldLink RX5 14 "FieldQuotas$Survey" "addressRows" "LFieldQuotas$Table;") (List.mem_of_getElem? (i := 7) rfl)
  have w_3 := sub_r (big := wsX5_init) (u_ws RX5 TX5 8) [25, 26, 27, 28, 29, 30, 31, 32] rfl
  have w_4 := hts (.fieldLink RX5 20 "FieldQuotas$Survey" "interviewerRows" "LFieldQuotas$Table;") (List.mem_of_getElem? (i := 8) rfl)
  have w_5 := hts (.fieldLink RX5 23 "FieldQuotas$Survey" "cellRows" "LFieldQuotas$Table;") (List.mem_of_getElem? (i := 9) rfl)
  have w_6 := hts (.fieldLink RX5 26 "FieldQuotas$Survey" "vainLimit" "I") (List.mem_of_getElem? (i := 10) rfl)
  have w_7 := hts (.fieldLink RX5 30 "FieldQuotas$Survey" "daysBetween" "I") (List.mem_of_getElem? (i := 11) rfl)
  refine lv_aload_n hx hb dX5_init_0 rfl (lv_at hl 0 rfl) ?_
  refine W.objInit hx hb hown (hts (.methodLink RX5 3 objectInit) (List.mem_of_getElem? (i := 1) rfl)) (hts (.instanceMethod objectInit) (List.mem_of_getElem? (i := 2) rfl)) (hts (.code objectInit ⟨#[0xb1]⟩ 1 none) (List.mem_of_getElem? (i := 3) rfl)) rfl (by rw [hml]; exact hl.1) rfl dX5_init_1 (Nat.le_of_ble_eq_true rfl) (Nat.le_of_ble_eq_true rfl) ?_
  refine W.eq (g2 := F0 m 4 ls []) rfl ?_
  refine lv_aload_n hx hb dX5_init_4 rfl (lv_at hl 0 rfl) ?_
  refine va_new (D := D) (ci := 5) (fs := [.null, .int 0]) (C := RX6) (T := TX6) (N := 2) hx hb hts w_1 tyX6 tyX6_ok hown (hts (.classLink RX5 9 RX6) (List.mem_of_getElem? (i := 4) rfl)) (hts (.instantiable RX6 2) (List.mem_of_getElem? (i := 5) rfl)) (hts (.initialized RX6) (List.mem_of_getElem? (i := 6) rfl)) hK hP hD hS hA rfl (fun j hj => by rcases (show j = 0 ∨ j = 1 by omega) with rfl | rfl <;> rfl) (Nat.le_of_ble_eq_true rfl) (Nat.le_of_ble_eq_true rfl) dX5_init_5 (fun q5_1 H hP hD hS => ?_)
  refine lv_dup hx hb dX5_init_8 rfl ?_
  refine lv_bipush (v := 24) hx hb dX5_init_9 (by decide) ?_
  refine lv_bipush (v := 10) hx hb dX5_init_11 (by decide) ?_
  refine callIn (wr := ([(h, .inr (4, [.null, .null, .null, .int 0, .int 0, .int 0, .int 0, .int 0]))])) (As := [.int 24, .int 10]) (rest := [.ref q5_1, .ref h]) (fs := [.null, .int 0]) (mX6_inita l D cI cC cS _ q5_1) ⟨hx, hb, hml, hown, hts⟩ (cwI 2 hts gX5_init_X6_init rfl rfl rfl (hts (.initialized RX6) (List.mem_of_getElem? (i := 6) rfl)) (hts (.methodLink RX5 11 yX6_init) (List.mem_of_getElem? (i := 12) rfl)) (hts (.instanceMethod yX6_init) (List.mem_of_getElem? (i := 13) rfl)) rfl (by decide +kernel) ⟨Nat.le_of_ble_eq_true rfl, Nat.le_of_ble_eq_true rfl⟩) X0_blind (fun _ _ _ => trivial) hP hK hD hS hA hl rfl rfl (Nat.le_of_ble_eq_true rfl) dX5_init_13 ⟨Nat.le_of_ble_eq_true rfl, Nat.le_of_ble_eq_true rfl⟩ (fun u_1 H locs hk1 hP hD hS => ?_)
  obtain ⟨⟨⟩, u_1⟩ := u_1
  have hP : va_P D vwCl ([(h, .inr (4, [.null, .null, .null, .int 0, .int 0, .int 0, .int 0, .int 0])), (q5_1, .inr (5, [.ref (u_1 0), .int 10])), ((u_1 0), .inl (cI, 240, .inl (fun _ => 0)))]) H := hP
  have hD : va_D Fr ([(h, .inr (4, [.null, .null, .null, .int 0, .int 0, .int 0, .int 0, .int 0])), (q5_1, .inr (5, [.ref (u_1 0), .int 10])), ((u_1 0), .inl (cI, 240, .inl (fun _ => 0)))]) := hD
  refine W.eq (g2 := F0 m 16 ls [.ref q5_1, .ref h]) rfl ?_
  refine va_putF (D := D) (ci := 4) (v := .ref q5_1) (ty := (.object "FieldQuotas$Table")) (C := RX5) (T := TX5) (N := 8) hx hb hts w_3 tyX5 tyX5_ok nmX5 hown hK hP hD hS 0 rfl rfl 0 (by decide) w_2 (fun _ h9 => h9) rfl hin rfl (by decide +kernel) rfl rfl (Nat.le_of_ble_eq_true rfl) dX5_init_16 (fun H locs hP hD hS => ?_)
  have hP : va_P D vwCl ([(h, .inr (4, [.ref q5_1, .null, .null, .int 0, .int 0, .int 0, .int 0, .int 0])), (q5_1, .inr (5, [.ref (u_1 0), .int 10])), ((u_1 0), .inl (cI, 240, .inl (fun _ => 0)))]) H := hP
  have hD : va_D Fr ([(h, .inr (4, [.ref q5_1, .null, .null, .int 0, .int 0, .int 0, .int 0, .int 0])), (q5_1, .inr (5, [.ref (u_1 0), .int 10])), ((u_1 0), .inl (cI, 240, .inl (fun _ => 0)))]) := hD
  refine lv_aload_n hx hb dX5_init_19 rfl (lv_at hl 0 rfl) ?_
  refine va_new (D := D) (ci := 5) (fs := [.null, .int 0]) (C := RX6) (T := TX6) (N := 2) hx hb hts w_1 tyX6 tyX6_ok hown (hts (.classLink RX5 9 RX6) (List.mem_of_getElem? (i := 4) rfl)) (hts (.instantiable RX6 2) (List.mem_of_getElem? (i := 5) rfl)) (hts (.initialized RX6) (List.mem_of_getElem? (i := 6) rfl)) hK hP hD hS hA rfl (fun j hj => by rcases (show j = 0 ∨ j = 1 by omega) with rfl | rfl <;> rfl) (Nat.le_of_ble_eq_true rfl) (Nat.le_of_ble_eq_true rfl) dX5_init_20 (fun q20_3 H hP hD hS => ?_)
  refine lv_dup hx hb dX5_init_23 rfl ?_
  refine lv_iconst (v := 5) hx hb dX5_init_24 (by decide) ?_
  refine lv_bipush (v := 6) hx hb dX5_init_25 (by decide) ?_
  refine callIn (wr := ([(h, .inr (4, [.ref q5_1, .null, .null, .int 0, .int 0, .int 0, .int 0, .int 0])), (q5_1, .inr (5, [.ref (u_1 0), .int 10])), ((u_1 0), .inl (cI, 240, .inl (fun _ => 0)))])) (As := [.int 5, .int 6]) (rest := [.ref q20_3, .ref h]) (fs := [.null, .int 0]) (mX6_initb l D cI cC cS _ q20_3) ⟨hx, hb, hml, hown, hts⟩ (cwI 2 hts gX5_init_X6_init rfl rfl rfl (hts (.initialized RX6) (List.mem_of_getElem? (i := 6) rfl)) (hts (.methodLink RX5 11 yX6_init) (List.mem_of_getElem? (i := 12) rfl)) (hts (.instanceMethod yX6_init) (List.mem_of_getElem? (i := 13) rfl)) rfl (by decide +kernel) ⟨Nat.le_of_ble_eq_true rfl, Nat.le_of_ble_eq_true rfl⟩) X0_blind (fun _ _ _ => trivial) hP hK hD hS hA hl rfl rfl (Nat.le_of_ble_eq_true rfl) dX5_init_27 ⟨Nat.le_of_ble_eq_true rfl, Nat.le_of_ble_eq_true rfl⟩ (fun u_2 H locs hk2 hP hD hS => ?_)
  obtain ⟨⟨⟩, u_2⟩ := u_2
  have hP : va_P D vwCl ([(h, .inr (4, [.ref q5_1, .null, .null, .int 0, .int 0, .int 0, .int 0, .int 0])), (q5_1, .inr (5, [.ref (u_1 0), .int 10])), ((u_1 0), .inl (cI, 240, .inl (fun _ => 0))), (q20_3, .inr (5, [.ref (u_2 0), .int 6])), ((u_2 0), .inl (cI, 30, .inl (fun _ => 0)))]) H := hP
  have hD : va_D Fr ([(h, .inr (4, [.ref q5_1, .null, .null, .int 0, .int 0, .int 0, .int 0, .int 0])), (q5_1, .inr (5, [.ref (u_1 0), .int 10])), ((u_1 0), .inl (cI, 240, .inl (fun _ => 0))), (q20_3, .inr (5, [.ref (u_2 0), .int 6])), ((u_2 0), .inl (cI, 30, .inl (fun _ => 0)))]) := hD
  refine W.eq (g2 := F0 m 30 ls [.ref q20_3, .ref h]) rfl ?_
  refine va_putF (D := D) (ci := 4) (v := .ref q20_3) (ty := (.object "FieldQuotas$Table")) (C := RX5) (T := TX5) (N := 8) hx hb hts w_3 tyX5 tyX5_ok nmX5 hown hK hP hD hS 0 rfl rfl 1 (by decide) w_4 (fun _ h9 => h9) rfl hin rfl (by decide +kernel) rfl rfl (Nat.le_of_ble_eq_true rfl) dX5_init_30 (fun H locs hP hD hS => ?_)
  have hP : va_P D vwCl ([(h, .inr (4, [.ref q5_1, .ref q20_3, .null, .int 0, .int 0, .int 0, .int 0, .int 0])), (q5_1, .inr (5, [.ref (u_1 0), .int 10])), ((u_1 0), .inl (cI, 240, .inl (fun _ => 0))), (q20_3, .inr (5, [.ref (u_2 0), .int 6])), ((u_2 0), .inl (cI, 30, .inl (fun _ => 0)))]) H := hP
  have hD : va_D Fr ([(h, .inr (4, [.ref q5_1, .ref q20_3, .null, .int 0, .int 0, .int 0, .int 0, .int 0])), (q5_1, .inr (5, [.ref (u_1 0), .int 10])), ((u_1 0), .inl (cI, 240, .inl (fun _ => 0))), (q20_3, .inr (5, [.ref (u_2 0), .int 6])), ((u_2 0), .inl (cI, 30, .inl (fun _ => 0)))]) := hD
  refine lv_aload_n hx hb dX5_init_33 rfl (lv_at hl 0 rfl) ?_
  refine va_new (D := D) (ci := 5) (fs := [.null, .int 0]) (C := RX6) (T := TX6) (N := 2) hx hb hts w_1 tyX6 tyX6_ok hown (hts (.classLink RX5 9 RX6) (List.mem_of_getElem? (i := 4) rfl)) (hts (.instantiable RX6 2) (List.mem_of_getElem? (i := 5) rfl)) (hts (.initialized RX6) (List.mem_of_getElem? (i := 6) rfl)) hK hP hD hS hA rfl (fun j hj => by rcases (show j = 0 ∨ j = 1 by omega) with rfl | rfl <;> rfl) (Nat.le_of_ble_eq_true rfl) (Nat.le_of_ble_eq_true rfl) dX5_init_34 (fun q34_5 H hP hD hS => ?_)
  refine lv_dup hx hb dX5_init_37 rfl ?_
  refine lv_bipush (v := 12) hx hb dX5_init_38 (by decide) ?_
  refine lv_iconst (v := 3) hx hb dX5_init_40 (by decide) ?_
  refine callIn (wr := ([(h, .inr (4, [.ref q5_1, .ref q20_3, .null, .int 0, .int 0, .int 0, .int 0, .int 0])), (q5_1, .inr (5, [.ref (u_1 0), .int 10])), ((u_1 0), .inl (cI, 240, .inl (fun _ => 0))), (q20_3, .inr (5, [.ref (u_2 0), .int 6])), ((u_2 0), .inl (cI, 30, .inl (fun _ => 0)))])) (As := [.int 12, .int 3]) (rest := [.ref q34_5, .ref h]) (fs := [.null, .int 0]) (mX6_initc l D cI cC cS _ q34_5) ⟨hx, hb, hml, hown, hts⟩ (cwI 2 hts gX5_init_X6_init rfl rfl rfl (hts (.initialized RX6) (List.mem_of_getElem? (i := 6) rfl)) (hts (.methodLink RX5 11 yX6_init) (List.mem_of_getElem? (i := 12) rfl)) (hts (.instanceMethod yX6_init) (List.mem_of_getElem? (i := 13) rfl)) rfl (by decide +kernel) ⟨Nat.le_of_ble_eq_true rfl, Nat.le_of_ble_eq_true rfl⟩) X0_blind (fun _ _ _ => trivial) hP hK hD hS hA hl rfl rfl (Nat.le_of_ble_eq_true rfl) dX5_init_41 ⟨Nat.le_of_ble_eq_true rfl, Nat.le_of_ble_eq_true rfl⟩ (fun u_3 H locs hk3 hP hD hS => ?_)
  obtain ⟨⟨⟩, u_3⟩ := u_3
  have hP : va_P D vwCl ([(h, .inr (4, [.ref q5_1, .ref q20_3, .null, .int 0, .int 0, .int 0, .int 0, .int 0])), (q5_1, .inr (5, [.ref (u_1 0), .int 10])), ((u_1 0), .inl (cI, 240, .inl (fun _ => 0))), (q20_3, .inr (5, [.ref (u_2 0), .int 6])), ((u_2 0), .inl (cI, 30, .inl (fun _ => 0))), (q34_5, .inr (5, [.ref (u_3 0), .int 3])), ((u_3 0), .inl (cI, 36, .inl (fun _ => 0)))]) H := hP
  have hD : va_D Fr ([(h, .inr (4, [.ref q5_1, .ref q20_3, .null, .int 0, .int 0, .int 0, .int 0, .int 0])), (q5_1, .inr (5, [.ref (u_1 0), .int 10])), ((u_1 0), .inl (cI, 240, .inl (fun _ => 0))), (q20_3, .inr (5, [.ref (u_2 0), .int 6])), ((u_2 0), .inl (cI, 30, .inl (fun _ => 0))), (q34_5, .inr (5, [.ref (u_3 0), .int 3])), ((u_3 0), .inl (cI, 36, .inl (fun _ => 0)))]) := hD
  refine W.eq (g2 := F0 m 44 ls [.ref q34_5, .ref h]) rfl ?_
  refine va_putF (D := D) (ci := 4) (v := .ref q34_5) (ty := (.object "FieldQuotas$Table")) (C := RX5) (T := TX5) (N := 8) hx hb hts w_3 tyX5 tyX5_ok nmX5 hown hK hP hD hS 0 rfl rfl 2 (by decide) w_5 (fun _ h9 => h9) rfl hin rfl (by decide +kernel) rfl rfl (Nat.le_of_ble_eq_true rfl) dX5_init_44 (fun H locs hP hD hS => ?_)
  have hP : va_P D vwCl ([(h, .inr (4, [.ref q5_1, .ref q20_3, .ref q34_5, .int 0, .int 0, .int 0, .int 0, .int 0])), (q5_1, .inr (5, [.ref (u_1 0), .int 10])), ((u_1 0), .inl (cI, 240, .inl (fun _ => 0))), (q20_3, .inr (5, [.ref (u_2 0), .int 6])), ((u_2 0), .inl (cI, 30, .inl (fun _ => 0))), (q34_5, .inr (5, [.ref (u_3 0), .int 3])), ((u_3 0), .inl (cI, 36, .inl (fun _ => 0)))]) H := hP
  have hD : va_D Fr ([(h, .inr (4, [.ref q5_1, .ref q20_3, .ref q34_5, .int 0, .int 0, .int 0, .int 0, .int 0])), (q5_1, .inr (5, [.ref (u_1 0), .int 10])), ((u_1 0), .inl (cI, 240, .inl (fun _ => 0))), (q20_3, .inr (5, [.ref (u_2 0), .int 6])), ((u_2 0), .inl (cI, 30, .inl (fun _ => 0))), (q34_5, .inr (5, [.ref (u_3 0), .int 3])), ((u_3 0), .inl (cI, 36, .inl (fun _ => 0)))]) := hD
  refine lv_aload_n hx hb dX5_init_47 rfl (lv_at hl 0 rfl) ?_
  refine lv_iconst (v := 4) hx hb dX5_init_48 (by decide) ?_
  refine va_put (D := D) (ci := 4) (v := .int 4) (ty := .int) (C := RX5) (T := TX5) (N := 8) hx hb hts w_3 tyX5 tyX5_ok nmX5 hown hK hP hD hS 0 rfl rfl 6 (by decide) w_6 (fun _ h9 => h9) rfl (by decide +kernel) rfl rfl (Nat.le_of_ble_eq_true rfl) dX5_init_49 (fun H locs hP hD hS => ?_)
  have hP : va_P D vwCl ([(h, .inr (4, [.ref q5_1, .ref q20_3, .ref q34_5, .int 0, .int 0, .int 0, .int 4, .int 0])), (q5_1, .inr (5, [.ref (u_1 0), .int 10])), ((u_1 0), .inl (cI, 240, .inl (fun _ => 0))), (q20_3, .inr (5, [.ref (u_2 0), .int 6])), ((u_2 0), .inl (cI, 30, .inl (fun _ => 0))), (q34_5, .inr (5, [.ref (u_3 0), .int 3])), ((u_3 0), .inl (cI, 36, .inl (fun _ => 0)))]) H := hP
  have hD : va_D Fr ([(h, .inr (4, [.ref q5_1, .ref q20_3, .ref q34_5, .int 0, .int 0, .int 0, .int 4, .int 0])), (q5_1, .inr (5, [.ref (u_1 0), .int 10])), ((u_1 0), .inl (cI, 240, .inl (fun _ => 0))), (q20_3, .inr (5, [.ref (u_2 0), .int 6])), ((u_2 0), .inl (cI, 30, .inl (fun _ => 0))), (q34_5, .inr (5, [.ref (u_3 0), .int 3])), ((u_3 0), .inl (cI, 36, .inl (fun _ => 0)))]) := hD
  refine lv_aload_n hx hb dX5_init_52 rfl (lv_at hl 0 rfl) ?_
  refine lv_iconst (v := 1) hx hb dX5_init_53 (by decide) ?_
  refine va_put (D := D) (ci := 4) (v := .int 1) (ty := .int) (C := RX5) (T := TX5) (N := 8) hx hb hts w_3 tyX5 tyX5_ok nmX5 hown hK hP hD hS 0 rfl rfl 7 (by decide) w_7 (fun _ h9 => h9) rfl (by decide +kernel) rfl rfl (Nat.le_of_ble_eq_true rfl) dX5_init_54 (fun H locs hP hD hS => ?_)
  have hP : va_P D vwCl ([(h, .inr (4, [.ref q5_1, .ref q20_3, .ref q34_5, .int 0, .int 0, .int 0, .int 4, .int 1])), (q5_1, .inr (5, [.ref (u_1 0), .int 10])), ((u_1 0), .inl (cI, 240, .inl (fun _ => 0))), (q20_3, .inr (5, [.ref (u_2 0), .int 6])), ((u_2 0), .inl (cI, 30, .inl (fun _ => 0))), (q34_5, .inr (5, [.ref (u_3 0), .int 3])), ((u_3 0), .inl (cI, 36, .inl (fun _ => 0)))]) H := hP
  have hD : va_D Fr ([(h, .inr (4, [.ref q5_1, .ref q20_3, .ref q34_5, .int 0, .int 0, .int 0, .int 4, .int 1])), (q5_1, .inr (5, [.ref (u_1 0), .int 10])), ((u_1 0), .inl (cI, 240, .inl (fun _ => 0))), (q20_3, .inr (5, [.ref (u_2 0), .int 6])), ((u_2 0), .inl (cI, 30, .inl (fun _ => 0))), (q34_5, .inr (5, [.ref (u_3 0), .int 3])), ((u_3 0), .inl (cI, 36, .inl (fun _ => 0)))]) := hD
  refine lv_iconst (v := 0) hx hb dX5_init_57 (by decide) ?_
  refine lv_istore_n (lv' := [(1, .int 0), (0, .ref h)]) hx hb dX5_init_58 rfl hl (by decide) rfl (fun ls hl => ?_)
  have K_59 : ∀ (fu : Nat) (x1 : Int32) (QC : Nat → Int32) (H : Heap) (locs : List Loc) (ls : Array Slot), va_P D vwCl [(h, .inr (4, [.ref q5_1, .ref q20_3, .ref q34_5, .int 0, .int 0, .int 0, .int 4, .int 1])), (q5_1, .inr (5, [.ref (u_1 0), .int 10])), ((u_1 0), .inl (cI, 240, .inl (fun _ => 0))), (q20_3, .inr (5, [.ref (u_2 0), .int 6])), ((u_2 0), .inl (cI, 30, .inl (fun _ => 0))), (q34_5, .inr (5, [.ref (u_3 0), .int 3])), ((u_3 0), .inl (cI, 36, .inl QC))] H → va_D Fr [(h, .inr (4, [.ref q5_1, .ref q20_3, .ref q34_5, .int 0, .int 0, .int 0, .int 4, .int 1])), (q5_1, .inr (5, [.ref (u_1 0), .int 10])), ((u_1 0), .inl (cI, 240, .inl (fun _ => 0))), (q20_3, .inr (5, [.ref (u_2 0), .int 6])), ((u_2 0), .inl (cI, 30, .inl (fun _ => 0))), (q34_5, .inr (5, [.ref (u_3 0), .int 3])), ((u_3 0), .inl (cI, 36, .inl QC))] → va_S Fr s.heap H locs → lv_has ls 2 [(0, .ref h), (1, .int x1)] → ((12 : Int32).toInt - x1.toInt).toNat < fu → fX5_init = fX5_init_59 fu x1 QC → W p l e (headSpec wsX5_init ({ frames := 2, cells := 6, slots := 312, locals := 39 } : Jvm.Room)).room s m ([.ref h] : List Value).toArray below meth c H locs 6 312 (MQ below (qV D (TY cI cC cS) (fun (u : (Nat → Int32) × (Nat → Nat)) => fX5_init = u.1) (fun u => svW h (u.2 0) (u.2 1) (u.2 2) (u.2 3) (u.2 4) (u.2 5) cI (fun _ => 0) (fun _ => 0) u.1 0 0 0 4 1) Fr) ([.ref h] : List Value).toArray s 6 312 Fr) (F0 m 59 ls []) := by
    intro fu
    induction fu with
    | zero => intros; exact absurd (by assumption) (Nat.not_lt_zero _)
    | succ fu ih_59 =>
      intro x1 QC H locs ls hP hD hS hl  hm_59 E_59
      refine lv_iload_n hx hb dX5_init_59 rfl (lv_at hl 1 rfl) ?_
      refine lv_bipush (v := 12) hx hb dX5_init_60 (by decide) ?_
      refine lv_icmp_ge (tgt := 92) hx hb dX5_init_62 (by decide) (fun c62 => ?_) (fun c62 => ?_)
      · have hP := hP.sub (ws' := [(h, .inr (4, [.ref q5_1, .ref q20_3, .ref q34_5, .int 0, .int 0, .int 0, .int 4, .int 1])), (q5_1, .inr (5, [.ref (u_1 0), .int 10])), (q20_3, .inr (5, [.ref (u_2 0), .int 6])), (q34_5, .inr (5, [.ref (u_3 0), .int 3])), ((u_1 0), .inl (cI, 240, .inl (fun _ => 0))), ((u_2 0), .inl (cI, 30, .inl (fun _ => 0))), ((u_3 0), .inl (cI, 36, .inl QC))]) [0, 1, 3, 5, 2, 4, 6] rfl
        have hD := hD.sub (ws' := [(h, .inr (4, [.ref q5_1, .ref q20_3, .ref q34_5, .int 0, .int 0, .int 0, .int 4, .int 1])), (q5_1, .inr (5, [.ref (u_1 0), .int 10])), (q20_3, .inr (5, [.ref (u_2 0), .int 6])), (q34_5, .inr (5, [.ref (u_3 0), .int 3])), ((u_1 0), .inl (cI, 240, .inl (fun _ => 0))), ((u_2 0), .inl (cI, 30, .inl (fun _ => 0))), ((u_3 0), .inl (cI, 36, .inl QC))]) [0, 1, 3, 5, 2, 4, 6] (by decide) rfl
        exact endV hx hb hr hlk hP hK hD hS dX5_init_92 (QC, fun i => ([q5_1, q20_3, q34_5, (u_1 0), (u_2 0), (u_3 0)] : List Nat).getD i 0) rfl ((E_59).trans ((fX5_init_59_s fu x1 QC).trans ((if_pos c62).trans rfl)))
      · refine lv_aload_n hx hb dX5_init_65 rfl (lv_at hl 0 rfl) ?_
        refine va_get (D := D) (ci := 4) (C := RX5) (T := TX5) (N := 8) hx hb hts w_3 hown hK hP 0 rfl rfl 2 (by decide) w_5 (fun _ h9 => h9) rfl dX5_init_66 ?_
        refine lv_iload_n hx hb dX5_init_69 rfl (lv_at hl 1 rfl) ?_
        refine lv_iconst (v := 0) hx hb dX5_init_70 (by decide) ?_
        refine lv_iconst (v := 2) hx hb dX5_init_71 (by decide) ?_
        refine callVv (As := [.int x1, .int 0, .int 2]) (rest := []) (mX6_put l D cI cC cS _ q34_5 (u_3 0) 36 QC 3 x1 0 2 (by decide)) ⟨hx, hb, hml, hown, hts⟩ (cwV 3 hts gX5_init_X6_put rfl rfl rfl (by decide +kernel) ⟨Nat.le_of_ble_eq_true rfl, Nat.le_of_ble_eq_true rfl⟩) X0_blind (fun _ _ _ => trivial) hP hK hD hS hA hl [5, 6] rfl rfl 0 5 rfl rfl rfl rfl rfl (Nat.le_of_ble_eq_true rfl) dX5_init_72 ⟨Nat.le_of_ble_eq_true rfl, Nat.le_of_ble_eq_true rfl⟩ (fun _ => rfl) (fun u_ H locs hk6 hP hD hS => ?_)
        obtain ⟨u_6, e_u_6⟩ : ∃ z, z = u_ := ⟨_, rfl⟩
        subst e_u_6
        have hP : va_P D vwCl ([(h, .inr (4, [.ref q5_1, .ref q20_3, .ref q34_5, .int 0, .int 0, .int 0, .int 4, .int 1])), (q5_1, .inr (5, [.ref (u_1 0), .int 10])), ((u_1 0), .inl (cI, 240, .inl (fun _ => 0))), (q20_3, .inr (5, [.ref (u_2 0), .int 6])), ((u_2 0), .inl (cI, 30, .inl (fun _ => 0))), (q34_5, .inr (5, [.ref (u_3 0), .int 3])), ((u_3 0), .inl (cI, 36, .inl u_6))]) H := hP
        have hD : va_D Fr ([(h, .inr (4, [.ref q5_1, .ref q20_3, .ref q34_5, .int 0, .int 0, .int 0, .int 4, .int 1])), (q5_1, .inr (5, [.ref (u_1 0), .int 10])), ((u_1 0), .inl (cI, 240, .inl (fun _ => 0))), (q20_3, .inr (5, [.ref (u_2 0), .int 6])), ((u_2 0), .inl (cI, 30, .inl (fun _ => 0))), (q34_5, .inr (5, [.ref (u_3 0), .int 3])), ((u_3 0), .inl (cI, 36, .inl u_6))]) := hD
        refine W.eq (g2 := F0 m 75 ls []) rfl ?_
        refine lv_aload_n hx hb dX5_init_75 rfl (lv_at hl 0 rfl) ?_
        refine va_get (D := D) (ci := 4) (C := RX5) (T := TX5) (N := 8) hx hb hts w_3 hown hK hP 0 rfl rfl 2 (by decide) w_5 (fun _ h9 => h9) rfl dX5_init_76 ?_
        refine lv_iload_n hx hb dX5_init_79 rfl (lv_at hl 1 rfl) ?_
        refine lv_iconst (v := 2) hx hb dX5_init_80 (by decide) ?_
        refine lv_bipush (v := 100) hx hb dX5_init_81 (by decide) ?_
        refine callVv (As := [.int x1, .int 2, .int 100]) (rest := []) (mX6_put l D cI cC cS _ q34_5 (u_3 0) 36 u_6 3 x1 2 100 (by decide)) ⟨hx, hb, hml, hown, hts⟩ (cwV 3 hts gX5_init_X6_put rfl rfl rfl (by decide +kernel) ⟨Nat.le_of_ble_eq_true rfl, Nat.le_of_ble_eq_true rfl⟩) X0_blind (fun _ _ _ => trivial) hP hK hD hS hA hl [5, 6] rfl rfl 0 5 rfl rfl rfl rfl rfl (Nat.le_of_ble_eq_true rfl) dX5_init_83 ⟨Nat.le_of_ble_eq_true rfl, Nat.le_of_ble_eq_true rfl⟩ (fun _ => rfl) (fun u_ H locs hk9 hP hD hS => ?_)
        obtain ⟨u_9, e_u_9⟩ : ∃ z, z = u_ := ⟨_, rfl⟩
        subst e_u_9
        have hP : va_P D vwCl ([(h, .inr (4, [.ref q5_1, .ref q20_3, .ref q34_5, .int 0, .int 0, .int 0, .int 4, .int 1])), (q5_1, .inr (5, [.ref (u_1 0), .int 10])), ((u_1 0), .inl (cI, 240, .inl (fun _ => 0))), (q20_3, .inr (5, [.ref (u_2 0), .int 6])), ((u_2 0), .inl (cI, 30, .inl (fun _ => 0))), (q34_5, .inr (5, [.ref (u_3 0), .int 3])), ((u_3 0), .inl (cI, 36, .inl u_9))]) H := hP
        have hD : va_D Fr ([(h, .inr (4, [.ref q5_1, .ref q20_3, .ref q34_5, .int 0, .int 0, .int 0, .int 4, .int 1])), (q5_1, .inr (5, [.ref (u_1 0), .int 10])), ((u_1 0), .inl (cI, 240, .inl (fun _ => 0))), (q20_3, .inr (5, [.ref (u_2 0), .int 6])), ((u_2 0), .inl (cI, 30, .inl (fun _ => 0))), (q34_5, .inr (5, [.ref (u_3 0), .int 3])), ((u_3 0), .inl (cI, 36, .inl u_9))]) := hD
        refine W.eq (g2 := F0 m 86 ls []) rfl ?_
        refine lv_iinc (v := x1 + 1) (lv' := [(1, .int (x1 + 1)), (0, .ref h)]) hx hb dX5_init_86 hl (k := 1) rfl (by rfl) (by decide) rfl (fun ls hl => ?_)
        refine lv_goto (tgt := 59) hx hb dX5_init_89 (by decide) ?_
        exact ih_59 (x1 + 1) u_9 _ _ ls hP hD hS (lv_sub hl [1, 0] rfl) (Nat.lt_of_lt_of_le (lp_dec c62) (Nat.le_of_lt_succ hm_59)) ((E_59).trans ((fX5_init_59_s fu x1 QC).trans ((if_neg c62).trans ((bd1_e hk6).trans ((bd1_e hk9).trans rfl)))))
  exact K_59 (((12 : Int32).toInt - (0 : Int32).toInt).toNat + 1) 0 (fun _ => 0) _ _ ls hP hD hS (lv_sub hl [1, 0] rfl) (Nat.lt_succ_self _) rfl

/-- the value of X2_init -/
def fX2_init  : Unit :=
  ()

set_option maxHeartbeats 4000000 in
set_option maxRecDepth 100000 in
/-- X2_init -/
theorem mX2_init (l : Launch) (D : va_G) (cI cC cS : ClassId) (sz : Nat) (o : Nat) (h : Nat)  : Met l yX2_init wsX2_init ({ frames := 1, cells := 0, slots := 0, locals := 16 } : Jvm.Room) (va_Pc [.ref o, .ref h] (wPre D (TY cI cC cS) [(o, .inr (1, [.null]))] sz X0)) (qV D (TY cI cC cS) (fun (u : Unit × (Nat → Nat)) => fX2_init = u.1) (fun u => [(o, .inr (1, [.ref h]))]) (va_A [(o, .inr (1, [.null]))] sz)) 0 0 (va_A [(o, .inr (1, [.null]))] sz) := by
  refine mkM (y := yX2_init) (wsl := wsX2_init) (fun Fr => qV D (TY cI cC cS) (fun (u : Unit × (Nat → Nat)) => fX2_init = u.1) (fun u => [(o, .inr (1, [.ref h]))]) Fr) (cc := cX2_init) (maxL := 2) (ret := none) (own := RX2) (lv := [(0, .ref o), (1, .ref h)]) (by decide) rfl rfl (Nat.le_of_ble_eq_true rfl) rfl ?_
  intro p e s m below meth c Fr ls hx hb hr hts hown hml hlk hin hP hK hD hS hA hAe hsz hX hl
  have hin := hin rfl
  have w_1 := hts (.fieldLink RX2 9 "FieldQuotas$Overview" "survey" "LFieldQuotas$Survey;") (List.mem_of_getElem? (i := 4) rfl)
  have w_2 := sub_r (big := wsX2_init) (u_ws RX2 TX2 1) [5] rfl
  refine lv_aload_n hx hb dX2_init_0 rfl (lv_at hl 0 rfl) ?_
  refine W.objInit hx hb hown (hts (.methodLink RX2 3 objectInit) (List.mem_of_getElem? (i := 1) rfl)) (hts (.instanceMethod objectInit) (List.mem_of_getElem? (i := 2) rfl)) (hts (.code objectInit ⟨#[0xb1]⟩ 1 none) (List.mem_of_getElem? (i := 3) rfl)) rfl (by rw [hml]; exact hl.1) rfl dX2_init_1 (Nat.le_of_ble_eq_true rfl) (Nat.le_of_ble_eq_true rfl) ?_
  refine W.eq (g2 := F0 m 4 ls []) rfl ?_
  refine lv_aload_n hx hb dX2_init_4 rfl (lv_at hl 0 rfl) ?_
  refine lv_aload_n hx hb dX2_init_5 rfl (lv_at hl 1 rfl) ?_
  refine va_putF (D := D) (ci := 1) (v := .ref h) (ty := (.object "FieldQuotas$Survey")) (C := RX2) (T := TX2) (N := 1) hx hb hts w_2 tyX2 tyX2_ok nmX2 hown hK hP hD hS 0 rfl rfl 0 (by decide) w_1 (fun _ h9 => h9) rfl hin rfl (by decide +kernel) rfl rfl (Nat.le_of_ble_eq_true rfl) dX2_init_6 (fun H locs hP hD hS => ?_)
  have hP : va_P D vwCl ([(o, .inr (1, [.ref h]))]) H := hP
  have hD : va_D Fr ([(o, .inr (1, [.ref h]))]) := hD
  exact endV hx hb hr hlk hP hK hD hS dX2_init_9 ((), fun i => ([] : List Nat).getD i 0) rfl rfl

/-- the value of X1_init -/
def fX1_init  : Unit :=
  ()

set_option maxHeartbeats 4000000 in
set_option maxRecDepth 100000 in
/-- X1_init -/
theorem mX1_init (l : Launch) (D : va_G) (cI cC cS : ClassId) (sz : Nat) (g : Nat)  : Met l yX1_init wsX1_init ({ frames := 3, cells := 36, slots := 1605, locals := 60 } : Jvm.Room) (va_Pc [.ref g] (wPre D (TY cI cC cS) [(g, .inr (0, [.null, .int 0, .int 0]))] sz wAO)) (qV D (TY cI cC cS) (fun (u : Unit × (Nat → Nat)) => fX1_init = u.1) (fun u => ([[(g, .inr (0, [.ref (u.2 0), .int 0, .int 0])), ((u.2 0), .inl (cS, 5, .inr (.inr (.inr (.inr (va_up (va_up (va_up (va_up (va_up (fun _ => none) 0 (some (u.2 1))) 1 (some (u.2 8))) 2 (some (u.2 15))) 3 (some (u.2 22))) 4 (some (u.2 29))))))))], svW (u.2 1) (u.2 2) (u.2 3) (u.2 4) (u.2 5) (u.2 6) (u.2 7) cI (fun _ => 0) (fun _ => 0) fX5_init 0 0 0 4 1, svW (u.2 8) (u.2 9) (u.2 10) (u.2 11) (u.2 12) (u.2 13) (u.2 14) cI (fun _ => 0) (fun _ => 0) fX5_init 0 0 0 4 1, svW (u.2 15) (u.2 16) (u.2 17) (u.2 18) (u.2 19) (u.2 20) (u.2 21) cI (fun _ => 0) (fun _ => 0) fX5_init 0 0 0 4 1, svW (u.2 22) (u.2 23) (u.2 24) (u.2 25) (u.2 26) (u.2 27) (u.2 28) cI (fun _ => 0) (fun _ => 0) fX5_init 0 0 0 4 1, svW (u.2 29) (u.2 30) (u.2 31) (u.2 32) (u.2 33) (u.2 34) (u.2 35) cI (fun _ => 0) (fun _ => 0) fX5_init 0 0 0 4 1] : List va_W).flatten) (va_A [(g, .inr (0, [.null, .int 0, .int 0]))] sz)) 36 1605 (va_A [(g, .inr (0, [.null, .int 0, .int 0]))] sz) := by
  refine mkM (y := yX1_init) (wsl := wsX1_init) (fun Fr => qV D (TY cI cC cS) (fun (u : Unit × (Nat → Nat)) => fX1_init = u.1) (fun u => ([[(g, .inr (0, [.ref (u.2 0), .int 0, .int 0])), ((u.2 0), .inl (cS, 5, .inr (.inr (.inr (.inr (va_up (va_up (va_up (va_up (va_up (fun _ => none) 0 (some (u.2 1))) 1 (some (u.2 8))) 2 (some (u.2 15))) 3 (some (u.2 22))) 4 (some (u.2 29))))))))], svW (u.2 1) (u.2 2) (u.2 3) (u.2 4) (u.2 5) (u.2 6) (u.2 7) cI (fun _ => 0) (fun _ => 0) fX5_init 0 0 0 4 1, svW (u.2 8) (u.2 9) (u.2 10) (u.2 11) (u.2 12) (u.2 13) (u.2 14) cI (fun _ => 0) (fun _ => 0) fX5_init 0 0 0 4 1, svW (u.2 15) (u.2 16) (u.2 17) (u.2 18) (u.2 19) (u.2 20) (u.2 21) cI (fun _ => 0) (fun _ => 0) fX5_init 0 0 0 4 1, svW (u.2 22) (u.2 23) (u.2 24) (u.2 25) (u.2 26) (u.2 27) (u.2 28) cI (fun _ => 0) (fun _ => 0) fX5_init 0 0 0 4 1, svW (u.2 29) (u.2 30) (u.2 31) (u.2 32) (u.2 33) (u.2 34) (u.2 35) cI (fun _ => 0) (fun _ => 0) fX5_init 0 0 0 4 1] : List va_W).flatten) Fr) (cc := cX1_init) (maxL := 2) (ret := none) (own := RX1) (lv := [(0, .ref g)]) (by decide) rfl rfl (Nat.le_of_ble_eq_true rfl) rfl ?_
  intro p e s m below meth c Fr ls hx hb hr hts hown hml hlk hin hP hK hD hS hA hAe hsz hX hl
  have hin := hin rfl
  have w_1 := hts (.fieldLink RX1 11 "FieldQuotas$History" "states" "[LFieldQuotas$Survey;") (List.mem_of_getElem? (i := 5) rfl)
  have w_2 := sub_r (big := wsX1_init) (u_ws RX1 TX1 3) [31, 32, 33] rfl
  have w_3 := sub_r (big := wsX1_init) (u_ws RX5 TX5 8) [34, 35, 36, 37, 38, 39, 40, 41] rfl
  refine lv_aload_n hx hb dX1_init_0 rfl (lv_at hl 0 rfl) ?_
  refine W.objInit hx hb hown (hts (.methodLink RX1 3 objectInit) (List.mem_of_getElem? (i := 1) rfl)) (hts (.instanceMethod objectInit) (List.mem_of_getElem? (i := 2) rfl)) (hts (.code objectInit ⟨#[0xb1]⟩ 1 none) (List.mem_of_getElem? (i := 3) rfl)) rfl (by rw [hml]; exact hl.1) rfl dX1_init_1 (Nat.le_of_ble_eq_true rfl) (Nat.le_of_ble_eq_true rfl) ?_
  refine W.eq (g2 := F0 m 4 ls []) rfl ?_
  refine lv_aload_n hx hb dX1_init_4 rfl (lv_at hl 0 rfl) ?_
  refine lv_iconst (v := 5) hx hb dX1_init_5 (by decide) ?_
  refine va_newq hx hb hown (hts (.classLink RX1 9 RX5) (List.mem_of_getElem? (i := 4) rfl)) (hX) hK hP hD hS hA (N' := 5) (by decide) (by decide) (Nat.le_of_ble_eq_true rfl) (Nat.le_of_ble_eq_true rfl) (Nat.le_of_ble_eq_true rfl) dX1_init_6 (fun q6_1 cA H hK1 hP hD hS => ?_)
  obtain rfl : cS = cA := ty_sameS hK hK1
  have hP : va_P D vwCl ([(g, .inr (0, [.null, .int 0, .int 0])), (q6_1, .inl (cS, 5, .inr (.inr (.inr (.inr (fun _ => none))))))]) H := hP
  have hD : va_D Fr ([(g, .inr (0, [.null, .int 0, .int 0])), (q6_1, .inl (cS, 5, .inr (.inr (.inr (.inr (fun _ => none))))))]) := hD
  refine va_putF (D := D) (ci := 0) (v := .ref q6_1) (ty := (.array (.object "FieldQuotas$Survey"))) (C := RX1) (T := TX1) (N := 3) hx hb hts w_2 tyX1 tyX1_ok nmX1 hown hK hP hD hS 0 rfl rfl 0 (by decide) w_1 (fun _ h9 => h9) rfl hin rfl (by decide +kernel) rfl rfl (Nat.le_of_ble_eq_true rfl) dX1_init_9 (fun H locs hP hD hS => ?_)
  have hP : va_P D vwCl ([(g, .inr (0, [.ref q6_1, .int 0, .int 0])), (q6_1, .inl (cS, 5, .inr (.inr (.inr (.inr (fun _ => none))))))]) H := hP
  have hD : va_D Fr ([(g, .inr (0, [.ref q6_1, .int 0, .int 0])), (q6_1, .inl (cS, 5, .inr (.inr (.inr (.inr (fun _ => none))))))]) := hD
  refine lv_iconst (v := 0) hx hb dX1_init_12 (by decide) ?_
  refine lv_istore_n (lv' := [(1, .int 0), (0, .ref g)]) hx hb dX1_init_13 rfl hl (by decide) rfl (fun ls hl => ?_)
  refine lv_iload_n hx hb dX1_init_14 rfl (lv_at hl 0 rfl) ?_
  refine lv_aload_n hx hb dX1_init_15 rfl (lv_at hl 1 rfl) ?_
  refine va_get (D := D) (ci := 0) (C := RX1) (T := TX1) (N := 3) hx hb hts w_2 hown hK hP 0 rfl rfl 0 (by decide) w_1 (fun _ h9 => h9) rfl dX1_init_16 ?_
  refine va_alen hx hb hK hP 1 2 rfl rfl rfl dX1_init_19 ?_
  refine W.eq (g2 := F0 m 20 ls [.int 5, .int 0]) rfl ?_
  refine lv_icmp_ge (tgt := 42) hx hb dX1_init_20 (by decide) (fun h => absurd h (by decide)) (fun _ => ?_)
  refine lv_aload_n hx hb dX1_init_23 rfl (lv_at hl 1 rfl) ?_
  refine va_get (D := D) (ci := 0) (C := RX1) (T := TX1) (N := 3) hx hb hts w_2 hown hK hP 0 rfl rfl 0 (by decide) w_1 (fun _ h9 => h9) rfl dX1_init_24 ?_
  refine lv_iload_n hx hb dX1_init_27 rfl (lv_at hl 0 rfl) ?_
  refine va_new (D := D) (ci := 4) (fs := [.null, .null, .null, .int 0, .int 0, .int 0, .int 0, .int 0]) (C := RX5) (T := TX5) (N := 8) hx hb hts w_3 tyX5 tyX5_ok hown (hts (.classLink RX1 9 RX5) (List.mem_of_getElem? (i := 4) rfl)) (hts (.instantiable RX5 8) (List.mem_of_getElem? (i := 6) rfl)) (hts (.initialized RX5) (List.mem_of_getElem? (i := 7) rfl)) hK hP hD hS hA rfl (fun j hj => by rcases (show j = 0 ∨ j = 1 ∨ j = 2 ∨ j = 3 ∨ j = 4 ∨ j = 5 ∨ j = 6 ∨ j = 7 by omega) with rfl | rfl | rfl | rfl | rfl | rfl | rfl | rfl <;> rfl) (Nat.le_of_ble_eq_true rfl) (Nat.le_of_ble_eq_true rfl) dX1_init_28 (fun q28_2 H hP hD hS => ?_)
  refine lv_dup hx hb dX1_init_31 rfl ?_
  refine callIn (wr := ([(g, .inr (0, [.ref q6_1, .int 0, .int 0])), (q6_1, .inl (cS, 5, .inr (.inr (.inr (.inr (fun _ => none))))))])) (As := []) (rest := [.ref q28_2, .int 0, .ref q6_1]) (fs := [.null, .null, .null, .int 0, .int 0, .int 0, .int 0, .int 0]) (mX5_init l D cI cC cS _ q28_2) ⟨hx, hb, hml, hown, hts⟩ (cwI 0 hts gX1_init_X5_init rfl rfl rfl (hts (.initialized RX5) (List.mem_of_getElem? (i := 7) rfl)) (hts (.methodLink RX1 17 yX5_init) (List.mem_of_getElem? (i := 8) rfl)) (hts (.instanceMethod yX5_init) (List.mem_of_getElem? (i := 9) rfl)) rfl (by decide +kernel) ⟨Nat.le_of_ble_eq_true rfl, Nat.le_of_ble_eq_true rfl⟩) X0_blind (fun _ _ _ => trivial) hP hK hD hS hA hl rfl rfl (Nat.le_of_ble_eq_true rfl) dX1_init_32 ⟨Nat.le_of_ble_eq_true rfl, Nat.le_of_ble_eq_true rfl⟩ (fun u_1 H locs hk1 hP hD hS => ?_)
  obtain ⟨c_1, u_1⟩ := u_1
  have hk1 : fX5_init = c_1 := hk1
  subst hk1
  have hP : va_P D vwCl (([[(g, .inr (0, [.ref q6_1, .int 0, .int 0])), (q6_1, .inl (cS, 5, .inr (.inr (.inr (.inr (fun _ => none))))))], svW q28_2 (u_1 0) (u_1 1) (u_1 2) (u_1 3) (u_1 4) (u_1 5) cI (fun _ => 0) (fun _ => 0) fX5_init 0 0 0 4 1] : List va_W).flatten) H := hP
  have hD : va_D Fr (([[(g, .inr (0, [.ref q6_1, .int 0, .int 0])), (q6_1, .inl (cS, 5, .inr (.inr (.inr (.inr (fun _ => none))))))], svW q28_2 (u_1 0) (u_1 1) (u_1 2) (u_1 3) (u_1 4) (u_1 5) cI (fun _ => 0) (fun _ => 0) fX5_init 0 0 0 4 1] : List va_W).flatten) := hD
  refine W.eq (g2 := F0 m 35 ls [.ref q28_2, .int 0, .ref q6_1]) rfl ?_
  refine va_astq hx hb hK hP hD hS 1 2 2 4 rfl rfl rfl rfl (vp_d rfl) dX1_init_35 (fun H locs hP hD hS => ?_)
  have hP : va_P D vwCl (([[(g, .inr (0, [.ref q6_1, .int 0, .int 0])), (q6_1, .inl (cS, 5, .inr (.inr (.inr (.inr (va_up (fun _ => none) 0 (some q28_2)))))))], svW q28_2 (u_1 0) (u_1 1) (u_1 2) (u_1 3) (u_1 4) (u_1 5) cI (fun _ => 0) (fun _ => 0) fX5_init 0 0 0 4 1] : List va_W).flatten) H := hP
  have hD : va_D Fr (([[(g, .inr (0, [.ref q6_1, .int 0, .int 0])), (q6_1, .inl (cS, 5, .inr (.inr (.inr (.inr (va_up (fun _ => none) 0 (some q28_2)))))))], svW q28_2 (u_1 0) (u_1 1) (u_1 2) (u_1 3) (u_1 4) (u_1 5) cI (fun _ => 0) (fun _ => 0) fX5_init 0 0 0 4 1] : List va_W).flatten) := hD
  refine lv_iinc (v := 1) (lv' := [(1, .int 1), (0, .ref g)]) hx hb dX1_init_36 hl (k := 0) rfl (by rfl) (by decide) rfl (fun ls hl => ?_)
  refine lv_goto (tgt := 14) hx hb dX1_init_39 (by decide) ?_
  refine lv_iload_n hx hb dX1_init_14 rfl (lv_at hl 0 rfl) ?_
  refine lv_aload_n hx hb dX1_init_15 rfl (lv_at hl 1 rfl) ?_
  refine va_get (D := D) (ci := 0) (C := RX1) (T := TX1) (N := 3) hx hb hts w_2 hown hK hP 0 rfl rfl 0 (by decide) w_1 (fun _ h9 => h9) rfl dX1_init_16 ?_
  refine va_alen hx hb hK hP 1 2 rfl rfl rfl dX1_init_19 ?_
  refine W.eq (g2 := F0 m 20 ls [.int 5, .int 1]) rfl ?_
  refine lv_icmp_ge (tgt := 42) hx hb dX1_init_20 (by decide) (fun h => absurd h (by decide)) (fun _ => ?_)
  refine lv_aload_n hx hb dX1_init_23 rfl (lv_at hl 1 rfl) ?_
  refine va_get (D := D) (ci := 0) (C := RX1) (T := TX1) (N := 3) hx hb hts w_2 hown hK hP 0 rfl rfl 0 (by decide) w_1 (fun _ h9 => h9) rfl dX1_init_24 ?_
  refine lv_iload_n hx hb dX1_init_27 rfl (lv_at hl 0 rfl) ?_
  refine va_new (D := D) (ci := 4) (fs := [.null, .null, .null, .int 0, .int 0, .int 0, .int 0, .int 0]) (C := RX5) (T := TX5) (N := 8) hx hb hts w_3 tyX5 tyX5_ok hown (hts (.classLink RX1 9 RX5) (List.mem_of_getElem? (i := 4) rfl)) (hts (.instantiable RX5 8) (List.mem_of_getElem? (i := 6) rfl)) (hts (.initialized RX5) (List.mem_of_getElem? (i := 7) rfl)) hK hP hD hS hA rfl (fun j hj => by rcases (show j = 0 ∨ j = 1 ∨ j = 2 ∨ j = 3 ∨ j = 4 ∨ j = 5 ∨ j = 6 ∨ j = 7 by omega) with rfl | rfl | rfl | rfl | rfl | rfl | rfl | rfl <;> rfl) (Nat.le_of_ble_eq_true rfl) (Nat.le_of_ble_eq_true rfl) dX1_init_28 (fun q28_9 H hP hD hS => ?_)
  refine lv_dup hx hb dX1_init_31 rfl ?_
  refine callIn (wr := (([[(g, .inr (0, [.ref q6_1, .int 0, .int 0])), (q6_1, .inl (cS, 5, .inr (.inr (.inr (.inr (va_up (fun _ => none) 0 (some q28_2)))))))], svW q28_2 (u_1 0) (u_1 1) (u_1 2) (u_1 3) (u_1 4) (u_1 5) cI (fun _ => 0) (fun _ => 0) fX5_init 0 0 0 4 1] : List va_W).flatten)) (As := []) (rest := [.ref q28_9, .int 1, .ref q6_1]) (fs := [.null, .null, .null, .int 0, .int 0, .int 0, .int 0, .int 0]) (mX5_init l D cI cC cS _ q28_9) ⟨hx, hb, hml, hown, hts⟩ (cwI 0 hts gX1_init_X5_init rfl rfl rfl (hts (.initialized RX5) (List.mem_of_getElem? (i := 7) rfl)) (hts (.methodLink RX1 17 yX5_init) (List.mem_of_getElem? (i := 8) rfl)) (hts (.instanceMethod yX5_init) (List.mem_of_getElem? (i := 9) rfl)) rfl (by decide +kernel) ⟨Nat.le_of_ble_eq_true rfl, Nat.le_of_ble_eq_true rfl⟩) X0_blind (fun _ _ _ => trivial) hP hK hD hS hA hl rfl rfl (Nat.le_of_ble_eq_true rfl) dX1_init_32 ⟨Nat.le_of_ble_eq_true rfl, Nat.le_of_ble_eq_true rfl⟩ (fun u_2 H locs hk2 hP hD hS => ?_)
  obtain ⟨c_2, u_2⟩ := u_2
  have hk2 : fX5_init = c_2 := hk2
  subst hk2
  have hP : va_P D vwCl (([[(g, .inr (0, [.ref q6_1, .int 0, .int 0])), (q6_1, .inl (cS, 5, .inr (.inr (.inr (.inr (va_up (fun _ => none) 0 (some q28_2)))))))], svW q28_2 (u_1 0) (u_1 1) (u_1 2) (u_1 3) (u_1 4) (u_1 5) cI (fun _ => 0) (fun _ => 0) fX5_init 0 0 0 4 1, svW q28_9 (u_2 0) (u_2 1) (u_2 2) (u_2 3) (u_2 4) (u_2 5) cI (fun _ => 0) (fun _ => 0) fX5_init 0 0 0 4 1] : List va_W).flatten) H := hP
  have hD : va_D Fr (([[(g, .inr (0, [.ref q6_1, .int 0, .int 0])), (q6_1, .inl (cS, 5, .inr (.inr (.inr (.inr (va_up (fun _ => none) 0 (some q28_2)))))))], svW q28_2 (u_1 0) (u_1 1) (u_1 2) (u_1 3) (u_1 4) (u_1 5) cI (fun _ => 0) (fun _ => 0) fX5_init 0 0 0 4 1, svW q28_9 (u_2 0) (u_2 1) (u_2 2) (u_2 3) (u_2 4) (u_2 5) cI (fun _ => 0) (fun _ => 0) fX5_init 0 0 0 4 1] : List va_W).flatten) := hD
  refine W.eq (g2 := F0 m 35 ls [.ref q28_9, .int 1, .ref q6_1]) rfl ?_
  refine va_astq hx hb hK hP hD hS 1 2 9 4 rfl rfl rfl rfl (vp_d rfl) dX1_init_35 (fun H locs hP hD hS => ?_)
  have hP : va_P D vwCl (([[(g, .inr (0, [.ref q6_1, .int 0, .int 0])), (q6_1, .inl (cS, 5, .inr (.inr (.inr (.inr (va_up (va_up (fun _ => none) 0 (some q28_2)) 1 (some q28_9)))))))], svW q28_2 (u_1 0) (u_1 1) (u_1 2) (u_1 3) (u_1 4) (u_1 5) cI (fun _ => 0) (fun _ => 0) fX5_init 0 0 0 4 1, svW q28_9 (u_2 0) (u_2 1) (u_2 2) (u_2 3) (u_2 4) (u_2 5) cI (fun _ => 0) (fun _ => 0) fX5_init 0 0 0 4 1] : List va_W).flatten) H := hP
  have hD : va_D Fr (([[(g, .inr (0, [.ref q6_1, .int 0, .int 0])), (q6_1, .inl (cS, 5, .inr (.inr (.inr (.inr (va_up (va_up (fun _ => none) 0 (some q28_2)) 1 (some q28_9)))))))], svW q28_2 (u_1 0) (u_1 1) (u_1 2) (u_1 3) (u_1 4) (u_1 5) cI (fun _ => 0) (fun _ => 0) fX5_init 0 0 0 4 1, svW q28_9 (u_2 0) (u_2 1) (u_2 2) (u_2 3) (u_2 4) (u_2 5) cI (fun _ => 0) (fun _ => 0) fX5_init 0 0 0 4 1] : List va_W).flatten) := hD
  refine lv_iinc (v := 2) (lv' := [(1, .int 2), (0, .ref g)]) hx hb dX1_init_36 hl (k := 0) rfl (by rfl) (by decide) rfl (fun ls hl => ?_)
  refine lv_goto (tgt := 14) hx hb dX1_init_39 (by decide) ?_
  refine lv_iload_n hx hb dX1_init_14 rfl (lv_at hl 0 rfl) ?_
  refine lv_aload_n hx hb dX1_init_15 rfl (lv_at hl 1 rfl) ?_
  refine va_get (D := D) (ci := 0) (C := RX1) (T := TX1) (N := 3) hx hb hts w_2 hown hK hP 0 rfl rfl 0 (by decide) w_1 (fun _ h9 => h9) rfl dX1_init_16 ?_
  refine va_alen hx hb hK hP 1 2 rfl rfl rfl dX1_init_19 ?_
  refine W.eq (g2 := F0 m 20 ls [.int 5, .int 2]) rfl ?_
  refine lv_icmp_ge (tgt := 42) hx hb dX1_init_20 (by decide) (fun h => absurd h (by decide)) (fun _ => ?_)
  refine lv_aload_n hx hb dX1_init_23 rfl (lv_at hl 1 rfl) ?_
  refine va_get (D := D) (ci := 0) (C := RX1) (T := TX1) (N := 3) hx hb hts w_2 hown hK hP 0 rfl rfl 0 (by decide) w_1 (fun _ h9 => h9) rfl dX1_init_24 ?_
  refine lv_iload_n hx hb dX1_init_27 rfl (lv_at hl 0 rfl) ?_
  refine va_new (D := D) (ci := 4) (fs := [.null, .null, .null, .int 0, .int 0, .int 0, .int 0, .int 0]) (C := RX5) (T := TX5) (N := 8) hx hb hts w_3 tyX5 tyX5_ok hown (hts (.classLink RX1 9 RX5) (List.mem_of_getElem? (i := 4) rfl)) (hts (.instantiable RX5 8) (List.mem_of_getElem? (i := 6) rfl)) (hts (.initialized RX5) (List.mem_of_getElem? (i := 7) rfl)) hK hP hD hS hA rfl (fun j hj => by rcases (show j = 0 ∨ j = 1 ∨ j = 2 ∨ j = 3 ∨ j = 4 ∨ j = 5 ∨ j = 6 ∨ j = 7 by omega) with rfl | rfl | rfl | rfl | rfl | rfl | rfl | rfl <;> rfl) (Nat.le_of_ble_eq_true rfl) (Nat.le_of_ble_eq_true rfl) dX1_init_28 (fun q28_16 H hP hD hS => ?_)
  refine lv_dup hx hb dX1_init_31 rfl ?_
  refine callIn (wr := (([[(g, .inr (0, [.ref q6_1, .int 0, .int 0])), (q6_1, .inl (cS, 5, .inr (.inr (.inr (.inr (va_up (va_up (fun _ => none) 0 (some q28_2)) 1 (some q28_9)))))))], svW q28_2 (u_1 0) (u_1 1) (u_1 2) (u_1 3) (u_1 4) (u_1 5) cI (fun _ => 0) (fun _ => 0) fX5_init 0 0 0 4 1, svW q28_9 (u_2 0) (u_2 1) (u_2 2) (u_2 3) (u_2 4) (u_2 5) cI (fun _ => 0) (fun _ => 0) fX5_init 0 0 0 4 1] : List va_W).flatten)) (As := []) (rest := [.ref q28_16, .int 2, .ref q6_1]) (fs := [.null, .null, .null, .int 0, .int 0, .int 0, .int 0, .int 0]) (mX5_init l D cI cC cS _ q28_16) ⟨hx, hb, hml, hown, hts⟩ (cwI 0 hts gX1_init_X5_init rfl rfl rfl (hts (.initialized RX5) (List.mem_of_getElem? (i := 7) rfl)) (hts (.methodLink RX1 17 yX5_init) (List.mem_of_getElem? (i := 8) rfl)) (hts (.instanceMethod yX5_init) (List.mem_of_getElem? (i := 9) rfl)) rfl (by decide +kernel) ⟨Nat.le_of_ble_eq_true rfl, Nat.le_of_ble_eq_true rfl⟩) X0_blind (fun _ _ _ => trivial) hP hK hD hS hA hl rfl rfl (Nat.le_of_ble_eq_true rfl) dX1_init_32 ⟨Nat.le_of_ble_eq_true rfl, Nat.le_of_ble_eq_true rfl⟩ (fun u_3 H locs hk3 hP hD hS => ?_)
  obtain ⟨c_3, u_3⟩ := u_3
  have hk3 : fX5_init = c_3 := hk3
  subst hk3
  have hP : va_P D vwCl (([[(g, .inr (0, [.ref q6_1, .int 0, .int 0])), (q6_1, .inl (cS, 5, .inr (.inr (.inr (.inr (va_up (va_up (fun _ => none) 0 (some q28_2)) 1 (some q28_9)))))))], svW q28_2 (u_1 0) (u_1 1) (u_1 2) (u_1 3) (u_1 4) (u_1 5) cI (fun _ => 0) (fun _ => 0) fX5_init 0 0 0 4 1, svW q28_9 (u_2 0) (u_2 1) (u_2 2) (u_2 3) (u_2 4) (u_2 5) cI (fun _ => 0) (fun _ => 0) fX5_init 0 0 0 4 1, svW q28_16 (u_3 0) (u_3 1) (u_3 2) (u_3 3) (u_3 4) (u_3 5) cI (fun _ => 0) (fun _ => 0) fX5_init 0 0 0 4 1] : List va_W).flatten) H := hP
  have hD : va_D Fr (([[(g, .inr (0, [.ref q6_1, .int 0, .int 0])), (q6_1, .inl (cS, 5, .inr (.inr (.inr (.inr (va_up (va_up (fun _ => none) 0 (some q28_2)) 1 (some q28_9)))))))], svW q28_2 (u_1 0) (u_1 1) (u_1 2) (u_1 3) (u_1 4) (u_1 5) cI (fun _ => 0) (fun _ => 0) fX5_init 0 0 0 4 1, svW q28_9 (u_2 0) (u_2 1) (u_2 2) (u_2 3) (u_2 4) (u_2 5) cI (fun _ => 0) (fun _ => 0) fX5_init 0 0 0 4 1, svW q28_16 (u_3 0) (u_3 1) (u_3 2) (u_3 3) (u_3 4) (u_3 5) cI (fun _ => 0) (fun _ => 0) fX5_init 0 0 0 4 1] : List va_W).flatten) := hD
  refine W.eq (g2 := F0 m 35 ls [.ref q28_16, .int 2, .ref q6_1]) rfl ?_
  refine va_astq hx hb hK hP hD hS 1 2 16 4 rfl rfl rfl rfl (vp_d rfl) dX1_init_35 (fun H locs hP hD hS => ?_)
  have hP : va_P D vwCl (([[(g, .inr (0, [.ref q6_1, .int 0, .int 0])), (q6_1, .inl (cS, 5, .inr (.inr (.inr (.inr (va_up (va_up (va_up (fun _ => none) 0 (some q28_2)) 1 (some q28_9)) 2 (some q28_16)))))))], svW q28_2 (u_1 0) (u_1 1) (u_1 2) (u_1 3) (u_1 4) (u_1 5) cI (fun _ => 0) (fun _ => 0) fX5_init 0 0 0 4 1, svW q28_9 (u_2 0) (u_2 1) (u_2 2) (u_2 3) (u_2 4) (u_2 5) cI (fun _ => 0) (fun _ => 0) fX5_init 0 0 0 4 1, svW q28_16 (u_3 0) (u_3 1) (u_3 2) (u_3 3) (u_3 4) (u_3 5) cI (fun _ => 0) (fun _ => 0) fX5_init 0 0 0 4 1] : List va_W).flatten) H := hP
  have hD : va_D Fr (([[(g, .inr (0, [.ref q6_1, .int 0, .int 0])), (q6_1, .inl (cS, 5, .inr (.inr (.inr (.inr (va_up (va_up (va_up (fun _ => none) 0 (some q28_2)) 1 (some q28_9)) 2 (some q28_16)))))))], svW q28_2 (u_1 0) (u_1 1) (u_1 2) (u_1 3) (u_1 4) (u_1 5) cI (fun _ => 0) (fun _ => 0) fX5_init 0 0 0 4 1, svW q28_9 (u_2 0) (u_2 1) (u_2 2) (u_2 3) (u_2 4) (u_2 5) cI (fun _ => 0) (fun _ => 0) fX5_init 0 0 0 4 1, svW q28_16 (u_3 0) (u_3 1) (u_3 2) (u_3 3) (u_3 4) (u_3 5) cI (fun _ => 0) (fun _ => 0) fX5_init 0 0 0 4 1] : List va_W).flatten) := hD
  refine lv_iinc (v := 3) (lv' := [(1, .int 3), (0, .ref g)]) hx hb dX1_init_36 hl (k := 0) rfl (by rfl) (by decide) rfl (fun ls hl => ?_)
  refine lv_goto (tgt := 14) hx hb dX1_init_39 (by decide) ?_
  refine lv_iload_n hx hb dX1_init_14 rfl (lv_at hl 0 rfl) ?_
  refine lv_aload_n hx hb dX1_init_15 rfl (lv_at hl 1 rfl) ?_
  refine va_get (D := D) (ci := 0) (C := RX1) (T := TX1) (N := 3) hx hb hts w_2 hown hK hP 0 rfl rfl 0 (by decide) w_1 (fun _ h9 => h9) rfl dX1_init_16 ?_
  refine va_alen hx hb hK hP 1 2 rfl rfl rfl dX1_init_19 ?_
  refine W.eq (g2 := F0 m 20 ls [.int 5, .int 3]) rfl ?_
  refine lv_icmp_ge (tgt := 42) hx hb dX1_init_20 (by decide) (fun h => absurd h (by decide)) (fun _ => ?_)
  refine lv_aload_n hx hb dX1_init_23 rfl (lv_at hl 1 rfl) ?_
  refine va_get (D := D) (ci := 0) (C := RX1) (T := TX1) (N := 3) hx hb hts w_2 hown hK hP 0 rfl rfl 0 (by decide) w_1 (fun _ h9 => h9) rfl dX1_init_24 ?_
  refine lv_iload_n hx hb dX1_init_27 rfl (lv_at hl 0 rfl) ?_
  refine va_new (D := D) (ci := 4) (fs := [.null, .null, .null, .int 0, .int 0, .int 0, .int 0, .int 0]) (C := RX5) (T := TX5) (N := 8) hx hb hts w_3 tyX5 tyX5_ok hown (hts (.classLink RX1 9 RX5) (List.mem_of_getElem? (i := 4) rfl)) (hts (.instantiable RX5 8) (List.mem_of_getElem? (i := 6) rfl)) (hts (.initialized RX5) (List.mem_of_getElem? (i := 7) rfl)) hK hP hD hS hA rfl (fun j hj => by rcases (show j = 0 ∨ j = 1 ∨ j = 2 ∨ j = 3 ∨ j = 4 ∨ j = 5 ∨ j = 6 ∨ j = 7 by omega) with rfl | rfl | rfl | rfl | rfl | rfl | rfl | rfl <;> rfl) (Nat.le_of_ble_eq_true rfl) (Nat.le_of_ble_eq_true rfl) dX1_init_28 (fun q28_23 H hP hD hS => ?_)
  refine lv_dup hx hb dX1_init_31 rfl ?_
  refine callIn (wr := (([[(g, .inr (0, [.ref q6_1, .int 0, .int 0])), (q6_1, .inl (cS, 5, .inr (.inr (.inr (.inr (va_up (va_up (va_up (fun _ => none) 0 (some q28_2)) 1 (some q28_9)) 2 (some q28_16)))))))], svW q28_2 (u_1 0) (u_1 1) (u_1 2) (u_1 3) (u_1 4) (u_1 5) cI (fun _ => 0) (fun _ => 0) fX5_init 0 0 0 4 1, svW q28_9 (u_2 0) (u_2 1) (u_2 2) (u_2 3) (u_2 4) (u_2 5) cI (fun _ => 0) (fun _ => 0) fX5_init 0 0 0 4 1, svW q28_16 (u_3 0) (u_3 1) (u_3 2) (u_3 3) (u_3 4) (u_3 5) cI (fun _ => 0) (fun _ => 0) fX5_init 0 0 0 4 1] : List va_W).flatten)) (As := []) (rest := [.ref q28_23, .int 3, .ref q6_1]) (fs := [.null, .null, .null, .int 0, .int 0, .int 0, .int 0, .int 0]) (mX5_init l D cI cC cS _ q28_23) ⟨hx, hb, hml, hown, hts⟩ (cwI 0 hts gX1_init_X5_init rfl rfl rfl (hts (.initialized RX5) (List.mem_of_getElem? (i := 7) rfl)) (hts (.methodLink RX1 17 yX5_init) (List.mem_of_getElem? (i := 8) rfl)) (hts (.instanceMethod yX5_init) (List.mem_of_getElem? (i := 9) rfl)) rfl (by decide +kernel) ⟨Nat.le_of_ble_eq_true rfl, Nat.le_of_ble_eq_true rfl⟩) X0_blind (fun _ _ _ => trivial) hP hK hD hS hA hl rfl rfl (Nat.le_of_ble_eq_true rfl) dX1_init_32 ⟨Nat.le_of_ble_eq_true rfl, Nat.le_of_ble_eq_true rfl⟩ (fun u_4 H locs hk4 hP hD hS => ?_)
  obtain ⟨c_4, u_4⟩ := u_4
  have hk4 : fX5_init = c_4 := hk4
  subst hk4
  have hP : va_P D vwCl (([[(g, .inr (0, [.ref q6_1, .int 0, .int 0])), (q6_1, .inl (cS, 5, .inr (.inr (.inr (.inr (va_up (va_up (va_up (fun _ => none) 0 (some q28_2)) 1 (some q28_9)) 2 (some q28_16)))))))], svW q28_2 (u_1 0) (u_1 1) (u_1 2) (u_1 3) (u_1 4) (u_1 5) cI (fun _ => 0) (fun _ => 0) fX5_init 0 0 0 4 1, svW q28_9 (u_2 0) (u_2 1) (u_2 2) (u_2 3) (u_2 4) (u_2 5) cI (fun _ => 0) (fun _ => 0) fX5_init 0 0 0 4 1, svW q28_16 (u_3 0) (u_3 1) (u_3 2) (u_3 3) (u_3 4) (u_3 5) cI (fun _ => 0) (fun _ => 0) fX5_init 0 0 0 4 1, svW q28_23 (u_4 0) (u_4 1) (u_4 2) (u_4 3) (u_4 4) (u_4 5) cI (fun _ => 0) (fun _ => 0) fX5_init 0 0 0 4 1] : List va_W).flatten) H := hP
  have hD : va_D Fr (([[(g, .inr (0, [.ref q6_1, .int 0, .int 0])), (q6_1, .inl (cS, 5, .inr (.inr (.inr (.inr (va_up (va_up (va_up (fun _ => none) 0 (some q28_2)) 1 (some q28_9)) 2 (some q28_16)))))))], svW q28_2 (u_1 0) (u_1 1) (u_1 2) (u_1 3) (u_1 4) (u_1 5) cI (fun _ => 0) (fun _ => 0) fX5_init 0 0 0 4 1, svW q28_9 (u_2 0) (u_2 1) (u_2 2) (u_2 3) (u_2 4) (u_2 5) cI (fun _ => 0) (fun _ => 0) fX5_init 0 0 0 4 1, svW q28_16 (u_3 0) (u_3 1) (u_3 2) (u_3 3) (u_3 4) (u_3 5) cI (fun _ => 0) (fun _ => 0) fX5_init 0 0 0 4 1, svW q28_23 (u_4 0) (u_4 1) (u_4 2) (u_4 3) (u_4 4) (u_4 5) cI (fun _ => 0) (fun _ => 0) fX5_init 0 0 0 4 1] : List va_W).flatten) := hD
  refine W.eq (g2 := F0 m 35 ls [.ref q28_23, .int 3, .ref q6_1]) rfl ?_
  refine va_astq hx hb hK hP hD hS 1 2 23 4 rfl rfl rfl rfl (vp_d rfl) dX1_init_35 (fun H locs hP hD hS => ?_)
  have hP : va_P D vwCl (([[(g, .inr (0, [.ref q6_1, .int 0, .int 0])), (q6_1, .inl (cS, 5, .inr (.inr (.inr (.inr (va_up (va_up (va_up (va_up (fun _ => none) 0 (some q28_2)) 1 (some q28_9)) 2 (some q28_16)) 3 (some q28_23)))))))], svW q28_2 (u_1 0) (u_1 1) (u_1 2) (u_1 3) (u_1 4) (u_1 5) cI (fun _ => 0) (fun _ => 0) fX5_init 0 0 0 4 1, svW q28_9 (u_2 0) (u_2 1) (u_2 2) (u_2 3) (u_2 4) (u_2 5) cI (fun _ => 0) (fun _ => 0) fX5_init 0 0 0 4 1, svW q28_16 (u_3 0) (u_3 1) (u_3 2) (u_3 3) (u_3 4) (u_3 5) cI (fun _ => 0) (fun _ => 0) fX5_init 0 0 0 4 1, svW q28_23 (u_4 0) (u_4 1) (u_4 2) (u_4 3) (u_4 4) (u_4 5) cI (fun _ => 0) (fun _ => 0) fX5_init 0 0 0 4 1] : List va_W).flatten) H := hP
  have hD : va_D Fr (([[(g, .inr (0, [.ref q6_1, .int 0, .int 0])), (q6_1, .inl (cS, 5, .inr (.inr (.inr (.inr (va_up (va_up (va_up (va_up (fun _ => none) 0 (some q28_2)) 1 (some q28_9)) 2 (some q28_16)) 3 (some q28_23)))))))], svW q28_2 (u_1 0) (u_1 1) (u_1 2) (u_1 3) (u_1 4) (u_1 5) cI (fun _ => 0) (fun _ => 0) fX5_init 0 0 0 4 1, svW q28_9 (u_2 0) (u_2 1) (u_2 2) (u_2 3) (u_2 4) (u_2 5) cI (fun _ => 0) (fun _ => 0) fX5_init 0 0 0 4 1, svW q28_16 (u_3 0) (u_3 1) (u_3 2) (u_3 3) (u_3 4) (u_3 5) cI (fun _ => 0) (fun _ => 0) fX5_init 0 0 0 4 1, svW q28_23 (u_4 0) (u_4 1) (u_4 2) (u_4 3) (u_4 4) (u_4 5) cI (fun _ => 0) (fun _ => 0) fX5_init 0 0 0 4 1] : List va_W).flatten) := hD
  refine lv_iinc (v := 4) (lv' := [(1, .int 4), (0, .ref g)]) hx hb dX1_init_36 hl (k := 0) rfl (by rfl) (by decide) rfl (fun ls hl => ?_)
  refine lv_goto (tgt := 14) hx hb dX1_init_39 (by decide) ?_
  refine lv_iload_n hx hb dX1_init_14 rfl (lv_at hl 0 rfl) ?_
  refine lv_aload_n hx hb dX1_init_15 rfl (lv_at hl 1 rfl) ?_
  refine va_get (D := D) (ci := 0) (C := RX1) (T := TX1) (N := 3) hx hb hts w_2 hown hK hP 0 rfl rfl 0 (by decide) w_1 (fun _ h9 => h9) rfl dX1_init_16 ?_
  refine va_alen hx hb hK hP 1 2 rfl rfl rfl dX1_init_19 ?_
  refine W.eq (g2 := F0 m 20 ls [.int 5, .int 4]) rfl ?_
  refine lv_icmp_ge (tgt := 42) hx hb dX1_init_20 (by decide) (fun h => absurd h (by decide)) (fun _ => ?_)
  refine lv_aload_n hx hb dX1_init_23 rfl (lv_at hl 1 rfl) ?_
  refine va_get (D := D) (ci := 0) (C := RX1) (T := TX1) (N := 3) hx hb hts w_2 hown hK hP 0 rfl rfl 0 (by decide) w_1 (fun _ h9 => h9) rfl dX1_init_24 ?_
  refine lv_iload_n hx hb dX1_init_27 rfl (lv_at hl 0 rfl) ?_
  refine va_new (D := D) (ci := 4) (fs := [.null, .null, .null, .int 0, .int 0, .int 0, .int 0, .int 0]) (C := RX5) (T := TX5) (N := 8) hx hb hts w_3 tyX5 tyX5_ok hown (hts (.classLink RX1 9 RX5) (List.mem_of_getElem? (i := 4) rfl)) (hts (.instantiable RX5 8) (List.mem_of_getElem? (i := 6) rfl)) (hts (.initialized RX5) (List.mem_of_getElem? (i := 7) rfl)) hK hP hD hS hA rfl (fun j hj => by rcases (show j = 0 ∨ j = 1 ∨ j = 2 ∨ j = 3 ∨ j = 4 ∨ j = 5 ∨ j = 6 ∨ j = 7 by omega) with rfl | rfl | rfl | rfl | rfl | rfl | rfl | rfl <;> rfl) (Nat.le_of_ble_eq_true rfl) (Nat.le_of_ble_eq_true rfl) dX1_init_28 (fun q28_30 H hP hD hS => ?_)
  refine lv_dup hx hb dX1_init_31 rfl ?_
  refine callIn (wr := (([[(g, .inr (0, [.ref q6_1, .int 0, .int 0])), (q6_1, .inl (cS, 5, .inr (.inr (.inr (.inr (va_up (va_up (va_up (va_up (fun _ => none) 0 (some q28_2)) 1 (some q28_9)) 2 (some q28_16)) 3 (some q28_23)))))))], svW q28_2 (u_1 0) (u_1 1) (u_1 2) (u_1 3) (u_1 4) (u_1 5) cI (fun _ => 0) (fun _ => 0) fX5_init 0 0 0 4 1, svW q28_9 (u_2 0) (u_2 1) (u_2 2) (u_2 3) (u_2 4) (u_2 5) cI (fun _ => 0) (fun _ => 0) fX5_init 0 0 0 4 1, svW q28_16 (u_3 0) (u_3 1) (u_3 2) (u_3 3) (u_3 4) (u_3 5) cI (fun _ => 0) (fun _ => 0) fX5_init 0 0 0 4 1, svW q28_23 (u_4 0) (u_4 1) (u_4 2) (u_4 3) (u_4 4) (u_4 5) cI (fun _ => 0) (fun _ => 0) fX5_init 0 0 0 4 1] : List va_W).flatten)) (As := []) (rest := [.ref q28_30, .int 4, .ref q6_1]) (fs := [.null, .null, .null, .int 0, .int 0, .int 0, .int 0, .int 0]) (mX5_init l D cI cC cS _ q28_30) ⟨hx, hb, hml, hown, hts⟩ (cwI 0 hts gX1_init_X5_init rfl rfl rfl (hts (.initialized RX5) (List.mem_of_getElem? (i := 7) rfl)) (hts (.methodLink RX1 17 yX5_init) (List.mem_of_getElem? (i := 8) rfl)) (hts (.instanceMethod yX5_init) (List.mem_of_getElem? (i := 9) rfl)) rfl (by decide +kernel) ⟨Nat.le_of_ble_eq_true rfl, Nat.le_of_ble_eq_true rfl⟩) X0_blind (fun _ _ _ => trivial) hP hK hD hS hA hl rfl rfl (Nat.le_of_ble_eq_true rfl) dX1_init_32 ⟨Nat.le_of_ble_eq_true rfl, Nat.le_of_ble_eq_true rfl⟩ (fun u_5 H locs hk5 hP hD hS => ?_)
  obtain ⟨c_5, u_5⟩ := u_5
  have hk5 : fX5_init = c_5 := hk5
  subst hk5
  have hP : va_P D vwCl (([[(g, .inr (0, [.ref q6_1, .int 0, .int 0])), (q6_1, .inl (cS, 5, .inr (.inr (.inr (.inr (va_up (va_up (va_up (va_up (fun _ => none) 0 (some q28_2)) 1 (some q28_9)) 2 (some q28_16)) 3 (some q28_23)))))))], svW q28_2 (u_1 0) (u_1 1) (u_1 2) (u_1 3) (u_1 4) (u_1 5) cI (fun _ => 0) (fun _ => 0) fX5_init 0 0 0 4 1, svW q28_9 (u_2 0) (u_2 1) (u_2 2) (u_2 3) (u_2 4) (u_2 5) cI (fun _ => 0) (fun _ => 0) fX5_init 0 0 0 4 1, svW q28_16 (u_3 0) (u_3 1) (u_3 2) (u_3 3) (u_3 4) (u_3 5) cI (fun _ => 0) (fun _ => 0) fX5_init 0 0 0 4 1, svW q28_23 (u_4 0) (u_4 1) (u_4 2) (u_4 3) (u_4 4) (u_4 5) cI (fun _ => 0) (fun _ => 0) fX5_init 0 0 0 4 1, svW q28_30 (u_5 0) (u_5 1) (u_5 2) (u_5 3) (u_5 4) (u_5 5) cI (fun _ => 0) (fun _ => 0) fX5_init 0 0 0 4 1] : List va_W).flatten) H := hP
  have hD : va_D Fr (([[(g, .inr (0, [.ref q6_1, .int 0, .int 0])), (q6_1, .inl (cS, 5, .inr (.inr (.inr (.inr (va_up (va_up (va_up (va_up (fun _ => none) 0 (some q28_2)) 1 (some q28_9)) 2 (some q28_16)) 3 (some q28_23)))))))], svW q28_2 (u_1 0) (u_1 1) (u_1 2) (u_1 3) (u_1 4) (u_1 5) cI (fun _ => 0) (fun _ => 0) fX5_init 0 0 0 4 1, svW q28_9 (u_2 0) (u_2 1) (u_2 2) (u_2 3) (u_2 4) (u_2 5) cI (fun _ => 0) (fun _ => 0) fX5_init 0 0 0 4 1, svW q28_16 (u_3 0) (u_3 1) (u_3 2) (u_3 3) (u_3 4) (u_3 5) cI (fun _ => 0) (fun _ => 0) fX5_init 0 0 0 4 1, svW q28_23 (u_4 0) (u_4 1) (u_4 2) (u_4 3) (u_4 4) (u_4 5) cI (fun _ => 0) (fun _ => 0) fX5_init 0 0 0 4 1, svW q28_30 (u_5 0) (u_5 1) (u_5 2) (u_5 3) (u_5 4) (u_5 5) cI (fun _ => 0) (fun _ => 0) fX5_init 0 0 0 4 1] : List va_W).flatten) := hD
  refine W.eq (g2 := F0 m 35 ls [.ref q28_30, .int 4, .ref q6_1]) rfl ?_
  refine va_astq hx hb hK hP hD hS 1 2 30 4 rfl rfl rfl rfl (vp_d rfl) dX1_init_35 (fun H locs hP hD hS => ?_)
  have hP : va_P D vwCl (([[(g, .inr (0, [.ref q6_1, .int 0, .int 0])), (q6_1, .inl (cS, 5, .inr (.inr (.inr (.inr (va_up (va_up (va_up (va_up (va_up (fun _ => none) 0 (some q28_2)) 1 (some q28_9)) 2 (some q28_16)) 3 (some q28_23)) 4 (some q28_30)))))))], svW q28_2 (u_1 0) (u_1 1) (u_1 2) (u_1 3) (u_1 4) (u_1 5) cI (fun _ => 0) (fun _ => 0) fX5_init 0 0 0 4 1, svW q28_9 (u_2 0) (u_2 1) (u_2 2) (u_2 3) (u_2 4) (u_2 5) cI (fun _ => 0) (fun _ => 0) fX5_init 0 0 0 4 1, svW q28_16 (u_3 0) (u_3 1) (u_3 2) (u_3 3) (u_3 4) (u_3 5) cI (fun _ => 0) (fun _ => 0) fX5_init 0 0 0 4 1, svW q28_23 (u_4 0) (u_4 1) (u_4 2) (u_4 3) (u_4 4) (u_4 5) cI (fun _ => 0) (fun _ => 0) fX5_init 0 0 0 4 1, svW q28_30 (u_5 0) (u_5 1) (u_5 2) (u_5 3) (u_5 4) (u_5 5) cI (fun _ => 0) (fun _ => 0) fX5_init 0 0 0 4 1] : List va_W).flatten) H := hP
  have hD : va_D Fr (([[(g, .inr (0, [.ref q6_1, .int 0, .int 0])), (q6_1, .inl (cS, 5, .inr (.inr (.inr (.inr (va_up (va_up (va_up (va_up (va_up (fun _ => none) 0 (some q28_2)) 1 (some q28_9)) 2 (some q28_16)) 3 (some q28_23)) 4 (some q28_30)))))))], svW q28_2 (u_1 0) (u_1 1) (u_1 2) (u_1 3) (u_1 4) (u_1 5) cI (fun _ => 0) (fun _ => 0) fX5_init 0 0 0 4 1, svW q28_9 (u_2 0) (u_2 1) (u_2 2) (u_2 3) (u_2 4) (u_2 5) cI (fun _ => 0) (fun _ => 0) fX5_init 0 0 0 4 1, svW q28_16 (u_3 0) (u_3 1) (u_3 2) (u_3 3) (u_3 4) (u_3 5) cI (fun _ => 0) (fun _ => 0) fX5_init 0 0 0 4 1, svW q28_23 (u_4 0) (u_4 1) (u_4 2) (u_4 3) (u_4 4) (u_4 5) cI (fun _ => 0) (fun _ => 0) fX5_init 0 0 0 4 1, svW q28_30 (u_5 0) (u_5 1) (u_5 2) (u_5 3) (u_5 4) (u_5 5) cI (fun _ => 0) (fun _ => 0) fX5_init 0 0 0 4 1] : List va_W).flatten) := hD
  refine lv_iinc (v := 5) (lv' := [(1, .int 5), (0, .ref g)]) hx hb dX1_init_36 hl (k := 0) rfl (by rfl) (by decide) rfl (fun ls hl => ?_)
  refine lv_goto (tgt := 14) hx hb dX1_init_39 (by decide) ?_
  refine lv_iload_n hx hb dX1_init_14 rfl (lv_at hl 0 rfl) ?_
  refine lv_aload_n hx hb dX1_init_15 rfl (lv_at hl 1 rfl) ?_
  refine va_get (D := D) (ci := 0) (C := RX1) (T := TX1) (N := 3) hx hb hts w_2 hown hK hP 0 rfl rfl 0 (by decide) w_1 (fun _ h9 => h9) rfl dX1_init_16 ?_
  refine va_alen hx hb hK hP 1 2 rfl rfl rfl dX1_init_19 ?_
  refine W.eq (g2 := F0 m 20 ls [.int 5, .int 5]) rfl ?_
  refine lv_icmp_ge (tgt := 42) hx hb dX1_init_20 (by decide) (fun _ => ?_) (fun h => absurd (by decide) h)
  exact endV hx hb hr hlk hP hK hD hS dX1_init_42 ((), fun i => ([q6_1, q28_2, (u_1 0), (u_1 1), (u_1 2), (u_1 3), (u_1 4), (u_1 5), q28_9, (u_2 0), (u_2 1), (u_2 2), (u_2 3), (u_2 4), (u_2 5), q28_16, (u_3 0), (u_3 1), (u_3 2), (u_3 3), (u_3 4), (u_3 5), q28_23, (u_4 0), (u_4 1), (u_4 2), (u_4 3), (u_4 4), (u_4 5), q28_30, (u_5 0), (u_5 1), (u_5 2), (u_5 3), (u_5 4), (u_5 5)] : List Nat).getD i 0) rfl rfl

/-- the value of X4_init -/
def fX4_init  : Unit :=
  ()

set_option maxHeartbeats 4000000 in
set_option maxRecDepth 100000 in
/-- X4_init -/
theorem mX4_init (l : Launch) (D : va_G) (cI cC cS : ClassId) (sz : Nat) (cs : Nat)  : Met l yX4_init wsX4_init ({ frames := 1, cells := 2, slots := 85, locals := 16 } : Jvm.Room) (va_Pc [.ref cs] (wPre D (TY cI cC cS) [(cs, .inr (3, [.null, .null, .int 0, .null, .int 0]))] sz X0)) (qV D (TY cI cC cS) (fun (u : Unit × (Nat → Nat)) => fX4_init = u.1) (fun u => [(cs, .inr (3, [.ref (u.2 0), .ref (u.2 1), .int 0, .null, .int 0])), ((u.2 0), .inl (cC, 80, .inl (fun _ => 0))), ((u.2 1), .inl (cI, 5, .inl (fun _ => 0)))]) (va_A [(cs, .inr (3, [.null, .null, .int 0, .null, .int 0]))] sz)) 2 85 (va_A [(cs, .inr (3, [.null, .null, .int 0, .null, .int 0]))] sz) := by
  refine mkM (y := yX4_init) (wsl := wsX4_init) (fun Fr => qV D (TY cI cC cS) (fun (u : Unit × (Nat → Nat)) => fX4_init = u.1) (fun u => [(cs, .inr (3, [.ref (u.2 0), .ref (u.2 1), .int 0, .null, .int 0])), ((u.2 0), .inl (cC, 80, .inl (fun _ => 0))), ((u.2 1), .inl (cI, 5, .inl (fun _ => 0)))]) Fr) (cc := cX4_init) (maxL := 1) (ret := none) (own := RX4) (lv := [(0, .ref cs)]) (by decide) rfl rfl (Nat.le_of_ble_eq_true rfl) rfl ?_
  intro p e s m below meth c Fr ls hx hb hr hts hown hml hlk hin hP hK hD hS hA hAe hsz hX hl
  have hin := hin rfl
  have w_1 := hts (.fieldLink RX4 9 "FieldQuotas$Script" "characters" "[C") (List.mem_of_getElem? (i := 5) rfl)
  have w_2 := sub_r (big := wsX4_init) (u_ws RX4 TX4 5) [8, 9, 10, 11, 12] rfl
  have w_3 := hts (.fieldLink RX4 15 "FieldQuotas$Script" "numbers" "[I") (List.mem_of_getElem? (i := 7) rfl)
  refine lv_aload_n hx hb dX4_init_0 rfl (lv_at hl 0 rfl) ?_
  refine W.objInit hx hb hown (hts (.methodLink RX4 3 objectInit) (List.mem_of_getElem? (i := 1) rfl)) (hts (.instanceMethod objectInit) (List.mem_of_getElem? (i := 2) rfl)) (hts (.code objectInit ⟨#[0xb1]⟩ 1 none) (List.mem_of_getElem? (i := 3) rfl)) rfl (by rw [hml]; exact hl.1) rfl dX4_init_1 (Nat.le_of_ble_eq_true rfl) (Nat.le_of_ble_eq_true rfl) ?_
  refine W.eq (g2 := F0 m 4 ls []) rfl ?_
  refine lv_aload_n hx hb dX4_init_4 rfl (lv_at hl 0 rfl) ?_
  refine lv_bipush (v := 80) hx hb dX4_init_5 (by decide) ?_
  refine va_newa (atype := .char) (ty := .char) (N' := 80) (a0 := (80, .inl (fun _ => 0))) hx hb (hts (.arrayClass .char) (List.mem_of_getElem? (i := 4) rfl)) rfl hK hP hD hS hA (fun _ => rfl) (by decide) (by decide) (Nat.le_of_ble_eq_true rfl) (Nat.le_of_ble_eq_true rfl) (Nat.le_of_ble_eq_true rfl) dX4_init_7 (fun q7_1 cA H hK1 hP hD hS => ?_)
  obtain rfl : cC = cA := ty_sameC hK hK1
  have hP : va_P D vwCl ([(cs, .inr (3, [.null, .null, .int 0, .null, .int 0])), (q7_1, .inl (cC, 80, .inl (fun _ => 0)))]) H := hP
  have hD : va_D Fr ([(cs, .inr (3, [.null, .null, .int 0, .null, .int 0])), (q7_1, .inl (cC, 80, .inl (fun _ => 0)))]) := hD
  refine va_putF (D := D) (ci := 3) (v := .ref q7_1) (ty := (.array .char)) (C := RX4) (T := TX4) (N := 5) hx hb hts w_2 tyX4 tyX4_ok nmX4 hown hK hP hD hS 0 rfl rfl 0 (by decide) w_1 (fun _ h9 => h9) rfl hin rfl (by decide +kernel) rfl rfl (Nat.le_of_ble_eq_true rfl) dX4_init_9 (fun H locs hP hD hS => ?_)
  have hP : va_P D vwCl ([(cs, .inr (3, [.ref q7_1, .null, .int 0, .null, .int 0])), (q7_1, .inl (cC, 80, .inl (fun _ => 0)))]) H := hP
  have hD : va_D Fr ([(cs, .inr (3, [.ref q7_1, .null, .int 0, .null, .int 0])), (q7_1, .inl (cC, 80, .inl (fun _ => 0)))]) := hD
  refine lv_aload_n hx hb dX4_init_12 rfl (lv_at hl 0 rfl) ?_
  refine lv_iconst (v := 5) hx hb dX4_init_13 (by decide) ?_
  refine va_newa (atype := .int) (ty := .int) (N' := 5) (a0 := (5, .inl (fun _ => 0))) hx hb (hts (.arrayClass .int) (List.mem_of_getElem? (i := 6) rfl)) rfl hK hP hD hS hA (fun _ => rfl) (by decide) (by decide) (Nat.le_of_ble_eq_true rfl) (Nat.le_of_ble_eq_true rfl) (Nat.le_of_ble_eq_true rfl) dX4_init_14 (fun q14_2 cA H hK1 hP hD hS => ?_)
  obtain rfl : cI = cA := ty_sameI hK hK1
  have hP : va_P D vwCl ([(cs, .inr (3, [.ref q7_1, .null, .int 0, .null, .int 0])), (q7_1, .inl (cC, 80, .inl (fun _ => 0))), (q14_2, .inl (cI, 5, .inl (fun _ => 0)))]) H := hP
  have hD : va_D Fr ([(cs, .inr (3, [.ref q7_1, .null, .int 0, .null, .int 0])), (q7_1, .inl (cC, 80, .inl (fun _ => 0))), (q14_2, .inl (cI, 5, .inl (fun _ => 0)))]) := hD
  refine va_putF (D := D) (ci := 3) (v := .ref q14_2) (ty := (.array .int)) (C := RX4) (T := TX4) (N := 5) hx hb hts w_2 tyX4 tyX4_ok nmX4 hown hK hP hD hS 0 rfl rfl 1 (by decide) w_3 (fun _ h9 => h9) rfl hin rfl (by decide +kernel) rfl rfl (Nat.le_of_ble_eq_true rfl) dX4_init_16 (fun H locs hP hD hS => ?_)
  have hP : va_P D vwCl ([(cs, .inr (3, [.ref q7_1, .ref q14_2, .int 0, .null, .int 0])), (q7_1, .inl (cC, 80, .inl (fun _ => 0))), (q14_2, .inl (cI, 5, .inl (fun _ => 0)))]) H := hP
  have hD : va_D Fr ([(cs, .inr (3, [.ref q7_1, .ref q14_2, .int 0, .null, .int 0])), (q7_1, .inl (cC, 80, .inl (fun _ => 0))), (q14_2, .inl (cI, 5, .inl (fun _ => 0)))]) := hD
  exact endV hx hb hr hlk hP hK hD hS dX4_init_19 ((), fun i => ([q7_1, q14_2] : List Nat).getD i 0) rfl rfl

/-- the value of X3_init -/
def fX3_init  : Unit :=
  ()

set_option maxHeartbeats 4000000 in
set_option maxRecDepth 100000 in
/-- X3_init -/
theorem mX3_init (l : Launch) (D : va_G) (cI cC cS : ClassId) (sz : Nat) (rh : Nat) (cs : Nat)  : Met l yX3_init wsX3_init ({ frames := 3, cells := 7, slots := 320, locals := 60 } : Jvm.Room) (va_Pc [.ref rh, .ref cs] (wPre D (TY cI cC cS) [(rh, .inr (2, [.null, .null, .int 0, .int 0, .int 0]))] sz X0)) (qV D (TY cI cC cS) (fun (u : Unit × (Nat → Nat)) => fX3_init = u.1) (fun u => ([[(rh, .inr (2, [.ref cs, .ref (u.2 0), .int 0, .int 0, .int 0]))], svW (u.2 0) (u.2 1) (u.2 2) (u.2 3) (u.2 4) (u.2 5) (u.2 6) cI (fun _ => 0) (fun _ => 0) fX5_init 0 0 0 4 1] : List va_W).flatten) (va_A [(rh, .inr (2, [.null, .null, .int 0, .int 0, .int 0]))] sz)) 7 320 (va_A [(rh, .inr (2, [.null, .null, .int 0, .int 0, .int 0]))] sz) := by
  refine mkM (y := yX3_init) (wsl := wsX3_init) (fun Fr => qV D (TY cI cC cS) (fun (u : Unit × (Nat → Nat)) => fX3_init = u.1) (fun u => ([[(rh, .inr (2, [.ref cs, .ref (u.2 0), .int 0, .int 0, .int 0]))], svW (u.2 0) (u.2 1) (u.2 2) (u.2 3) (u.2 4) (u.2 5) (u.2 6) cI (fun _ => 0) (fun _ => 0) fX5_init 0 0 0 4 1] : List va_W).flatten) Fr) (cc := cX3_init) (maxL := 2) (ret := none) (own := RX3) (lv := [(0, .ref rh), (1, .ref cs)]) (by decide) rfl rfl (Nat.le_of_ble_eq_true rfl) rfl ?_
  intro p e s m below meth c Fr ls hx hb hr hts hown hml hlk hin hP hK hD hS hA hAe hsz hX hl
  have hin := hin rfl
  have w_1 := hts (.fieldLink RX3 9 "FieldQuotas$Rehearsal" "script" "LFieldQuotas$Script;") (List.mem_of_getElem? (i := 4) rfl)
  have w_2 := sub_r (big := wsX3_init) (u_ws RX3 TX3 5) [32, 33, 34, 35, 36] rfl
  have w_3 := sub_r (big := wsX3_init) (u_ws RX5 TX5 8) [37, 38, 39, 40, 41, 42, 43, 44] rfl
  have w_4 := hts (.fieldLink RX3 18 "FieldQuotas$Rehearsal" "trial" "LFieldQuotas$Survey;") (List.mem_of_getElem? (i := 8) rfl)
  refine lv_aload_n hx hb dX3_init_0 rfl (lv_at hl 0 rfl) ?_
  refine W.objInit hx hb hown (hts (.methodLink RX3 3 objectInit) (List.mem_of_getElem? (i := 1) rfl)) (hts (.instanceMethod objectInit) (List.mem_of_getElem? (i := 2) rfl)) (hts (.code objectInit ⟨#[0xb1]⟩ 1 none) (List.mem_of_getElem? (i := 3) rfl)) rfl (by rw [hml]; exact hl.1) rfl dX3_init_1 (Nat.le_of_ble_eq_true rfl) (Nat.le_of_ble_eq_true rfl) ?_
  refine W.eq (g2 := F0 m 4 ls []) rfl ?_
  refine lv_aload_n hx hb dX3_init_4 rfl (lv_at hl 0 rfl) ?_
  refine lv_aload_n hx hb dX3_init_5 rfl (lv_at hl 1 rfl) ?_
  refine va_putF (D := D) (ci := 2) (v := .ref cs) (ty := (.object "FieldQuotas$Script")) (C := RX3) (T := TX3) (N := 5) hx hb hts w_2 tyX3 tyX3_ok nmX3 hown hK hP hD hS 0 rfl rfl 0 (by decide) w_1 (fun _ h9 => h9) rfl hin rfl (by decide +kernel) rfl rfl (Nat.le_of_ble_eq_true rfl) dX3_init_6 (fun H locs hP hD hS => ?_)
  have hP : va_P D vwCl ([(rh, .inr (2, [.ref cs, .null, .int 0, .int 0, .int 0]))]) H := hP
  have hD : va_D Fr ([(rh, .inr (2, [.ref cs, .null, .int 0, .int 0, .int 0]))]) := hD
  refine lv_aload_n hx hb dX3_init_9 rfl (lv_at hl 0 rfl) ?_
  refine va_new (D := D) (ci := 4) (fs := [.null, .null, .null, .int 0, .int 0, .int 0, .int 0, .int 0]) (C := RX5) (T := TX5) (N := 8) hx hb hts w_3 tyX5 tyX5_ok hown (hts (.classLink RX3 15 RX5) (List.mem_of_getElem? (i := 5) rfl)) (hts (.instantiable RX5 8) (List.mem_of_getElem? (i := 6) rfl)) (hts (.initialized RX5) (List.mem_of_getElem? (i := 7) rfl)) hK hP hD hS hA rfl (fun j hj => by rcases (show j = 0 ∨ j = 1 ∨ j = 2 ∨ j = 3 ∨ j = 4 ∨ j = 5 ∨ j = 6 ∨ j = 7 by omega) with rfl | rfl | rfl | rfl | rfl | rfl | rfl | rfl <;> rfl) (Nat.le_of_ble_eq_true rfl) (Nat.le_of_ble_eq_true rfl) dX3_init_10 (fun q10_1 H hP hD hS => ?_)
  refine lv_dup hx hb dX3_init_13 rfl ?_
  refine callIn (wr := ([(rh, .inr (2, [.ref cs, .null, .int 0, .int 0, .int 0]))])) (As := []) (rest := [.ref q10_1, .ref rh]) (fs := [.null, .null, .null, .int 0, .int 0, .int 0, .int 0, .int 0]) (mX5_init l D cI cC cS _ q10_1) ⟨hx, hb, hml, hown, hts⟩ (cwI 0 hts gX3_init_X5_init rfl rfl rfl (hts (.initialized RX5) (List.mem_of_getElem? (i := 7) rfl)) (hts (.methodLink RX3 17 yX5_init) (List.mem_of_getElem? (i := 9) rfl)) (hts (.instanceMethod yX5_init) (List.mem_of_getElem? (i := 10) rfl)) rfl (by decide +kernel) ⟨Nat.le_of_ble_eq_true rfl, Nat.le_of_ble_eq_true rfl⟩) X0_blind (fun _ _ _ => trivial) hP hK hD hS hA hl rfl rfl (Nat.le_of_ble_eq_true rfl) dX3_init_14 ⟨Nat.le_of_ble_eq_true rfl, Nat.le_of_ble_eq_true rfl⟩ (fun u_1 H locs hk1 hP hD hS => ?_)
  obtain ⟨c_1, u_1⟩ := u_1
  have hk1 : fX5_init = c_1 := hk1
  subst hk1
  have hP : va_P D vwCl (([[(rh, .inr (2, [.ref cs, .null, .int 0, .int 0, .int 0]))], svW q10_1 (u_1 0) (u_1 1) (u_1 2) (u_1 3) (u_1 4) (u_1 5) cI (fun _ => 0) (fun _ => 0) fX5_init 0 0 0 4 1] : List va_W).flatten) H := hP
  have hD : va_D Fr (([[(rh, .inr (2, [.ref cs, .null, .int 0, .int 0, .int 0]))], svW q10_1 (u_1 0) (u_1 1) (u_1 2) (u_1 3) (u_1 4) (u_1 5) cI (fun _ => 0) (fun _ => 0) fX5_init 0 0 0 4 1] : List va_W).flatten) := hD
  refine W.eq (g2 := F0 m 17 ls [.ref q10_1, .ref rh]) rfl ?_
  refine va_putF (D := D) (ci := 2) (v := .ref q10_1) (ty := (.object "FieldQuotas$Survey")) (C := RX3) (T := TX3) (N := 5) hx hb hts w_2 tyX3 tyX3_ok nmX3 hown hK hP hD hS 0 rfl rfl 1 (by decide) w_4 (fun _ h9 => h9) rfl hin rfl (by decide +kernel) rfl rfl (Nat.le_of_ble_eq_true rfl) dX3_init_17 (fun H locs hP hD hS => ?_)
  have hP : va_P D vwCl (([[(rh, .inr (2, [.ref cs, .ref q10_1, .int 0, .int 0, .int 0]))], svW q10_1 (u_1 0) (u_1 1) (u_1 2) (u_1 3) (u_1 4) (u_1 5) cI (fun _ => 0) (fun _ => 0) fX5_init 0 0 0 4 1] : List va_W).flatten) H := hP
  have hD : va_D Fr (([[(rh, .inr (2, [.ref cs, .ref q10_1, .int 0, .int 0, .int 0]))], svW q10_1 (u_1 0) (u_1 1) (u_1 2) (u_1 3) (u_1 4) (u_1 5) cI (fun _ => 0) (fun _ => 0) fX5_init 0 0 0 4 1] : List va_W).flatten) := hD
  exact endV hx hb hr hlk hP hK hD hS dX3_init_20 ((), fun i => ([q10_1, (u_1 0), (u_1 1), (u_1 2), (u_1 3), (u_1 4), (u_1 5)] : List Nat).getD i 0) rfl rfl

/-- the value of X8_init -/
def fX8_init  : Unit :=
  ()

set_option maxHeartbeats 4000000 in
set_option maxRecDepth 100000 in
/-- X8_init -/
theorem mX8_init (l : Launch) (D : va_G) (cI cC cS : ClassId) (sz : Nat) (fq : Nat)  : Met l yX8_init wsX8_init ({ frames := 4, cells := 56, slots := 2344, locals := 81 } : Jvm.Room) (va_Pc [.ref fq] (wPre D (TY cI cC cS) [(fq, .inr (6, [.null, .null, .null, .null, .null]))] sz wAO)) (qV D (TY cI cC cS) (fun (u : Unit × (Nat → Nat)) => fX8_init = u.1) (fun u => ([[(fq, .inr (6, [.ref (u.2 0), .ref (u.2 7), .ref (u.2 8), .ref (u.2 45), .ref (u.2 48)]))], svW (u.2 0) (u.2 1) (u.2 2) (u.2 3) (u.2 4) (u.2 5) (u.2 6) cI (fun _ => 0) (fun _ => 0) fX5_init 0 0 0 4 1, [((u.2 7), .inr (1, [.ref (u.2 0)]))], [((u.2 8), .inr (0, [.ref (u.2 9), .int 0, .int 0])), ((u.2 9), .inl (cS, 5, .inr (.inr (.inr (.inr (va_up (va_up (va_up (va_up (va_up (fun _ => none) 0 (some (u.2 10))) 1 (some (u.2 17))) 2 (some (u.2 24))) 3 (some (u.2 31))) 4 (some (u.2 38))))))))], svW (u.2 10) (u.2 11) (u.2 12) (u.2 13) (u.2 14) (u.2 15) (u.2 16) cI (fun _ => 0) (fun _ => 0) fX5_init 0 0 0 4 1, svW (u.2 17) (u.2 18) (u.2 19) (u.2 20) (u.2 21) (u.2 22) (u.2 23) cI (fun _ => 0) (fun _ => 0) fX5_init 0 0 0 4 1, svW (u.2 24) (u.2 25) (u.2 26) (u.2 27) (u.2 28) (u.2 29) (u.2 30) cI (fun _ => 0) (fun _ => 0) fX5_init 0 0 0 4 1, svW (u.2 31) (u.2 32) (u.2 33) (u.2 34) (u.2 35) (u.2 36) (u.2 37) cI (fun _ => 0) (fun _ => 0) fX5_init 0 0 0 4 1, svW (u.2 38) (u.2 39) (u.2 40) (u.2 41) (u.2 42) (u.2 43) (u.2 44) cI (fun _ => 0) (fun _ => 0) fX5_init 0 0 0 4 1, [((u.2 45), .inr (3, [.ref (u.2 46), .ref (u.2 47), .int 0, .null, .int 0])), ((u.2 46), .inl (cC, 80, .inl (fun _ => 0))), ((u.2 47), .inl (cI, 5, .inl (fun _ => 0)))], [((u.2 48), .inr (2, [.ref (u.2 45), .ref (u.2 49), .int 0, .int 0, .int 0]))], svW (u.2 49) (u.2 50) (u.2 51) (u.2 52) (u.2 53) (u.2 54) (u.2 55) cI (fun _ => 0) (fun _ => 0) fX5_init 0 0 0 4 1] : List va_W).flatten) (va_A [(fq, .inr (6, [.null, .null, .null, .null, .null]))] sz)) 56 2344 (va_A [(fq, .inr (6, [.null, .null, .null, .null, .null]))] sz) := by
  refine mkM (y := yX8_init) (wsl := wsX8_init) (fun Fr => qV D (TY cI cC cS) (fun (u : Unit × (Nat → Nat)) => fX8_init = u.1) (fun u => ([[(fq, .inr (6, [.ref (u.2 0), .ref (u.2 7), .ref (u.2 8), .ref (u.2 45), .ref (u.2 48)]))], svW (u.2 0) (u.2 1) (u.2 2) (u.2 3) (u.2 4) (u.2 5) (u.2 6) cI (fun _ => 0) (fun _ => 0) fX5_init 0 0 0 4 1, [((u.2 7), .inr (1, [.ref (u.2 0)]))], [((u.2 8), .inr (0, [.ref (u.2 9), .int 0, .int 0])), ((u.2 9), .inl (cS, 5, .inr (.inr (.inr (.inr (va_up (va_up (va_up (va_up (va_up (fun _ => none) 0 (some (u.2 10))) 1 (some (u.2 17))) 2 (some (u.2 24))) 3 (some (u.2 31))) 4 (some (u.2 38))))))))], svW (u.2 10) (u.2 11) (u.2 12) (u.2 13) (u.2 14) (u.2 15) (u.2 16) cI (fun _ => 0) (fun _ => 0) fX5_init 0 0 0 4 1, svW (u.2 17) (u.2 18) (u.2 19) (u.2 20) (u.2 21) (u.2 22) (u.2 23) cI (fun _ => 0) (fun _ => 0) fX5_init 0 0 0 4 1, svW (u.2 24) (u.2 25) (u.2 26) (u.2 27) (u.2 28) (u.2 29) (u.2 30) cI (fun _ => 0) (fun _ => 0) fX5_init 0 0 0 4 1, svW (u.2 31) (u.2 32) (u.2 33) (u.2 34) (u.2 35) (u.2 36) (u.2 37) cI (fun _ => 0) (fun _ => 0) fX5_init 0 0 0 4 1, svW (u.2 38) (u.2 39) (u.2 40) (u.2 41) (u.2 42) (u.2 43) (u.2 44) cI (fun _ => 0) (fun _ => 0) fX5_init 0 0 0 4 1, [((u.2 45), .inr (3, [.ref (u.2 46), .ref (u.2 47), .int 0, .null, .int 0])), ((u.2 46), .inl (cC, 80, .inl (fun _ => 0))), ((u.2 47), .inl (cI, 5, .inl (fun _ => 0)))], [((u.2 48), .inr (2, [.ref (u.2 45), .ref (u.2 49), .int 0, .int 0, .int 0]))], svW (u.2 49) (u.2 50) (u.2 51) (u.2 52) (u.2 53) (u.2 54) (u.2 55) cI (fun _ => 0) (fun _ => 0) fX5_init 0 0 0 4 1] : List va_W).flatten) Fr) (cc := cX8_init) (maxL := 1) (ret := none) (own := RX8) (lv := [(0, .ref fq)]) (by decide) rfl rfl (Nat.le_of_ble_eq_true rfl) rfl ?_
  intro p e s m below meth c Fr ls hx hb hr hts hown hml hlk hin hP hK hD hS hA hAe hsz hX hl
  have hin := hin rfl
  have w_1 := sub_r (big := wsX8_init) (u_ws RX5 TX5 8) [74, 75, 76, 77, 78, 79, 80, 81] rfl
  have w_2 := hts (.fieldLink RX8 10 "FieldQuotas" "survey" "LFieldQuotas$Survey;") (List.mem_of_getElem? (i := 7) rfl)
  have w_3 := sub_r (big := wsX8_init) (u_ws RX8 TX8 5) [82, 83, 84, 85, 86] rfl
  have w_4 := sub_r (big := wsX8_init) (u_ws RX2 TX2 1) [87] rfl
  have w_5 := hts (.fieldLink RX8 21 "FieldQuotas" "overview" "LFieldQuotas$Overview;") (List.mem_of_getElem? (i := 11) rfl)
  have w_6 := sub_r (big := wsX8_init) (u_ws RX1 TX1 3) [88, 89, 90] rfl
  have w_7 := hts (.fieldLink RX8 28 "FieldQuotas" "history" "LFieldQuotas$History;") (List.mem_of_getElem? (i := 15) rfl)
  have w_8 := sub_r (big := wsX8_init) (u_ws RX4 TX4 5) [91, 92, 93, 94, 95] rfl
  have w_9 := hts (.fieldLink RX8 35 "FieldQuotas" "script" "LFieldQuotas$Script;") (List.mem_of_getElem? (i := 19) rfl)
  have w_10 := sub_r (big := wsX8_init) (u_ws RX3 TX3 5) [96, 97, 98, 99, 100] rfl
  have w_11 := hts (.fieldLink RX8 44 "FieldQuotas" "rehearsal" "LFieldQuotas$Rehearsal;") (List.mem_of_getElem? (i := 23) rfl)
  refine lv_aload_n hx hb dX8_init_0 rfl (lv_at hl 0 rfl) ?_
  refine W.objInit hx hb hown (hts (.methodLink RX8 1 objectInit) (List.mem_of_getElem? (i := 1) rfl)) (hts (.instanceMethod objectInit) (List.mem_of_getElem? (i := 2) rfl)) (hts (.code objectInit ⟨#[0xb1]⟩ 1 none) (List.mem_of_getElem? (i := 3) rfl)) rfl (by rw [hml]; exact hl.1) rfl dX8_init_1 (Nat.le_of_ble_eq_true rfl) (Nat.le_of_ble_eq_true rfl) ?_
  refine W.eq (g2 := F0 m 4 ls []) rfl ?_
  refine lv_aload_n hx hb dX8_init_4 rfl (lv_at hl 0 rfl) ?_
  refine va_new (D := D) (ci := 4) (fs := [.null, .null, .null, .int 0, .int 0, .int 0, .int 0, .int 0]) (C := RX5) (T := TX5) (N := 8) hx hb hts w_1 tyX5 tyX5_ok hown (hts (.classLink RX8 7 RX5) (List.mem_of_getElem? (i := 4) rfl)) (hts (.instantiable RX5 8) (List.mem_of_getElem? (i := 5) rfl)) (hts (.initialized RX5) (List.mem_of_getElem? (i := 6) rfl)) hK hP hD hS hA rfl (fun j hj => by rcases (show j = 0 ∨ j = 1 ∨ j = 2 ∨ j = 3 ∨ j = 4 ∨ j = 5 ∨ j = 6 ∨ j = 7 by omega) with rfl | rfl | rfl | rfl | rfl | rfl | rfl | rfl <;> rfl) (Nat.le_of_ble_eq_true rfl) (Nat.le_of_ble_eq_true rfl) dX8_init_5 (fun q5_1 H hP hD hS => ?_)
  refine lv_dup hx hb dX8_init_8 rfl ?_
  refine callIn (wr := ([(fq, .inr (6, [.null, .null, .null, .null, .null]))])) (As := []) (rest := [.ref q5_1, .ref fq]) (fs := [.null, .null, .null, .int 0, .int 0, .int 0, .int 0, .int 0]) (mX5_init l D cI cC cS _ q5_1) ⟨hx, hb, hml, hown, hts⟩ (cwI 0 hts gX8_init_X5_init rfl rfl rfl (hts (.initialized RX5) (List.mem_of_getElem? (i := 6) rfl)) (hts (.methodLink RX8 9 yX5_init) (List.mem_of_getElem? (i := 24) rfl)) (hts (.instanceMethod yX5_init) (List.mem_of_getElem? (i := 25) rfl)) rfl (by decide +kernel) ⟨Nat.le_of_ble_eq_true rfl, Nat.le_of_ble_eq_true rfl⟩) X0_blind (fun _ _ _ => trivial) hP hK hD hS hA hl rfl rfl (Nat.le_of_ble_eq_true rfl) dX8_init_9 ⟨Nat.le_of_ble_eq_true rfl, Nat.le_of_ble_eq_true rfl⟩ (fun u_1 H locs hk1 hP hD hS => ?_)
  obtain ⟨c_1, u_1⟩ := u_1
  have hk1 : fX5_init = c_1 := hk1
  subst hk1
  have hP : va_P D vwCl (([[(fq, .inr (6, [.null, .null, .null, .null, .null]))], svW q5_1 (u_1 0) (u_1 1) (u_1 2) (u_1 3) (u_1 4) (u_1 5) cI (fun _ => 0) (fun _ => 0) fX5_init 0 0 0 4 1] : List va_W).flatten) H := hP
  have hD : va_D Fr (([[(fq, .inr (6, [.null, .null, .null, .null, .null]))], svW q5_1 (u_1 0) (u_1 1) (u_1 2) (u_1 3) (u_1 4) (u_1 5) cI (fun _ => 0) (fun _ => 0) fX5_init 0 0 0 4 1] : List va_W).flatten) := hD
  refine W.eq (g2 := F0 m 12 ls [.ref q5_1, .ref fq]) rfl ?_
  refine va_putF (D := D) (ci := 6) (v := .ref q5_1) (ty := (.object "FieldQuotas$Survey")) (C := RX8) (T := TX8) (N := 5) hx hb hts w_3 tyX8 tyX8_ok nmX8 hown hK hP hD hS 0 rfl rfl 0 (by decide) w_2 (fun _ h9 => h9) rfl hin rfl (by decide +kernel) rfl rfl (Nat.le_of_ble_eq_true rfl) dX8_init_12 (fun H locs hP hD hS => ?_)
  have hP : va_P D vwCl (([[(fq, .inr (6, [.ref q5_1, .null, .null, .null, .null]))], svW q5_1 (u_1 0) (u_1 1) (u_1 2) (u_1 3) (u_1 4) (u_1 5) cI (fun _ => 0) (fun _ => 0) fX5_init 0 0 0 4 1] : List va_W).flatten) H := hP
  have hD : va_D Fr (([[(fq, .inr (6, [.ref q5_1, .null, .null, .null, .null]))], svW q5_1 (u_1 0) (u_1 1) (u_1 2) (u_1 3) (u_1 4) (u_1 5) cI (fun _ => 0) (fun _ => 0) fX5_init 0 0 0 4 1] : List va_W).flatten) := hD
  refine lv_aload_n hx hb dX8_init_15 rfl (lv_at hl 0 rfl) ?_
  refine va_new (D := D) (ci := 1) (fs := [.null]) (C := RX2) (T := TX2) (N := 1) hx hb hts w_4 tyX2 tyX2_ok hown (hts (.classLink RX8 16 RX2) (List.mem_of_getElem? (i := 8) rfl)) (hts (.instantiable RX2 1) (List.mem_of_getElem? (i := 9) rfl)) (hts (.initialized RX2) (List.mem_of_getElem? (i := 10) rfl)) hK hP hD hS hA rfl (fun j hj => by rcases (show j = 0 by omega) with rfl <;> rfl) (Nat.le_of_ble_eq_true rfl) (Nat.le_of_ble_eq_true rfl) dX8_init_16 (fun q16_8 H hP hD hS => ?_)
  refine lv_dup hx hb dX8_init_19 rfl ?_
  refine lv_aload_n hx hb dX8_init_20 rfl (lv_at hl 0 rfl) ?_
  refine va_get (D := D) (ci := 6) (C := RX8) (T := TX8) (N := 5) hx hb hts w_3 hown hK hP 0 rfl rfl 0 (by decide) w_2 (fun _ h9 => h9) rfl dX8_init_21 ?_
  refine callIn (wr := (([[(fq, .inr (6, [.ref q5_1, .null, .null, .null, .null]))], svW q5_1 (u_1 0) (u_1 1) (u_1 2) (u_1 3) (u_1 4) (u_1 5) cI (fun _ => 0) (fun _ => 0) fX5_init 0 0 0 4 1] : List va_W).flatten)) (As := [.ref q5_1]) (rest := [.ref q16_8, .ref fq]) (fs := [.null]) (mX2_init l D cI cC cS _ q16_8 q5_1) ⟨hx, hb, hml, hown, hts⟩ (cwI 1 hts gX8_init_X2_init rfl rfl rfl (hts (.initialized RX2) (List.mem_of_getElem? (i := 10) rfl)) (hts (.methodLink RX8 18 yX2_init) (List.mem_of_getElem? (i := 47) rfl)) (hts (.instanceMethod yX2_init) (List.mem_of_getElem? (i := 48) rfl)) rfl (by decide +kernel) ⟨Nat.le_of_ble_eq_true rfl, Nat.le_of_ble_eq_true rfl⟩) X0_blind (fun _ _ _ => trivial) hP hK hD hS hA hl rfl rfl (Nat.le_of_ble_eq_true rfl) dX8_init_24 ⟨Nat.le_of_ble_eq_true rfl, Nat.le_of_ble_eq_true rfl⟩ (fun u_2 H locs hk2 hP hD hS => ?_)
  obtain ⟨⟨⟩, u_2⟩ := u_2
  have hP : va_P D vwCl (([[(fq, .inr (6, [.ref q5_1, .null, .null, .null, .null]))], svW q5_1 (u_1 0) (u_1 1) (u_1 2) (u_1 3) (u_1 4) (u_1 5) cI (fun _ => 0) (fun _ => 0) fX5_init 0 0 0 4 1, [(q16_8, .inr (1, [.ref q5_1]))]] : List va_W).flatten) H := hP
  have hD : va_D Fr (([[(fq, .inr (6, [.ref q5_1, .null, .null, .null, .null]))], svW q5_1 (u_1 0) (u_1 1) (u_1 2) (u_1 3) (u_1 4) (u_1 5) cI (fun _ => 0) (fun _ => 0) fX5_init 0 0 0 4 1, [(q16_8, .inr (1, [.ref q5_1]))]] : List va_W).flatten) := hD
  refine W.eq (g2 := F0 m 27 ls [.ref q16_8, .ref fq]) rfl ?_
  refine va_putF (D := D) (ci := 6) (v := .ref q16_8) (ty := (.object "FieldQuotas$Overview")) (C := RX8) (T := TX8) (N := 5) hx hb hts w_3 tyX8 tyX8_ok nmX8 hown hK hP hD hS 0 rfl rfl 1 (by decide) w_5 (fun _ h9 => h9) rfl hin rfl (by decide +kernel) rfl rfl (Nat.le_of_ble_eq_true rfl) dX8_init_27 (fun H locs hP hD hS => ?_)
  have hP : va_P D vwCl (([[(fq, .inr (6, [.ref q5_1, .ref q16_8, .null, .null, .null]))], svW q5_1 (u_1 0) (u_1 1) (u_1 2) (u_1 3) (u_1 4) (u_1 5) cI (fun _ => 0) (fun _ => 0) fX5_init 0 0 0 4 1, [(q16_8, .inr (1, [.ref q5_1]))]] : List va_W).flatten) H := hP
  have hD : va_D Fr (([[(fq, .inr (6, [.ref q5_1, .ref q16_8, .null, .null, .null]))], svW q5_1 (u_1 0) (u_1 1) (u_1 2) (u_1 3) (u_1 4) (u_1 5) cI (fun _ => 0) (fun _ => 0) fX5_init 0 0 0 4 1, [(q16_8, .inr (1, [.ref q5_1]))]] : List va_W).flatten) := hD
  refine lv_aload_n hx hb dX8_init_30 rfl (lv_at hl 0 rfl) ?_
  refine va_new (D := D) (ci := 0) (fs := [.null, .int 0, .int 0]) (C := RX1) (T := TX1) (N := 3) hx hb hts w_6 tyX1 tyX1_ok hown (hts (.classLink RX8 25 RX1) (List.mem_of_getElem? (i := 12) rfl)) (hts (.instantiable RX1 3) (List.mem_of_getElem? (i := 13) rfl)) (hts (.initialized RX1) (List.mem_of_getElem? (i := 14) rfl)) hK hP hD hS hA rfl (fun j hj => by rcases (show j = 0 ∨ j = 1 ∨ j = 2 by omega) with rfl | rfl | rfl <;> rfl) (Nat.le_of_ble_eq_true rfl) (Nat.le_of_ble_eq_true rfl) dX8_init_31 (fun q31_9 H hP hD hS => ?_)
  refine lv_dup hx hb dX8_init_34 rfl ?_
  refine callIn (wr := (([[(fq, .inr (6, [.ref q5_1, .ref q16_8, .null, .null, .null]))], svW q5_1 (u_1 0) (u_1 1) (u_1 2) (u_1 3) (u_1 4) (u_1 5) cI (fun _ => 0) (fun _ => 0) fX5_init 0 0 0 4 1, [(q16_8, .inr (1, [.ref q5_1]))]] : List va_W).flatten)) (As := []) (rest := [.ref q31_9, .ref fq]) (fs := [.null, .int 0, .int 0]) (mX1_init l D cI cC cS _ q31_9) ⟨hx, hb, hml, hown, hts⟩ (cwI 0 hts gX8_init_X1_init rfl rfl rfl (hts (.initialized RX1) (List.mem_of_getElem? (i := 14) rfl)) (hts (.methodLink RX8 27 yX1_init) (List.mem_of_getElem? (i := 52) rfl)) (hts (.instanceMethod yX1_init) (List.mem_of_getElem? (i := 53) rfl)) rfl (by decide +kernel) ⟨Nat.le_of_ble_eq_true rfl, Nat.le_of_ble_eq_true rfl⟩) wAO_blind (fun _ _ hW => wAO_warm hW hX) hP hK hD hS hA hl rfl rfl (Nat.le_of_ble_eq_true rfl) dX8_init_35 ⟨Nat.le_of_ble_eq_true rfl, Nat.le_of_ble_eq_true rfl⟩ (fun u_3 H locs hk3 hP hD hS => ?_)
  obtain ⟨⟨⟩, u_3⟩ := u_3
  have hP : va_P D vwCl (([[(fq, .inr (6, [.ref q5_1, .ref q16_8, .null, .null, .null]))], svW q5_1 (u_1 0) (u_1 1) (u_1 2) (u_1 3) (u_1 4) (u_1 5) cI (fun _ => 0) (fun _ => 0) fX5_init 0 0 0 4 1, [(q16_8, .inr (1, [.ref q5_1]))], [(q31_9, .inr (0, [.ref (u_3 0), .int 0, .int 0])), ((u_3 0), .inl (cS, 5, .inr (.inr (.inr (.inr (va_up (va_up (va_up (va_up (va_up (fun _ => none) 0 (some (u_3 1))) 1 (some (u_3 8))) 2 (some (u_3 15))) 3 (some (u_3 22))) 4 (some (u_3 29))))))))], svW (u_3 1) (u_3 2) (u_3 3) (u_3 4) (u_3 5) (u_3 6) (u_3 7) cI (fun _ => 0) (fun _ => 0) fX5_init 0 0 0 4 1, svW (u_3 8) (u_3 9) (u_3 10) (u_3 11) (u_3 12) (u_3 13) (u_3 14) cI (fun _ => 0) (fun _ => 0) fX5_init 0 0 0 4 1, svW (u_3 15) (u_3 16) (u_3 17) (u_3 18) (u_3 19) (u_3 20) (u_3 21) cI (fun _ => 0) (fun _ => 0) fX5_init 0 0 0 4 1, svW (u_3 22) (u_3 23) (u_3 24) (u_3 25) (u_3 26) (u_3 27) (u_3 28) cI (fun _ => 0) (fun _ => 0) fX5_init 0 0 0 4 1, svW (u_3 29) (u_3 30) (u_3 31) (u_3 32) (u_3 33) (u_3 34) (u_3 35) cI (fun _ => 0) (fun _ => 0) fX5_init 0 0 0 4 1] : List va_W).flatten) H := hP
  have hD : va_D Fr (([[(fq, .inr (6, [.ref q5_1, .ref q16_8, .null, .null, .null]))], svW q5_1 (u_1 0) (u_1 1) (u_1 2) (u_1 3) (u_1 4) (u_1 5) cI (fun _ => 0) (fun _ => 0) fX5_init 0 0 0 4 1, [(q16_8, .inr (1, [.ref q5_1]))], [(q31_9, .inr (0, [.ref (u_3 0), .int 0, .int 0])), ((u_3 0), .inl (cS, 5, .inr (.inr (.inr (.inr (va_up (va_up (va_up (va_up (va_up (fun _ => none) 0 (some (u_3 1))) 1 (some (u_3 8))) 2 (some (u_3 15))) 3 (some (u_3 22))) 4 (some (u_3 29))))))))], svW (u_3 1) (u_3 2) (u_3 3) (u_3 4) (u_3 5) (u_3 6) (u_3 7) cI (fun _ => 0) (fun _ => 0) fX5_init 0 0 0 4 1, svW (u_3 8) (u_3 9) (u_3 10) (u_3 11) (u_3 12) (u_3 13) (u_3 14) cI (fun _ => 0) (fun _ => 0) fX5_init 0 0 0 4 1, svW (u_3 15) (u_3 16) (u_3 17) (u_3 18) (u_3 19) (u_3 20) (u_3 21) cI (fun _ => 0) (fun _ => 0) fX5_init 0 0 0 4 1, svW (u_3 22) (u_3 23) (u_3 24) (u_3 25) (u_3 26) (u_3 27) (u_3 28) cI (fun _ => 0) (fun _ => 0) fX5_init 0 0 0 4 1, svW (u_3 29) (u_3 30) (u_3 31) (u_3 32) (u_3 33) (u_3 34) (u_3 35) cI (fun _ => 0) (fun _ => 0) fX5_init 0 0 0 4 1] : List va_W).flatten) := hD
  refine W.eq (g2 := F0 m 38 ls [.ref q31_9, .ref fq]) rfl ?_
  refine va_putF (D := D) (ci := 6) (v := .ref q31_9) (ty := (.object "FieldQuotas$History")) (C := RX8) (T := TX8) (N := 5) hx hb hts w_3 tyX8 tyX8_ok nmX8 hown hK hP hD hS 0 rfl rfl 2 (by decide) w_7 (fun _ h9 => h9) rfl hin rfl (by decide +kernel) rfl rfl (Nat.le_of_ble_eq_true rfl) dX8_init_38 (fun H locs hP hD hS => ?_)
  have hP : va_P D vwCl (([[(fq, .inr (6, [.ref q5_1, .ref q16_8, .ref q31_9, .null, .null]))], svW q5_1 (u_1 0) (u_1 1) (u_1 2) (u_1 3) (u_1 4) (u_1 5) cI (fun _ => 0) (fun _ => 0) fX5_init 0 0 0 4 1, [(q16_8, .inr (1, [.ref q5_1]))], [(q31_9, .inr (0, [.ref (u_3 0), .int 0, .int 0])), ((u_3 0), .inl (cS, 5, .inr (.inr (.inr (.inr (va_up (va_up (va_up (va_up (va_up (fun _ => none) 0 (some (u_3 1))) 1 (some (u_3 8))) 2 (some (u_3 15))) 3 (some (u_3 22))) 4 (some (u_3 29))))))))], svW (u_3 1) (u_3 2) (u_3 3) (u_3 4) (u_3 5) (u_3 6) (u_3 7) cI (fun _ => 0) (fun _ => 0) fX5_init 0 0 0 4 1, svW (u_3 8) (u_3 9) (u_3 10) (u_3 11) (u_3 12) (u_3 13) (u_3 14) cI (fun _ => 0) (fun _ => 0) fX5_init 0 0 0 4 1, svW (u_3 15) (u_3 16) (u_3 17) (u_3 18) (u_3 19) (u_3 20) (u_3 21) cI (fun _ => 0) (fun _ => 0) fX5_init 0 0 0 4 1, svW (u_3 22) (u_3 23) (u_3 24) (u_3 25) (u_3 26) (u_3 27) (u_3 28) cI (fun _ => 0) (fun _ => 0) fX5_init 0 0 0 4 1, svW (u_3 29) (u_3 30) (u_3 31) (u_3 32) (u_3 33) (u_3 34) (u_3 35) cI (fun _ => 0) (fun _ => 0) fX5_init 0 0 0 4 1] : List va_W).flatten) H := hP
  have hD : va_D Fr (([[(fq, .inr (6, [.ref q5_1, .ref q16_8, .ref q31_9, .null, .null]))], svW q5_1 (u_1 0) (u_1 1) (u_1 2) (u_1 3) (u_1 4) (u_1 5) cI (fun _ => 0) (fun _ => 0) fX5_init 0 0 0 4 1, [(q16_8, .inr (1, [.ref q5_1]))], [(q31_9, .inr (0, [.ref (u_3 0), .int 0, .int 0])), ((u_3 0), .inl (cS, 5, .inr (.inr (.inr (.inr (va_up (va_up (va_up (va_up (va_up (fun _ => none) 0 (some (u_3 1))) 1 (some (u_3 8))) 2 (some (u_3 15))) 3 (some (u_3 22))) 4 (some (u_3 29))))))))], svW (u_3 1) (u_3 2) (u_3 3) (u_3 4) (u_3 5) (u_3 6) (u_3 7) cI (fun _ => 0) (fun _ => 0) fX5_init 0 0 0 4 1, svW (u_3 8) (u_3 9) (u_3 10) (u_3 11) (u_3 12) (u_3 13) (u_3 14) cI (fun _ => 0) (fun _ => 0) fX5_init 0 0 0 4 1, svW (u_3 15) (u_3 16) (u_3 17) (u_3 18) (u_3 19) (u_3 20) (u_3 21) cI (fun _ => 0) (fun _ => 0) fX5_init 0 0 0 4 1, svW (u_3 22) (u_3 23) (u_3 24) (u_3 25) (u_3 26) (u_3 27) (u_3 28) cI (fun _ => 0) (fun _ => 0) fX5_init 0 0 0 4 1, svW (u_3 29) (u_3 30) (u_3 31) (u_3 32) (u_3 33) (u_3 34) (u_3 35) cI (fun _ => 0) (fun _ => 0) fX5_init 0 0 0 4 1] : List va_W).flatten) := hD
  refine lv_aload_n hx hb dX8_init_41 rfl (lv_at hl 0 rfl) ?_
  refine va_new (D := D) (ci := 3) (fs := [.null, .null, .int 0, .null, .int 0]) (C := RX4) (T := TX4) (N := 5) hx hb hts w_8 tyX4 tyX4_ok hown (hts (.classLink RX8 32 RX4) (List.mem_of_getElem? (i := 16) rfl)) (hts (.instantiable RX4 5) (List.mem_of_getElem? (i := 17) rfl)) (hts (.initialized RX4) (List.mem_of_getElem? (i := 18) rfl)) hK hP hD hS hA rfl (fun j hj => by rcases (show j = 0 ∨ j = 1 ∨ j = 2 ∨ j = 3 ∨ j = 4 by omega) with rfl | rfl | rfl | rfl | rfl <;> rfl) (Nat.le_of_ble_eq_true rfl) (Nat.le_of_ble_eq_true rfl) dX8_init_42 (fun q42_46 H hP hD hS => ?_)
  refine lv_dup hx hb dX8_init_45 rfl ?_
  refine callIn (wr := (([[(fq, .inr (6, [.ref q5_1, .ref q16_8, .ref q31_9, .null, .null]))], svW q5_1 (u_1 0) (u_1 1) (u_1 2) (u_1 3) (u_1 4) (u_1 5) cI (fun _ => 0) (fun _ => 0) fX5_init 0 0 0 4 1, [(q16_8, .inr (1, [.ref q5_1]))], [(q31_9, .inr (0, [.ref (u_3 0), .int 0, .int 0])), ((u_3 0), .inl (cS, 5, .inr (.inr (.inr (.inr (va_up (va_up (va_up (va_up (va_up (fun _ => none) 0 (some (u_3 1))) 1 (some (u_3 8))) 2 (some (u_3 15))) 3 (some (u_3 22))) 4 (some (u_3 29))))))))], svW (u_3 1) (u_3 2) (u_3 3) (u_3 4) (u_3 5) (u_3 6) (u_3 7) cI (fun _ => 0) (fun _ => 0) fX5_init 0 0 0 4 1, svW (u_3 8) (u_3 9) (u_3 10) (u_3 11) (u_3 12) (u_3 13) (u_3 14) cI (fun _ => 0) (fun _ => 0) fX5_init 0 0 0 4 1, svW (u_3 15) (u_3 16) (u_3 17) (u_3 18) (u_3 19) (u_3 20) (u_3 21) cI (fun _ => 0) (fun _ => 0) fX5_init 0 0 0 4 1, svW (u_3 22) (u_3 23) (u_3 24) (u_3 25) (u_3 26) (u_3 27) (u_3 28) cI (fun _ => 0) (fun _ => 0) fX5_init 0 0 0 4 1, svW (u_3 29) (u_3 30) (u_3 31) (u_3 32) (u_3 33) (u_3 34) (u_3 35) cI (fun _ => 0) (fun _ => 0) fX5_init 0 0 0 4 1] : List va_W).flatten)) (As := []) (rest := [.ref q42_46, .ref fq]) (fs := [.null, .null, .int 0, .null, .int 0]) (mX4_init l D cI cC cS _ q42_46) ⟨hx, hb, hml, hown, hts⟩ (cwI 0 hts gX8_init_X4_init rfl rfl rfl (hts (.initialized RX4) (List.mem_of_getElem? (i := 18) rfl)) (hts (.methodLink RX8 34 yX4_init) (List.mem_of_getElem? (i := 59) rfl)) (hts (.instanceMethod yX4_init) (List.mem_of_getElem? (i := 60) rfl)) rfl (by decide +kernel) ⟨Nat.le_of_ble_eq_true rfl, Nat.le_of_ble_eq_true rfl⟩) X0_blind (fun _ _ _ => trivial) hP hK hD hS hA hl rfl rfl (Nat.le_of_ble_eq_true rfl) dX8_init_46 ⟨Nat.le_of_ble_eq_true rfl, Nat.le_of_ble_eq_true rfl⟩ (fun u_4 H locs hk4 hP hD hS => ?_)
  obtain ⟨⟨⟩, u_4⟩ := u_4
  have hP : va_P D vwCl (([[(fq, .inr (6, [.ref q5_1, .ref q16_8, .ref q31_9, .null, .null]))], svW q5_1 (u_1 0) (u_1 1) (u_1 2) (u_1 3) (u_1 4) (u_1 5) cI (fun _ => 0) (fun _ => 0) fX5_init 0 0 0 4 1, [(q16_8, .inr (1, [.ref q5_1]))], [(q31_9, .inr (0, [.ref (u_3 0), .int 0, .int 0])), ((u_3 0), .inl (cS, 5, .inr (.inr (.inr (.inr (va_up (va_up (va_up (va_up (va_up (fun _ => none) 0 (some (u_3 1))) 1 (some (u_3 8))) 2 (some (u_3 15))) 3 (some (u_3 22))) 4 (some (u_3 29))))))))], svW (u_3 1) (u_3 2) (u_3 3) (u_3 4) (u_3 5) (u_3 6) (u_3 7) cI (fun _ => 0) (fun _ => 0) fX5_init 0 0 0 4 1, svW (u_3 8) (u_3 9) (u_3 10) (u_3 11) (u_3 12) (u_3 13) (u_3 14) cI (fun _ => 0) (fun _ => 0) fX5_init 0 0 0 4 1, svW (u_3 15) (u_3 16) (u_3 17) (u_3 18) (u_3 19) (u_3 20) (u_3 21) cI (fun _ => 0) (fun _ => 0) fX5_init 0 0 0 4 1, svW (u_3 22) (u_3 23) (u_3 24) (u_3 25) (u_3 26) (u_3 27) (u_3 28) cI (fun _ => 0) (fun _ => 0) fX5_init 0 0 0 4 1, svW (u_3 29) (u_3 30) (u_3 31) (u_3 32) (u_3 33) (u_3 34) (u_3 35) cI (fun _ => 0) (fun _ => 0) fX5_init 0 0 0 4 1, [(q42_46, .inr (3, [.ref (u_4 0), .ref (u_4 1), .int 0, .null, .int 0])), ((u_4 0), .inl (cC, 80, .inl (fun _ => 0))), ((u_4 1), .inl (cI, 5, .inl (fun _ => 0)))]] : List va_W).flatten) H := hP
  have hD : va_D Fr (([[(fq, .inr (6, [.ref q5_1, .ref q16_8, .ref q31_9, .null, .null]))], svW q5_1 (u_1 0) (u_1 1) (u_1 2) (u_1 3) (u_1 4) (u_1 5) cI (fun _ => 0) (fun _ => 0) fX5_init 0 0 0 4 1, [(q16_8, .inr (1, [.ref q5_1]))], [(q31_9, .inr (0, [.ref (u_3 0), .int 0, .int 0])), ((u_3 0), .inl (cS, 5, .inr (.inr (.inr (.inr (va_up (va_up (va_up (va_up (va_up (fun _ => none) 0 (some (u_3 1))) 1 (some (u_3 8))) 2 (some (u_3 15))) 3 (some (u_3 22))) 4 (some (u_3 29))))))))], svW (u_3 1) (u_3 2) (u_3 3) (u_3 4) (u_3 5) (u_3 6) (u_3 7) cI (fun _ => 0) (fun _ => 0) fX5_init 0 0 0 4 1, svW (u_3 8) (u_3 9) (u_3 10) (u_3 11) (u_3 12) (u_3 13) (u_3 14) cI (fun _ => 0) (fun _ => 0) fX5_init 0 0 0 4 1, svW (u_3 15) (u_3 16) (u_3 17) (u_3 18) (u_3 19) (u_3 20) (u_3 21) cI (fun _ => 0) (fun _ => 0) fX5_init 0 0 0 4 1, svW (u_3 22) (u_3 23) (u_3 24) (u_3 25) (u_3 26) (u_3 27) (u_3 28) cI (fun _ => 0) (fun _ => 0) fX5_init 0 0 0 4 1, svW (u_3 29) (u_3 30) (u_3 31) (u_3 32) (u_3 33) (u_3 34) (u_3 35) cI (fun _ => 0) (fun _ => 0) fX5_init 0 0 0 4 1, [(q42_46, .inr (3, [.ref (u_4 0), .ref (u_4 1), .int 0, .null, .int 0])), ((u_4 0), .inl (cC, 80, .inl (fun _ => 0))), ((u_4 1), .inl (cI, 5, .inl (fun _ => 0)))]] : List va_W).flatten) := hD
  refine W.eq (g2 := F0 m 49 ls [.ref q42_46, .ref fq]) rfl ?_
  refine va_putF (D := D) (ci := 6) (v := .ref q42_46) (ty := (.object "FieldQuotas$Script")) (C := RX8) (T := TX8) (N := 5) hx hb hts w_3 tyX8 tyX8_ok nmX8 hown hK hP hD hS 0 rfl rfl 3 (by decide) w_9 (fun _ h9 => h9) rfl hin rfl (by decide +kernel) rfl rfl (Nat.le_of_ble_eq_true rfl) dX8_init_49 (fun H locs hP hD hS => ?_)
  have hP : va_P D vwCl (([[(fq, .inr (6, [.ref q5_1, .ref q16_8, .ref q31_9, .ref q42_46, .null]))], svW q5_1 (u_1 0) (u_1 1) (u_1 2) (u_1 3) (u_1 4) (u_1 5) cI (fun _ => 0) (fun _ => 0) fX5_init 0 0 0 4 1, [(q16_8, .inr (1, [.ref q5_1]))], [(q31_9, .inr (0, [.ref (u_3 0), .int 0, .int 0])), ((u_3 0), .inl (cS, 5, .inr (.inr (.inr (.inr (va_up (va_up (va_up (va_up (va_up (fun _ => none) 0 (some (u_3 1))) 1 (some (u_3 8))) 2 (some (u_3 15))) 3 (some (u_3 22))) 4 (some (u_3 29))))))))], svW (u_3 1) (u_3 2) (u_3 3) (u_3 4) (u_3 5) (u_3 6) (u_3 7) cI (fun _ => 0) (fun _ => 0) fX5_init 0 0 0 4 1, svW (u_3 8) (u_3 9) (u_3 10) (u_3 11) (u_3 12) (u_3 13) (u_3 14) cI (fun _ => 0) (fun _ => 0) fX5_init 0 0 0 4 1, svW (u_3 15) (u_3 16) (u_3 17) (u_3 18) (u_3 19) (u_3 20) (u_3 21) cI (fun _ => 0) (fun _ => 0) fX5_init 0 0 0 4 1, svW (u_3 22) (u_3 23) (u_3 24) (u_3 25) (u_3 26) (u_3 27) (u_3 28) cI (fun _ => 0) (fun _ => 0) fX5_init 0 0 0 4 1, svW (u_3 29) (u_3 30) (u_3 31) (u_3 32) (u_3 33) (u_3 34) (u_3 35) cI (fun _ => 0) (fun _ => 0) fX5_init 0 0 0 4 1, [(q42_46, .inr (3, [.ref (u_4 0), .ref (u_4 1), .int 0, .null, .int 0])), ((u_4 0), .inl (cC, 80, .inl (fun _ => 0))), ((u_4 1), .inl (cI, 5, .inl (fun _ => 0)))]] : List va_W).flatten) H := hP
  have hD : va_D Fr (([[(fq, .inr (6, [.ref q5_1, .ref q16_8, .ref q31_9, .ref q42_46, .null]))], svW q5_1 (u_1 0) (u_1 1) (u_1 2) (u_1 3) (u_1 4) (u_1 5) cI (fun _ => 0) (fun _ => 0) fX5_init 0 0 0 4 1, [(q16_8, .inr (1, [.ref q5_1]))], [(q31_9, .inr (0, [.ref (u_3 0), .int 0, .int 0])), ((u_3 0), .inl (cS, 5, .inr (.inr (.inr (.inr (va_up (va_up (va_up (va_up (va_up (fun _ => none) 0 (some (u_3 1))) 1 (some (u_3 8))) 2 (some (u_3 15))) 3 (some (u_3 22))) 4 (some (u_3 29))))))))], svW (u_3 1) (u_3 2) (u_3 3) (u_3 4) (u_3 5) (u_3 6) (u_3 7) cI (fun _ => 0) (fun _ => 0) fX5_init 0 0 0 4 1, svW (u_3 8) (u_3 9) (u_3 10) (u_3 11) (u_3 12) (u_3 13) (u_3 14) cI (fun _ => 0) (fun _ => 0) fX5_init 0 0 0 4 1, svW (u_3 15) (u_3 16) (u_3 17) (u_3 18) (u_3 19) (u_3 20) (u_3 21) cI (fun _ => 0) (fun _ => 0) fX5_init 0 0 0 4 1, svW (u_3 22) (u_3 23) (u_3 24) (u_3 25) (u_3 26) (u_3 27) (u_3 28) cI (fun _ => 0) (fun _ => 0) fX5_init 0 0 0 4 1, svW (u_3 29) (u_3 30) (u_3 31) (u_3 32) (u_3 33) (u_3 34) (u_3 35) cI (fun _ => 0) (fun _ => 0) fX5_init 0 0 0 4 1, [(q42_46, .inr (3, [.ref (u_4 0), .ref (u_4 1), .int 0, .null, .int 0])), ((u_4 0), .inl (cC, 80, .inl (fun _ => 0))), ((u_4 1), .inl (cI, 5, .inl (fun _ => 0)))]] : List va_W).flatten) := hD
  refine lv_aload_n hx hb dX8_init_52 rfl (lv_at hl 0 rfl) ?_
  refine va_new (D := D) (ci := 2) (fs := [.null, .null, .int 0, .int 0, .int 0]) (C := RX3) (T := TX3) (N := 5) hx hb hts w_10 tyX3 tyX3_ok hown (hts (.classLink RX8 39 RX3) (List.mem_of_getElem? (i := 20) rfl)) (hts (.instantiable RX3 5) (List.mem_of_getElem? (i := 21) rfl)) (hts (.initialized RX3) (List.mem_of_getElem? (i := 22) rfl)) hK hP hD hS hA rfl (fun j hj => by rcases (show j = 0 ∨ j = 1 ∨ j = 2 ∨ j = 3 ∨ j = 4 by omega) with rfl | rfl | rfl | rfl | rfl <;> rfl) (Nat.le_of_ble_eq_true rfl) (Nat.le_of_ble_eq_true rfl) dX8_init_53 (fun q53_49 H hP hD hS => ?_)
  refine lv_dup hx hb dX8_init_56 rfl ?_
  refine lv_aload_n hx hb dX8_init_57 rfl (lv_at hl 0 rfl) ?_
  refine va_get (D := D) (ci := 6) (C := RX8) (T := TX8) (N := 5) hx hb hts w_3 hown hK hP 0 rfl rfl 3 (by decide) w_9 (fun _ h9 => h9) rfl dX8_init_58 ?_
  refine callIn (wr := (([[(fq, .inr (6, [.ref q5_1, .ref q16_8, .ref q31_9, .ref q42_46, .null]))], svW q5_1 (u_1 0) (u_1 1) (u_1 2) (u_1 3) (u_1 4) (u_1 5) cI (fun _ => 0) (fun _ => 0) fX5_init 0 0 0 4 1, [(q16_8, .inr (1, [.ref q5_1]))], [(q31_9, .inr (0, [.ref (u_3 0), .int 0, .int 0])), ((u_3 0), .inl (cS, 5, .inr (.inr (.inr (.inr (va_up (va_up (va_up (va_up (va_up (fun _ => none) 0 (some (u_3 1))) 1 (some (u_3 8))) 2 (some (u_3 15))) 3 (some (u_3 22))) 4 (some (u_3 29))))))))], svW (u_3 1) (u_3 2) (u_3 3) (u_3 4) (u_3 5) (u_3 6) (u_3 7) cI (fun _ => 0) (fun _ => 0) fX5_init 0 0 0 4 1, svW (u_3 8) (u_3 9) (u_3 10) (u_3 11) (u_3 12) (u_3 13) (u_3 14) cI (fun _ => 0) (fun _ => 0) fX5_init 0 0 0 4 1, svW (u_3 15) (u_3 16) (u_3 17) (u_3 18) (u_3 19) (u_3 20) (u_3 21) cI (fun _ => 0) (fun _ => 0) fX5_init 0 0 0 4 1, svW (u_3 22) (u_3 23) (u_3 24) (u_3 25) (u_3 26) (u_3 27) (u_3 28) cI (fun _ => 0) (fun _ => 0) fX5_init 0 0 0 4 1, svW (u_3 29) (u_3 30) (u_3 31) (u_3 32) (u_3 33) (u_3 34) (u_3 35) cI (fun _ => 0) (fun _ => 0) fX5_init 0 0 0 4 1, [(q42_46, .inr (3, [.ref (u_4 0), .ref (u_4 1), .int 0, .null, .int 0])), ((u_4 0), .inl (cC, 80, .inl (fun _ => 0))), ((u_4 1), .inl (cI, 5, .inl (fun _ => 0)))]] : List va_W).flatten)) (As := [.ref q42_46]) (rest := [.ref q53_49, .ref fq]) (fs := [.null, .null, .int 0, .int 0, .int 0]) (mX3_init l D cI cC cS _ q53_49 q42_46) ⟨hx, hb, hml, hown, hts⟩ (cwI 1 hts gX8_init_X3_init rfl rfl rfl (hts (.initialized RX3) (List.mem_of_getElem? (i := 22) rfl)) (hts (.methodLink RX8 41 yX3_init) (List.mem_of_getElem? (i := 66) rfl)) (hts (.instanceMethod yX3_init) (List.mem_of_getElem? (i := 67) rfl)) rfl (by decide +kernel) ⟨Nat.le_of_ble_eq_true rfl, Nat.le_of_ble_eq_true rfl⟩) X0_blind (fun _ _ _ => trivial) hP hK hD hS hA hl rfl rfl (Nat.le_of_ble_eq_true rfl) dX8_init_61 ⟨Nat.le_of_ble_eq_true rfl, Nat.le_of_ble_eq_true rfl⟩ (fun u_5 H locs hk5 hP hD hS => ?_)
  obtain ⟨⟨⟩, u_5⟩ := u_5
  have hP : va_P D vwCl (([[(fq, .inr (6, [.ref q5_1, .ref q16_8, .ref q31_9, .ref q42_46, .null]))], svW q5_1 (u_1 0) (u_1 1) (u_1 2) (u_1 3) (u_1 4) (u_1 5) cI (fun _ => 0) (fun _ => 0) fX5_init 0 0 0 4 1, [(q16_8, .inr (1, [.ref q5_1]))], [(q31_9, .inr (0, [.ref (u_3 0), .int 0, .int 0])), ((u_3 0), .inl (cS, 5, .inr (.inr (.inr (.inr (va_up (va_up (va_up (va_up (va_up (fun _ => none) 0 (some (u_3 1))) 1 (some (u_3 8))) 2 (some (u_3 15))) 3 (some (u_3 22))) 4 (some (u_3 29))))))))], svW (u_3 1) (u_3 2) (u_3 3) (u_3 4) (u_3 5) (u_3 6) (u_3 7) cI (fun _ => 0) (fun _ => 0) fX5_init 0 0 0 4 1, svW (u_3 8) (u_3 9) (u_3 10) (u_3 11) (u_3 12) (u_3 13) (u_3 14) cI (fun _ => 0) (fun _ => 0) fX5_init 0 0 0 4 1, svW (u_3 15) (u_3 16) (u_3 17) (u_3 18) (u_3 19) (u_3 20) (u_3 21) cI (fun _ => 0) (fun _ => 0) fX5_init 0 0 0 4 1, svW (u_3 22) (u_3 23) (u_3 24) (u_3 25) (u_3 26) (u_3 27) (u_3 28) cI (fun _ => 0) (fun _ => 0) fX5_init 0 0 0 4 1, svW (u_3 29) (u_3 30) (u_3 31) (u_3 32) (u_3 33) (u_3 34) (u_3 35) cI (fun _ => 0) (fun _ => 0) fX5_init 0 0 0 4 1, [(q42_46, .inr (3, [.ref (u_4 0), .ref (u_4 1), .int 0, .null, .int 0])), ((u_4 0), .inl (cC, 80, .inl (fun _ => 0))), ((u_4 1), .inl (cI, 5, .inl (fun _ => 0)))], [(q53_49, .inr (2, [.ref q42_46, .ref (u_5 0), .int 0, .int 0, .int 0]))], svW (u_5 0) (u_5 1) (u_5 2) (u_5 3) (u_5 4) (u_5 5) (u_5 6) cI (fun _ => 0) (fun _ => 0) fX5_init 0 0 0 4 1] : List va_W).flatten) H := hP
  have hD : va_D Fr (([[(fq, .inr (6, [.ref q5_1, .ref q16_8, .ref q31_9, .ref q42_46, .null]))], svW q5_1 (u_1 0) (u_1 1) (u_1 2) (u_1 3) (u_1 4) (u_1 5) cI (fun _ => 0) (fun _ => 0) fX5_init 0 0 0 4 1, [(q16_8, .inr (1, [.ref q5_1]))], [(q31_9, .inr (0, [.ref (u_3 0), .int 0, .int 0])), ((u_3 0), .inl (cS, 5, .inr (.inr (.inr (.inr (va_up (va_up (va_up (va_up (va_up (fun _ => none) 0 (some (u_3 1))) 1 (some (u_3 8))) 2 (some (u_3 15))) 3 (some (u_3 22))) 4 (some (u_3 29))))))))], svW (u_3 1) (u_3 2) (u_3 3) (u_3 4) (u_3 5) (u_3 6) (u_3 7) cI (fun _ => 0) (fun _ => 0) fX5_init 0 0 0 4 1, svW (u_3 8) (u_3 9) (u_3 10) (u_3 11) (u_3 12) (u_3 13) (u_3 14) cI (fun _ => 0) (fun _ => 0) fX5_init 0 0 0 4 1, svW (u_3 15) (u_3 16) (u_3 17) (u_3 18) (u_3 19) (u_3 20) (u_3 21) cI (fun _ => 0) (fun _ => 0) fX5_init 0 0 0 4 1, svW (u_3 22) (u_3 23) (u_3 24) (u_3 25) (u_3 26) (u_3 27) (u_3 28) cI (fun _ => 0) (fun _ => 0) fX5_init 0 0 0 4 1, svW (u_3 29) (u_3 30) (u_3 31) (u_3 32) (u_3 33) (u_3 34) (u_3 35) cI (fun _ => 0) (fun _ => 0) fX5_init 0 0 0 4 1, [(q42_46, .inr (3, [.ref (u_4 0), .ref (u_4 1), .int 0, .null, .int 0])), ((u_4 0), .inl (cC, 80, .inl (fun _ => 0))), ((u_4 1), .inl (cI, 5, .inl (fun _ => 0)))], [(q53_49, .inr (2, [.ref q42_46, .ref (u_5 0), .int 0, .int 0, .int 0]))], svW (u_5 0) (u_5 1) (u_5 2) (u_5 3) (u_5 4) (u_5 5) (u_5 6) cI (fun _ => 0) (fun _ => 0) fX5_init 0 0 0 4 1] : List va_W).flatten) := hD
  refine W.eq (g2 := F0 m 64 ls [.ref q53_49, .ref fq]) rfl ?_
  refine va_putF (D := D) (ci := 6) (v := .ref q53_49) (ty := (.object "FieldQuotas$Rehearsal")) (C := RX8) (T := TX8) (N := 5) hx hb hts w_3 tyX8 tyX8_ok nmX8 hown hK hP hD hS 0 rfl rfl 4 (by decide) w_11 (fun _ h9 => h9) rfl hin rfl (by decide +kernel) rfl rfl (Nat.le_of_ble_eq_true rfl) dX8_init_64 (fun H locs hP hD hS => ?_)
  have hP : va_P D vwCl (([[(fq, .inr (6, [.ref q5_1, .ref q16_8, .ref q31_9, .ref q42_46, .ref q53_49]))], svW q5_1 (u_1 0) (u_1 1) (u_1 2) (u_1 3) (u_1 4) (u_1 5) cI (fun _ => 0) (fun _ => 0) fX5_init 0 0 0 4 1, [(q16_8, .inr (1, [.ref q5_1]))], [(q31_9, .inr (0, [.ref (u_3 0), .int 0, .int 0])), ((u_3 0), .inl (cS, 5, .inr (.inr (.inr (.inr (va_up (va_up (va_up (va_up (va_up (fun _ => none) 0 (some (u_3 1))) 1 (some (u_3 8))) 2 (some (u_3 15))) 3 (some (u_3 22))) 4 (some (u_3 29))))))))], svW (u_3 1) (u_3 2) (u_3 3) (u_3 4) (u_3 5) (u_3 6) (u_3 7) cI (fun _ => 0) (fun _ => 0) fX5_init 0 0 0 4 1, svW (u_3 8) (u_3 9) (u_3 10) (u_3 11) (u_3 12) (u_3 13) (u_3 14) cI (fun _ => 0) (fun _ => 0) fX5_init 0 0 0 4 1, svW (u_3 15) (u_3 16) (u_3 17) (u_3 18) (u_3 19) (u_3 20) (u_3 21) cI (fun _ => 0) (fun _ => 0) fX5_init 0 0 0 4 1, svW (u_3 22) (u_3 23) (u_3 24) (u_3 25) (u_3 26) (u_3 27) (u_3 28) cI (fun _ => 0) (fun _ => 0) fX5_init 0 0 0 4 1, svW (u_3 29) (u_3 30) (u_3 31) (u_3 32) (u_3 33) (u_3 34) (u_3 35) cI (fun _ => 0) (fun _ => 0) fX5_init 0 0 0 4 1, [(q42_46, .inr (3, [.ref (u_4 0), .ref (u_4 1), .int 0, .null, .int 0])), ((u_4 0), .inl (cC, 80, .inl (fun _ => 0))), ((u_4 1), .inl (cI, 5, .inl (fun _ => 0)))], [(q53_49, .inr (2, [.ref q42_46, .ref (u_5 0), .int 0, .int 0, .int 0]))], svW (u_5 0) (u_5 1) (u_5 2) (u_5 3) (u_5 4) (u_5 5) (u_5 6) cI (fun _ => 0) (fun _ => 0) fX5_init 0 0 0 4 1] : List va_W).flatten) H := hP
  have hD : va_D Fr (([[(fq, .inr (6, [.ref q5_1, .ref q16_8, .ref q31_9, .ref q42_46, .ref q53_49]))], svW q5_1 (u_1 0) (u_1 1) (u_1 2) (u_1 3) (u_1 4) (u_1 5) cI (fun _ => 0) (fun _ => 0) fX5_init 0 0 0 4 1, [(q16_8, .inr (1, [.ref q5_1]))], [(q31_9, .inr (0, [.ref (u_3 0), .int 0, .int 0])), ((u_3 0), .inl (cS, 5, .inr (.inr (.inr (.inr (va_up (va_up (va_up (va_up (va_up (fun _ => none) 0 (some (u_3 1))) 1 (some (u_3 8))) 2 (some (u_3 15))) 3 (some (u_3 22))) 4 (some (u_3 29))))))))], svW (u_3 1) (u_3 2) (u_3 3) (u_3 4) (u_3 5) (u_3 6) (u_3 7) cI (fun _ => 0) (fun _ => 0) fX5_init 0 0 0 4 1, svW (u_3 8) (u_3 9) (u_3 10) (u_3 11) (u_3 12) (u_3 13) (u_3 14) cI (fun _ => 0) (fun _ => 0) fX5_init 0 0 0 4 1, svW (u_3 15) (u_3 16) (u_3 17) (u_3 18) (u_3 19) (u_3 20) (u_3 21) cI (fun _ => 0) (fun _ => 0) fX5_init 0 0 0 4 1, svW (u_3 22) (u_3 23) (u_3 24) (u_3 25) (u_3 26) (u_3 27) (u_3 28) cI (fun _ => 0) (fun _ => 0) fX5_init 0 0 0 4 1, svW (u_3 29) (u_3 30) (u_3 31) (u_3 32) (u_3 33) (u_3 34) (u_3 35) cI (fun _ => 0) (fun _ => 0) fX5_init 0 0 0 4 1, [(q42_46, .inr (3, [.ref (u_4 0), .ref (u_4 1), .int 0, .null, .int 0])), ((u_4 0), .inl (cC, 80, .inl (fun _ => 0))), ((u_4 1), .inl (cI, 5, .inl (fun _ => 0)))], [(q53_49, .inr (2, [.ref q42_46, .ref (u_5 0), .int 0, .int 0, .int 0]))], svW (u_5 0) (u_5 1) (u_5 2) (u_5 3) (u_5 4) (u_5 5) (u_5 6) cI (fun _ => 0) (fun _ => 0) fX5_init 0 0 0 4 1] : List va_W).flatten) := hD
  exact endV hx hb hr hlk hP hK hD hS dX8_init_67 ((), fun i => ([q5_1, (u_1 0), (u_1 1), (u_1 2), (u_1 3), (u_1 4), (u_1 5), q16_8, q31_9, (u_3 0), (u_3 1), (u_3 2), (u_3 3), (u_3 4), (u_3 5), (u_3 6), (u_3 7), (u_3 8), (u_3 9), (u_3 10), (u_3 11), (u_3 12), (u_3 13), (u_3 14), (u_3 15), (u_3 16), (u_3 17), (u_3 18), (u_3 19), (u_3 20), (u_3 21), (u_3 22), (u_3 23), (u_3 24), (u_3 25), (u_3 26), (u_3 27), (u_3 28), (u_3 29), (u_3 30), (u_3 31), (u_3 32), (u_3 33), (u_3 34), (u_3 35), q42_46, (u_4 0), (u_4 1), q53_49, (u_5 0), (u_5 1), (u_5 2), (u_5 3), (u_5 4), (u_5 5), (u_5 6)] : List Nat).getD i 0) rfl rfl

/-- the loop of X9_init at 64 -/
def fX9_init_64  : Nat → Int32 → (Nat → Int32) → Nat → Int32
  | 0, _, _ => default
  | fu + 1, x1, QS =>
    (if (12 : Int32) ≤ x1 then QS else fX9_init_64 fu (x1 + 1) (upd (upd QS ((8 + (3 * x1)) + 0).toNatClampNeg 2) ((8 + (3 * x1)) + 2).toNatClampNeg 100))
theorem fX9_init_64_s  (fu : Nat) (x1 : Int32) (QS : Nat → Int32) : fX9_init_64 (fu + 1) x1 QS =
    (if (12 : Int32) ≤ x1 then QS else fX9_init_64 fu (x1 + 1) (upd (upd QS ((8 + (3 * x1)) + 0).toNatClampNeg 2) ((8 + (3 * x1)) + 2).toNatClampNeg 100)) := rfl

/-- the value of X9_init -/
def fX9_init  : Nat → Int32 :=
  fX9_init_64 (((12 : Int32).toInt - (0 : Int32).toInt).toNat + 1) 0 (upd (upd (fun _ => 0) 6 4) 7 1)

set_option maxHeartbeats 4000000 in
set_option maxRecDepth 100000 in
/-- X9_init -/
theorem mX9_init (l : Launch) (D : va_G) (cI cC cS : ClassId) (sz : Nat) (o : Nat)  : Met l yX9_init wsX9_init ({ frames := 1, cells := 5, slots := 1969, locals := 16 } : Jvm.Room) (va_Pc [.ref o] (wPre D (TY cI cC cS) [(o, .inr (7, [.null, .null, .null, .int 0, .null, .int 0, .int 0, .int 0, .int 0, .null]))] sz X0)) (qV D (TY cI cC cS) (fun (u : (Nat → Int32) × (Nat → Nat)) => fX9_init = u.1) (fun u => [(o, .inr (7, [.ref (u.2 0), .ref (u.2 1), .ref (u.2 2), .int 0, .ref (u.2 3), .int 0, .int 0, .int 0, .int 0, .ref (u.2 4)])), ((u.2 0), .inl (cI, 314, .inl u.1)), ((u.2 1), .inl (cI, 314, .inl (fun _ => 0))), ((u.2 2), .inl (cI, 1256, .inl (fun _ => 0))), ((u.2 3), .inl (cI, 80, .inl (fun _ => 0))), ((u.2 4), .inl (cI, 5, .inl (fun _ => 0)))]) (va_A [(o, .inr (7, [.null, .null, .null, .int 0, .null, .int 0, .int 0, .int 0, .int 0, .null]))] sz)) 5 1969 (va_A [(o, .inr (7, [.null, .null, .null, .int 0, .null, .int 0, .int 0, .int 0, .int 0, .null]))] sz) := by
  refine mkM (y := yX9_init) (wsl := wsX9_init) (fun Fr => qV D (TY cI cC cS) (fun (u : (Nat → Int32) × (Nat → Nat)) => fX9_init = u.1) (fun u => [(o, .inr (7, [.ref (u.2 0), .ref (u.2 1), .ref (u.2 2), .int 0, .ref (u.2 3), .int 0, .int 0, .int 0, .int 0, .ref (u.2 4)])), ((u.2 0), .inl (cI, 314, .inl u.1)), ((u.2 1), .inl (cI, 314, .inl (fun _ => 0))), ((u.2 2), .inl (cI, 1256, .inl (fun _ => 0))), ((u.2 3), .inl (cI, 80, .inl (fun _ => 0))), ((u.2 4), .inl (cI, 5, .inl (fun _ => 0)))]) Fr) (cc := cX9_init) (maxL := 2) (ret := none) (own := RX9) (lv := [(0, .ref o)]) (by decide) rfl rfl (Nat.le_of_ble_eq_true rfl) rfl ?_
  intro p e s m below meth c Fr ls hx hb hr hts hown hml hlk hin hP hK hD hS hA hAe hsz hX hl
  have hin := hin rfl
  have w_1 := hts (.fieldLink RX9 7 "FieldQuotasModel" "s" "[I") (List.mem_of_getElem? (i := 5) rfl)
  have w_2 := sub_r (big := wsX9_init) (u_ws RX9 TX9 10) [10, 11, 12, 13, 14, 15, 16, 17, 18, 19] rfl
  have w_3 := hts (.fieldLink RX9 13 "FieldQuotasModel" "begun" "[I") (List.mem_of_getElem? (i := 6) rfl)
  have w_4 := hts (.fieldLink RX9 16 "FieldQuotasModel" "past" "[I") (List.mem_of_getElem? (i := 7) rfl)
  have w_5 := hts (.fieldLink RX9 19 "FieldQuotasModel" "text" "[I") (List.mem_of_getElem? (i := 8) rfl)
  have w_6 := hts (.fieldLink RX9 22 "FieldQuotasModel" "numbers" "[I") (List.mem_of_getElem? (i := 9) rfl)
  refine lv_aload_n hx hb dX9_init_0 rfl (lv_at hl 0 rfl) ?_
  refine W.objInit hx hb hown (hts (.methodLink RX9 1 objectInit) (List.mem_of_getElem? (i := 1) rfl)) (hts (.instanceMethod objectInit) (List.mem_of_getElem? (i := 2) rfl)) (hts (.code objectInit ⟨#[0xb1]⟩ 1 none) (List.mem_of_getElem? (i := 3) rfl)) rfl (by rw [hml]; exact hl.1) rfl dX9_init_1 (Nat.le_of_ble_eq_true rfl) (Nat.le_of_ble_eq_true rfl) ?_
  refine W.eq (g2 := F0 m 4 ls []) rfl ?_
  refine lv_aload_n hx hb dX9_init_4 rfl (lv_at hl 0 rfl) ?_
  refine lv_sipush (v := 314) hx hb dX9_init_5 (by decide) ?_
  refine va_newa (atype := .int) (ty := .int) (N' := 314) (a0 := (314, .inl (fun _ => 0))) hx hb (hts (.arrayClass .int) (List.mem_of_getElem? (i := 4) rfl)) rfl hK hP hD hS hA (fun _ => rfl) (by decide) (by decide) (Nat.le_of_ble_eq_true rfl) (Nat.le_of_ble_eq_true rfl) (Nat.le_of_ble_eq_true rfl) dX9_init_8 (fun q8_1 cA H hK1 hP hD hS => ?_)
  obtain rfl : cI = cA := ty_sameI hK hK1
  have hP : va_P D vwCl ([(o, .inr (7, [.null, .null, .null, .int 0, .null, .int 0, .int 0, .int 0, .int 0, .null])), (q8_1, .inl (cI, 314, .inl (fun _ => 0)))]) H := hP
  have hD : va_D Fr ([(o, .inr (7, [.null, .null, .null, .int 0, .null, .int 0, .int 0, .int 0, .int 0, .null])), (q8_1, .inl (cI, 314, .inl (fun _ => 0)))]) := hD
  refine va_putF (D := D) (ci := 7) (v := .ref q8_1) (ty := (.array .int)) (C := RX9) (T := TX9) (N := 10) hx hb hts w_2 tyX9 tyX9_ok nmX9 hown hK hP hD hS 0 rfl rfl 0 (by decide) w_1 (fun _ h9 => h9) rfl hin rfl (by decide +kernel) rfl rfl (Nat.le_of_ble_eq_true rfl) dX9_init_10 (fun H locs hP hD hS => ?_)
  have hP : va_P D vwCl ([(o, .inr (7, [.ref q8_1, .null, .null, .int 0, .null, .int 0, .int 0, .int 0, .int 0, .null])), (q8_1, .inl (cI, 314, .inl (fun _ => 0)))]) H := hP
  have hD : va_D Fr ([(o, .inr (7, [.ref q8_1, .null, .null, .int 0, .null, .int 0, .int 0, .int 0, .int 0, .null])), (q8_1, .inl (cI, 314, .inl (fun _ => 0)))]) := hD
  refine lv_aload_n hx hb dX9_init_13 rfl (lv_at hl 0 rfl) ?_
  refine lv_sipush (v := 314) hx hb dX9_init_14 (by decide) ?_
  refine va_newa (atype := .int) (ty := .int) (N' := 314) (a0 := (314, .inl (fun _ => 0))) hx hb (hts (.arrayClass .int) (List.mem_of_getElem? (i := 4) rfl)) rfl hK hP hD hS hA (fun _ => rfl) (by decide) (by decide) (Nat.le_of_ble_eq_true rfl) (Nat.le_of_ble_eq_true rfl) (Nat.le_of_ble_eq_true rfl) dX9_init_17 (fun q17_2 cA H hK1 hP hD hS => ?_)
  obtain rfl : cI = cA := ty_sameI hK hK1
  have hP : va_P D vwCl ([(o, .inr (7, [.ref q8_1, .null, .null, .int 0, .null, .int 0, .int 0, .int 0, .int 0, .null])), (q8_1, .inl (cI, 314, .inl (fun _ => 0))), (q17_2, .inl (cI, 314, .inl (fun _ => 0)))]) H := hP
  have hD : va_D Fr ([(o, .inr (7, [.ref q8_1, .null, .null, .int 0, .null, .int 0, .int 0, .int 0, .int 0, .null])), (q8_1, .inl (cI, 314, .inl (fun _ => 0))), (q17_2, .inl (cI, 314, .inl (fun _ => 0)))]) := hD
  refine va_putF (D := D) (ci := 7) (v := .ref q17_2) (ty := (.array .int)) (C := RX9) (T := TX9) (N := 10) hx hb hts w_2 tyX9 tyX9_ok nmX9 hown hK hP hD hS 0 rfl rfl 1 (by decide) w_3 (fun _ h9 => h9) rfl hin rfl (by decide +kernel) rfl rfl (Nat.le_of_ble_eq_true rfl) dX9_init_19 (fun H locs hP hD hS => ?_)
  have hP : va_P D vwCl ([(o, .inr (7, [.ref q8_1, .ref q17_2, .null, .int 0, .null, .int 0, .int 0, .int 0, .int 0, .null])), (q8_1, .inl (cI, 314, .inl (fun _ => 0))), (q17_2, .inl (cI, 314, .inl (fun _ => 0)))]) H := hP
  have hD : va_D Fr ([(o, .inr (7, [.ref q8_1, .ref q17_2, .null, .int 0, .null, .int 0, .int 0, .int 0, .int 0, .null])), (q8_1, .inl (cI, 314, .inl (fun _ => 0))), (q17_2, .inl (cI, 314, .inl (fun _ => 0)))]) := hD
  refine lv_aload_n hx hb dX9_init_22 rfl (lv_at hl 0 rfl) ?_
  refine lv_sipush (v := 1256) hx hb dX9_init_23 (by decide) ?_
  refine va_newa (atype := .int) (ty := .int) (N' := 1256) (a0 := (1256, .inl (fun _ => 0))) hx hb (hts (.arrayClass .int) (List.mem_of_getElem? (i := 4) rfl)) rfl hK hP hD hS hA (fun _ => rfl) (by decide) (by decide) (Nat.le_of_ble_eq_true rfl) (Nat.le_of_ble_eq_true rfl) (Nat.le_of_ble_eq_true rfl) dX9_init_26 (fun q26_3 cA H hK1 hP hD hS => ?_)
  obtain rfl : cI = cA := ty_sameI hK hK1
  have hP : va_P D vwCl ([(o, .inr (7, [.ref q8_1, .ref q17_2, .null, .int 0, .null, .int 0, .int 0, .int 0, .int 0, .null])), (q8_1, .inl (cI, 314, .inl (fun _ => 0))), (q17_2, .inl (cI, 314, .inl (fun _ => 0))), (q26_3, .inl (cI, 1256, .inl (fun _ => 0)))]) H := hP
  have hD : va_D Fr ([(o, .inr (7, [.ref q8_1, .ref q17_2, .null, .int 0, .null, .int 0, .int 0, .int 0, .int 0, .null])), (q8_1, .inl (cI, 314, .inl (fun _ => 0))), (q17_2, .inl (cI, 314, .inl (fun _ => 0))), (q26_3, .inl (cI, 1256, .inl (fun _ => 0)))]) := hD
  refine va_putF (D := D) (ci := 7) (v := .ref q26_3) (ty := (.array .int)) (C := RX9) (T := TX9) (N := 10) hx hb hts w_2 tyX9 tyX9_ok nmX9 hown hK hP hD hS 0 rfl rfl 2 (by decide) w_4 (fun _ h9 => h9) rfl hin rfl (by decide +kernel) rfl rfl (Nat.le_of_ble_eq_true rfl) dX9_init_28 (fun H locs hP hD hS => ?_)
  have hP : va_P D vwCl ([(o, .inr (7, [.ref q8_1, .ref q17_2, .ref q26_3, .int 0, .null, .int 0, .int 0, .int 0, .int 0, .null])), (q8_1, .inl (cI, 314, .inl (fun _ => 0))), (q17_2, .inl (cI, 314, .inl (fun _ => 0))), (q26_3, .inl (cI, 1256, .inl (fun _ => 0)))]) H := hP
  have hD : va_D Fr ([(o, .inr (7, [.ref q8_1, .ref q17_2, .ref q26_3, .int 0, .null, .int 0, .int 0, .int 0, .int 0, .null])), (q8_1, .inl (cI, 314, .inl (fun _ => 0))), (q17_2, .inl (cI, 314, .inl (fun _ => 0))), (q26_3, .inl (cI, 1256, .inl (fun _ => 0)))]) := hD
  refine lv_aload_n hx hb dX9_init_31 rfl (lv_at hl 0 rfl) ?_
  refine lv_bipush (v := 80) hx hb dX9_init_32 (by decide) ?_
  refine va_newa (atype := .int) (ty := .int) (N' := 80) (a0 := (80, .inl (fun _ => 0))) hx hb (hts (.arrayClass .int) (List.mem_of_getElem? (i := 4) rfl)) rfl hK hP hD hS hA (fun _ => rfl) (by decide) (by decide) (Nat.le_of_ble_eq_true rfl) (Nat.le_of_ble_eq_true rfl) (Nat.le_of_ble_eq_true rfl) dX9_init_34 (fun q34_4 cA H hK1 hP hD hS => ?_)
  obtain rfl : cI = cA := ty_sameI hK hK1
  have hP : va_P D vwCl ([(o, .inr (7, [.ref q8_1, .ref q17_2, .ref q26_3, .int 0, .null, .int 0, .int 0, .int 0, .int 0, .null])), (q8_1, .inl (cI, 314, .inl (fun _ => 0))), (q17_2, .inl (cI, 314, .inl (fun _ => 0))), (q26_3, .inl (cI, 1256, .inl (fun _ => 0))), (q34_4, .inl (cI, 80, .inl (fun _ => 0)))]) H := hP
  have hD : va_D Fr ([(o, .inr (7, [.ref q8_1, .ref q17_2, .ref q26_3, .int 0, .null, .int 0, .int 0, .int 0, .int 0, .null])), (q8_1, .inl (cI, 314, .inl (fun _ => 0))), (q17_2, .inl (cI, 314, .inl (fun _ => 0))), (q26_3, .inl (cI, 1256, .inl (fun _ => 0))), (q34_4, .inl (cI, 80, .inl (fun _ => 0)))]) := hD
  refine va_putF (D := D) (ci := 7) (v := .ref q34_4) (ty := (.array .int)) (C := RX9) (T := TX9) (N := 10) hx hb hts w_2 tyX9 tyX9_ok nmX9 hown hK hP hD hS 0 rfl rfl 4 (by decide) w_5 (fun _ h9 => h9) rfl hin rfl (by decide +kernel) rfl rfl (Nat.le_of_ble_eq_true rfl) dX9_init_36 (fun H locs hP hD hS => ?_)
  have hP : va_P D vwCl ([(o, .inr (7, [.ref q8_1, .ref q17_2, .ref q26_3, .int 0, .ref q34_4, .int 0, .int 0, .int 0, .int 0, .null])), (q8_1, .inl (cI, 314, .inl (fun _ => 0))), (q17_2, .inl (cI, 314, .inl (fun _ => 0))), (q26_3, .inl (cI, 1256, .inl (fun _ => 0))), (q34_4, .inl (cI, 80, .inl (fun _ => 0)))]) H := hP
  have hD : va_D Fr ([(o, .inr (7, [.ref q8_1, .ref q17_2, .ref q26_3, .int 0, .ref q34_4, .int 0, .int 0, .int 0, .int 0, .null])), (q8_1, .inl (cI, 314, .inl (fun _ => 0))), (q17_2, .inl (cI, 314, .inl (fun _ => 0))), (q26_3, .inl (cI, 1256, .inl (fun _ => 0))), (q34_4, .inl (cI, 80, .inl (fun _ => 0)))]) := hD
  refine lv_aload_n hx hb dX9_init_39 rfl (lv_at hl 0 rfl) ?_
  refine lv_iconst (v := 5) hx hb dX9_init_40 (by decide) ?_
  refine va_newa (atype := .int) (ty := .int) (N' := 5) (a0 := (5, .inl (fun _ => 0))) hx hb (hts (.arrayClass .int) (List.mem_of_getElem? (i := 4) rfl)) rfl hK hP hD hS hA (fun _ => rfl) (by decide) (by decide) (Nat.le_of_ble_eq_true rfl) (Nat.le_of_ble_eq_true rfl) (Nat.le_of_ble_eq_true rfl) dX9_init_41 (fun q41_5 cA H hK1 hP hD hS => ?_)
  obtain rfl : cI = cA := ty_sameI hK hK1
  have hP : va_P D vwCl ([(o, .inr (7, [.ref q8_1, .ref q17_2, .ref q26_3, .int 0, .ref q34_4, .int 0, .int 0, .int 0, .int 0, .null])), (q8_1, .inl (cI, 314, .inl (fun _ => 0))), (q17_2, .inl (cI, 314, .inl (fun _ => 0))), (q26_3, .inl (cI, 1256, .inl (fun _ => 0))), (q34_4, .inl (cI, 80, .inl (fun _ => 0))), (q41_5, .inl (cI, 5, .inl (fun _ => 0)))]) H := hP
  have hD : va_D Fr ([(o, .inr (7, [.ref q8_1, .ref q17_2, .ref q26_3, .int 0, .ref q34_4, .int 0, .int 0, .int 0, .int 0, .null])), (q8_1, .inl (cI, 314, .inl (fun _ => 0))), (q17_2, .inl (cI, 314, .inl (fun _ => 0))), (q26_3, .inl (cI, 1256, .inl (fun _ => 0))), (q34_4, .inl (cI, 80, .inl (fun _ => 0))), (q41_5, .inl (cI, 5, .inl (fun _ => 0)))]) := hD
  refine va_putF (D := D) (ci := 7) (v := .ref q41_5) (ty := (.array .int)) (C := RX9) (T := TX9) (N := 10) hx hb hts w_2 tyX9 tyX9_ok nmX9 hown hK hP hD hS 0 rfl rfl 9 (by decide) w_6 (fun _ h9 => h9) rfl hin rfl (by decide +kernel) rfl rfl (Nat.le_of_ble_eq_true rfl) dX9_init_43 (fun H locs hP hD hS => ?_)
  have hP : va_P D vwCl ([(o, .inr (7, [.ref q8_1, .ref q17_2, .ref q26_3, .int 0, .ref q34_4, .int 0, .int 0, .int 0, .int 0, .ref q41_5])), (q8_1, .inl (cI, 314, .inl (fun _ => 0))), (q17_2, .inl (cI, 314, .inl (fun _ => 0))), (q26_3, .inl (cI, 1256, .inl (fun _ => 0))), (q34_4, .inl (cI, 80, .inl (fun _ => 0))), (q41_5, .inl (cI, 5, .inl (fun _ => 0)))]) H := hP
  have hD : va_D Fr ([(o, .inr (7, [.ref q8_1, .ref q17_2, .ref q26_3, .int 0, .ref q34_4, .int 0, .int 0, .int 0, .int 0, .ref q41_5])), (q8_1, .inl (cI, 314, .inl (fun _ => 0))), (q17_2, .inl (cI, 314, .inl (fun _ => 0))), (q26_3, .inl (cI, 1256, .inl (fun _ => 0))), (q34_4, .inl (cI, 80, .inl (fun _ => 0))), (q41_5, .inl (cI, 5, .inl (fun _ => 0)))]) := hD
  refine lv_aload_n hx hb dX9_init_46 rfl (lv_at hl 0 rfl) ?_
  refine va_get (D := D) (ci := 7) (C := RX9) (T := TX9) (N := 10) hx hb hts w_2 hown hK hP 0 rfl rfl 0 (by decide) w_1 (fun _ h9 => h9) rfl dX9_init_47 ?_
  refine lv_bipush (v := 6) hx hb dX9_init_50 (by decide) ?_
  refine lv_iconst (v := 4) hx hb dX9_init_52 (by decide) ?_
  refine va_iast hx hb hK hP hD hS 1 0 rfl rfl (vp_d rfl) dX9_init_53 (fun H locs hP hD hS => ?_)
  have hP : va_P D vwCl ([(o, .inr (7, [.ref q8_1, .ref q17_2, .ref q26_3, .int 0, .ref q34_4, .int 0, .int 0, .int 0, .int 0, .ref q41_5])), (q8_1, .inl (cI, 314, .inl (upd (fun _ => 0) 6 4))), (q17_2, .inl (cI, 314, .inl (fun _ => 0))), (q26_3, .inl (cI, 1256, .inl (fun _ => 0))), (q34_4, .inl (cI, 80, .inl (fun _ => 0))), (q41_5, .inl (cI, 5, .inl (fun _ => 0)))]) H := hP
  have hD : va_D Fr ([(o, .inr (7, [.ref q8_1, .ref q17_2, .ref q26_3, .int 0, .ref q34_4, .int 0, .int 0, .int 0, .int 0, .ref q41_5])), (q8_1, .inl (cI, 314, .inl (upd (fun _ => 0) 6 4))), (q17_2, .inl (cI, 314, .inl (fun _ => 0))), (q26_3, .inl (cI, 1256, .inl (fun _ => 0))), (q34_4, .inl (cI, 80, .inl (fun _ => 0))), (q41_5, .inl (cI, 5, .inl (fun _ => 0)))]) := hD
  refine lv_aload_n hx hb dX9_init_54 rfl (lv_at hl 0 rfl) ?_
  refine va_get (D := D) (ci := 7) (C := RX9) (T := TX9) (N := 10) hx hb hts w_2 hown hK hP 0 rfl rfl 0 (by decide) w_1 (fun _ h9 => h9) rfl dX9_init_55 ?_
  refine lv_bipush (v := 7) hx hb dX9_init_58 (by decide) ?_
  refine lv_iconst (v := 1) hx hb dX9_init_60 (by decide) ?_
  refine va_iast hx hb hK hP hD hS 1 0 rfl rfl (vp_d rfl) dX9_init_61 (fun H locs hP hD hS => ?_)
  have hP : va_P D vwCl ([(o, .inr (7, [.ref q8_1, .ref q17_2, .ref q26_3, .int 0, .ref q34_4, .int 0, .int 0, .int 0, .int 0, .ref q41_5])), (q8_1, .inl (cI, 314, .inl (upd (upd (fun _ => 0) 6 4) 7 1))), (q17_2, .inl (cI, 314, .inl (fun _ => 0))), (q26_3, .inl (cI, 1256, .inl (fun _ => 0))), (q34_4, .inl (cI, 80, .inl (fun _ => 0))), (q41_5, .inl (cI, 5, .inl (fun _ => 0)))]) H := hP
  have hD : va_D Fr ([(o, .inr (7, [.ref q8_1, .ref q17_2, .ref q26_3, .int 0, .ref q34_4, .int 0, .int 0, .int 0, .int 0, .ref q41_5])), (q8_1, .inl (cI, 314, .inl (upd (upd (fun _ => 0) 6 4) 7 1))), (q17_2, .inl (cI, 314, .inl (fun _ => 0))), (q26_3, .inl (cI, 1256, .inl (fun _ => 0))), (q34_4, .inl (cI, 80, .inl (fun _ => 0))), (q41_5, .inl (cI, 5, .inl (fun _ => 0)))]) := hD
  refine lv_iconst (v := 0) hx hb dX9_init_62 (by decide) ?_
  refine lv_istore_n (lv' := [(1, .int 0), (0, .ref o)]) hx hb dX9_init_63 rfl hl (by decide) rfl (fun ls hl => ?_)
  have K_64 : ∀ (fu : Nat) (x1 : Int32) (QS : Nat → Int32) (H : Heap) (locs : List Loc) (ls : Array Slot), va_P D vwCl [(o, .inr (7, [.ref q8_1, .ref q17_2, .ref q26_3, .int 0, .ref q34_4, .int 0, .int 0, .int 0, .int 0, .ref q41_5])), (q8_1, .inl (cI, 314, .inl QS)), (q17_2, .inl (cI, 314, .inl (fun _ => 0))), (q26_3, .inl (cI, 1256, .inl (fun _ => 0))), (q34_4, .inl (cI, 80, .inl (fun _ => 0))), (q41_5, .inl (cI, 5, .inl (fun _ => 0)))] H → va_D Fr [(o, .inr (7, [.ref q8_1, .ref q17_2, .ref q26_3, .int 0, .ref q34_4, .int 0, .int 0, .int 0, .int 0, .ref q41_5])), (q8_1, .inl (cI, 314, .inl QS)), (q17_2, .inl (cI, 314, .inl (fun _ => 0))), (q26_3, .inl (cI, 1256, .inl (fun _ => 0))), (q34_4, .inl (cI, 80, .inl (fun _ => 0))), (q41_5, .inl (cI, 5, .inl (fun _ => 0)))] → va_S Fr s.heap H locs → lv_has ls 2 [(0, .ref o), (1, .int x1)] → (¬ x1 < 0) → ((12 : Int32).toInt - x1.toInt).toNat < fu → fX9_init = fX9_init_64 fu x1 QS → W p l e (headSpec wsX9_init ({ frames := 1, cells := 5, slots := 1969, locals := 16 } : Jvm.Room)).room s m ([.ref o] : List Value).toArray below meth c H locs 5 1969 (MQ below (qV D (TY cI cC cS) (fun (u : (Nat → Int32) × (Nat → Nat)) => fX9_init = u.1) (fun u => [(o, .inr (7, [.ref (u.2 0), .ref (u.2 1), .ref (u.2 2), .int 0, .ref (u.2 3), .int 0, .int 0, .int 0, .int 0, .ref (u.2 4)])), ((u.2 0), .inl (cI, 314, .inl u.1)), ((u.2 1), .inl (cI, 314, .inl (fun _ => 0))), ((u.2 2), .inl (cI, 1256, .inl (fun _ => 0))), ((u.2 3), .inl (cI, 80, .inl (fun _ => 0))), ((u.2 4), .inl (cI, 5, .inl (fun _ => 0)))]) Fr) ([.ref o] : List Value).toArray s 5 1969 Fr) (F0 m 64 ls []) := by
    intro fu
    induction fu with
    | zero => intros; exact absurd (by assumption) (Nat.not_lt_zero _)
    | succ fu ih_64 =>
      intro x1 QS H locs ls hP hD hS hl hi0 hm_64 E_64
      refine lv_iload_n hx hb dX9_init_64 rfl (lv_at hl 1 rfl) ?_
      refine lv_bipush (v := 12) hx hb dX9_init_65 (by decide) ?_
      refine lv_icmp_ge (tgt := 105) hx hb dX9_init_67 (by decide) (fun c67 => ?_) (fun c67 => ?_)
      · exact endV hx hb hr hlk hP hK hD hS dX9_init_105 (QS, fun i => ([q8_1, q17_2, q26_3, q34_4, q41_5] : List Nat).getD i 0) rfl ((E_64).trans ((fX9_init_64_s fu x1 QS).trans ((if_pos c67).trans rfl)))
      · refine lv_aload_n hx hb dX9_init_70 rfl (lv_at hl 0 rfl) ?_
        refine va_get (D := D) (ci := 7) (C := RX9) (T := TX9) (N := 10) hx hb hts w_2 hown hK hP 0 rfl rfl 0 (by decide) w_1 (fun _ h9 => h9) rfl dX9_init_71 ?_
        refine lv_bipush (v := 8) hx hb dX9_init_74 (by decide) ?_
        refine lv_iconst (v := 3) hx hb dX9_init_76 (by decide) ?_
        refine lv_iload_n hx hb dX9_init_77 rfl (lv_at hl 1 rfl) ?_
        refine lv_imul hx hb dX9_init_78 ?_
        refine lv_iadd hx hb dX9_init_79 ?_
        refine lv_iconst (v := 0) hx hb dX9_init_80 (by decide) ?_
        refine lv_iadd hx hb dX9_init_81 ?_
        refine lv_iconst (v := 2) hx hb dX9_init_82 (by decide) ?_
        refine va_iast hx hb hK hP hD hS 1 0 rfl rfl (ix_c0 hi0 c67) dX9_init_83 (fun H locs hP hD hS => ?_)
        have hP : va_P D vwCl ([(o, .inr (7, [.ref q8_1, .ref q17_2, .ref q26_3, .int 0, .ref q34_4, .int 0, .int 0, .int 0, .int 0, .ref q41_5])), (q8_1, .inl (cI, 314, .inl (upd QS ((8 + (3 * x1)) + 0).toNatClampNeg 2))), (q17_2, .inl (cI, 314, .inl (fun _ => 0))), (q26_3, .inl (cI, 1256, .inl (fun _ => 0))), (q34_4, .inl (cI, 80, .inl (fun _ => 0))), (q41_5, .inl (cI, 5, .inl (fun _ => 0)))]) H := hP
        have hD : va_D Fr ([(o, .inr (7, [.ref q8_1, .ref q17_2, .ref q26_3, .int 0, .ref q34_4, .int 0, .int 0, .int 0, .int 0, .ref q41_5])), (q8_1, .inl (cI, 314, .inl (upd QS ((8 + (3 * x1)) + 0).toNatClampNeg 2))), (q17_2, .inl (cI, 314, .inl (fun _ => 0))), (q26_3, .inl (cI, 1256, .inl (fun _ => 0))), (q34_4, .inl (cI, 80, .inl (fun _ => 0))), (q41_5, .inl (cI, 5, .inl (fun _ => 0)))]) := hD
        refine lv_aload_n hx hb dX9_init_84 rfl (lv_at hl 0 rfl) ?_
        refine va_get (D := D) (ci := 7) (C := RX9) (T := TX9) (N := 10) hx hb hts w_2 hown hK hP 0 rfl rfl 0 (by decide) w_1 (fun _ h9 => h9) rfl dX9_init_85 ?_
        refine lv_bipush (v := 8) hx hb dX9_init_88 (by decide) ?_
        refine lv_iconst (v := 3) hx hb dX9_init_90 (by decide) ?_
        refine lv_iload_n hx hb dX9_init_91 rfl (lv_at hl 1 rfl) ?_
        refine lv_imul hx hb dX9_init_92 ?_
        refine lv_iadd hx hb dX9_init_93 ?_
        refine lv_iconst (v := 2) hx hb dX9_init_94 (by decide) ?_
        refine lv_iadd hx hb dX9_init_95 ?_
        refine lv_bipush (v := 100) hx hb dX9_init_96 (by decide) ?_
        refine va_iast hx hb hK hP hD hS 1 0 rfl rfl (ix_c2 hi0 c67) dX9_init_98 (fun H locs hP hD hS => ?_)
        have hP : va_P D vwCl ([(o, .inr (7, [.ref q8_1, .ref q17_2, .ref q26_3, .int 0, .ref q34_4, .int 0, .int 0, .int 0, .int 0, .ref q41_5])), (q8_1, .inl (cI, 314, .inl (upd (upd QS ((8 + (3 * x1)) + 0).toNatClampNeg 2) ((8 + (3 * x1)) + 2).toNatClampNeg 100))), (q17_2, .inl (cI, 314, .inl (fun _ => 0))), (q26_3, .inl (cI, 1256, .inl (fun _ => 0))), (q34_4, .inl (cI, 80, .inl (fun _ => 0))), (q41_5, .inl (cI, 5, .inl (fun _ => 0)))]) H := hP
        have hD : va_D Fr ([(o, .inr (7, [.ref q8_1, .ref q17_2, .ref q26_3, .int 0, .ref q34_4, .int 0, .int 0, .int 0, .int 0, .ref q41_5])), (q8_1, .inl (cI, 314, .inl (upd (upd QS ((8 + (3 * x1)) + 0).toNatClampNeg 2) ((8 + (3 * x1)) + 2).toNatClampNeg 100))), (q17_2, .inl (cI, 314, .inl (fun _ => 0))), (q26_3, .inl (cI, 1256, .inl (fun _ => 0))), (q34_4, .inl (cI, 80, .inl (fun _ => 0))), (q41_5, .inl (cI, 5, .inl (fun _ => 0)))]) := hD
        refine lv_iinc (v := x1 + 1) (lv' := [(1, .int (x1 + 1)), (0, .ref o)]) hx hb dX9_init_99 hl (k := 1) rfl (by rfl) (by decide) rfl (fun ls hl => ?_)
        refine lv_goto (tgt := 64) hx hb dX9_init_102 (by decide) ?_
        exact ih_64 (x1 + 1) (upd (upd QS ((8 + (3 * x1)) + 0).toNatClampNeg 2) ((8 + (3 * x1)) + 2).toNatClampNeg 100) _ _ ls hP hD hS (lv_sub hl [1, 0] rfl) (up_k hi0 c67) (Nat.lt_of_lt_of_le (lp_dec c67) (Nat.le_of_lt_succ hm_64)) ((E_64).trans ((fX9_init_64_s fu x1 QS).trans ((if_neg c67).trans rfl)))
  exact K_64 (((12 : Int32).toInt - (0 : Int32).toInt).toNat + 1) 0 (upd (upd (fun _ => 0) 6 4) 7 1) _ _ ls hP hD hS (lv_sub hl [1, 0] rfl) (by decide) (Nat.lt_succ_self _) rfl

