/-- a method of a class that the machine has entries for, but none for it -/
theorem mkMF {l : Launch} {y : MethodName} {own : String} {cc : ByteArray} {maxL : Nat} {ret : Option FieldType} {ws' wsl : List Cond} {rm : Room} {av : List Value} {D : va_G} {T : List (ClassId × FieldType)} {ws : va_W} {sz : Nat} {X : State → Prop} (Qc : (Nat → Prop) → Array Value → State → Outcome → State → Prop) {mc ms : Nat} {lv : List (Nat × Value)} (hy : plainFor y = true) (hw : wsl = Cond.code y cc maxL ret :: ws') (ho : y.cls = own) (hsl : (lg_sl av).length ≤ maxL) (hlv : lv_args 0 av = lv)
    (k : ∀ (p : Program) (e : Env) (s : State) (m : MethodId) (below : List Frame) (meth : Method) (c : Code) (A : Nat → Prop) (ls : Array Slot), p.tables.exec = Jvm.exec → c.code = cc → meth.sig.returnType = ret → (∀ w ∈ wsl, w.before av.toArray s = true) → s.vm.findClass own = some m.cls → c.maxLocals = maxL → meth.locks = false → (y.name = "<init>" → meth.name = "<init>") → va_P D vwCl ws s.heap → va_K D vwCl T s → va_D A ws → va_S A s.heap s.heap [] → (∀ q : Nat, s.heap.size ≤ q → A q) → A = va_A ws sz → s.heap.size = sz → X s → lv_has ls maxL lv → W p l e (headSpec wsl rm).room s m av.toArray below meth c s.heap [] 0 0 (MQ below (Qc A) av.toArray s mc ms A) (F0 m 0 ls [])) : Met l y wsl rm (va_Pc av (wPre D T ws sz X)) (Qc (va_A ws sz)) mc ms (va_A ws sz) := by
  refine va_MetF (cc := cc) (maxL := maxL) (ret := ret) hy hw ?_
  intro p e s m args below meth c s₁ B hml hv
  obtain ⟨rfl, hsz, ⟨hP, hK, hD0⟩, hX⟩ := hv
  have hown : s.vm.findClass own = some m.cls := by rw [← ho]; exact findClass_of_methodNamed B.named
  have hl := lv_entry av (n := maxL) hsl
  rw [hlv] at hl
  rw [lg_entry_eq]
  have hD : va_D (va_A ws sz) ws := hD0.self
  exact k p e s m below meth c (va_A ws sz) _ B.exec B.bytes B.returns (atoms_spec B.pre) hown hml B.notSynchronized (fun h => by rw [← h]; exact (name_of_methodNamed B.named B.method).1) hP hK hD va_S.rf (fun q h => Or.inr (by rw [← hsz]; exact h)) rfl hsz hX hl
/-! the bits of a float that is one -/
theorem mJxf58ca_isNaN (l : Launch) (D : va_G) (cI cC cS : ClassId) (sz : Nat) (x : UInt32) (hx0 : FP.fcmp x x = some .eq) : Met l yJxf58ca_isNaN_12338 wsJxf58ca_isNaN_12338 ({ frames := 0, cells := 0, slots := 0, locals := 0 } : Jvm.Room) (va_Pc [.float x] (wPre D (TY cI cC cS) [] sz X0)) (qI D (TY cI cC cS) (fun (r : Int32) (u : Int32) => 0 = u ∧ r = u) (fun _ => []) (va_A [] sz)) 0 0 (va_A [] sz) := by
  refine mkMF (fun Fr => qI D (TY cI cC cS) (fun (r : Int32) (u : Int32) => 0 = u ∧ r = u) (fun _ => []) Fr) (cc := cJxf58ca_isNaN_12338) (maxL := 1) (ret := (some .boolean)) (own := RJxf58ca) (lv := [(0, .float x)]) (by decide +kernel) rfl rfl (Nat.le_of_ble_eq_true rfl) rfl ?_
  intro p e s m below meth c Fr ls hx hb hr hts hown hml hlk hin hP hK hD hS hA hAe hsz hX hl
  refine lv_fload_n hx hb dJxf58ca_isNaN_12338_0 rfl (lv_at hl 0 rfl) ?_
  refine lv_fload_n hx hb dJxf58ca_isNaN_12338_1 rfl (lv_at hl 0 rfl) ?_
  refine lv_fcmp hx hb dJxf58ca_isNaN_12338_2 ?_
  refine W.eq (g2 := F0 m 3 ls [.int 0]) (by rw [hx0]; rfl) ?_
  refine lv_if_eq (tgt := 10) hx hb dJxf58ca_isNaN_12338_3 (by decide) (fun _ => ?_) (fun h => absurd rfl h)
  refine lv_iconst (v := 0) hx hb dJxf58ca_isNaN_12338_10 (by decide) ?_
  exact endZ hx hb hr hlk hP hK hD hS dJxf58ca_isNaN_12338_11 rfl 0 rfl ⟨rfl, rfl⟩
theorem mJxf58ca_bits (l : Launch) (D : va_G) (cI cC cS : ClassId) (sz : Nat) (x : UInt32) (hx0 : FP.fcmp x x = some .eq) : Met l yJxf58ca_floatToIntBits_5c35a wsJxf58ca_floatToIntBits_5c35a ({ frames := 1, cells := 0, slots := 0, locals := 20 } : Jvm.Room) (va_Pc [.float x] (wPre D (TY cI cC cS) [] sz X0)) (qI D (TY cI cC cS) (fun (r : Int32) (u : Int32) => x.toInt32 = u ∧ r = u) (fun _ => []) (va_A [] sz)) 0 0 (va_A [] sz) := by
  refine mkMF (fun Fr => qI D (TY cI cC cS) (fun (r : Int32) (u : Int32) => x.toInt32 = u ∧ r = u) (fun _ => []) Fr) (cc := cJxf58ca_floatToIntBits_5c35a) (maxL := 1) (ret := (some .int)) (own := RJxf58ca) (lv := [(0, .float x)]) (by decide +kernel) rfl rfl (Nat.le_of_ble_eq_true rfl) rfl ?_
  intro p e s m below meth c Fr ls hx hb hr hts hown hml hlk hin hP hK hD hS hA hAe hsz hX hl
  refine lv_fload_n hx hb dJxf58ca_floatToIntBits_5c35a_0 rfl (lv_at hl 0 rfl) ?_
  refine callSi (As := [.float x]) (rest := []) (mJxf58ca_isNaN l D cI cC cS _ x hx0) ⟨hx, hb, hml, hown, hts⟩ (va_cwS 1 hts gJxf58ca_floatToIntBits_5c35a_Jxf58ca_isNaN_12338 rfl rfl rfl (by decide +kernel) ⟨Nat.le_of_ble_eq_true rfl, Nat.le_of_ble_eq_true rfl⟩) hP hK hD hS hA hl rfl rfl (Nat.le_of_ble_eq_true rfl) dJxf58ca_floatToIntBits_5c35a_1 ⟨Nat.zero_le _, Nat.zero_le _⟩ (fun u_ H locs hk hP hS => ?_)
  subst hk
  refine lv_if_ne (tgt := 12) hx hb dJxf58ca_floatToIntBits_5c35a_4 (by decide) (fun h => absurd rfl h) (fun _ => ?_)
  refine lv_fload_n hx hb dJxf58ca_floatToIntBits_5c35a_7 rfl (lv_at hl 0 rfl) ?_
  refine vn_f2i hx hb (by rw [hml]; exact hl.1.symm) hown (hts (.methodLink RJxf58ca 74 ⟨"java/lang/Float", "floatToRawIntBits", "(F)I"⟩) (List.mem_of_getElem? (i := 1) rfl)) (hts (.native ⟨"java/lang/Float", "floatToRawIntBits", "(F)I"⟩) (List.mem_of_getElem? (i := 2) rfl)) (hts (.static ⟨"java/lang/Float", "floatToRawIntBits", "(F)I"⟩) (List.mem_of_getElem? (i := 3) rfl)) (hts (.initialized "java/lang/Float") (List.mem_of_getElem? (i := 4) rfl)) (Nat.le_of_ble_eq_true rfl) (Nat.le_of_ble_eq_true rfl) dJxf58ca_floatToIntBits_5c35a_8 ?_
  exact endI hx hb hr hlk hP hK hD hS dJxf58ca_floatToIntBits_5c35a_11 x.toInt32 rfl ⟨rfl, rfl⟩
