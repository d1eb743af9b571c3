/-! the words of the verbs, and the constants -/
def vLen : List Nat := [7, 5, 4, 6, 4, 5, 3]
def vByt : List (List Int32) := [[97, 100, 100, 114, 101, 115, 115], [113, 117, 111, 116, 97], [110, 111, 110, 101], [114, 101, 102, 117, 115, 101], [116, 97, 107, 101], [108, 97, 116, 101, 114], [100, 97, 121]]
def vNum : List Int32 := [1, 3, 3, 3, 4, 5, 1]
/-- what the statics, the constants and their words hold -/
def wE (ad adK adV : Nat → Nat) (tV tS : Nat) (A : Nat → Prop) (U : State) (H : Heap) : Prop :=
  vk_S 7 vLen vByt adK adV A U H ∧ va_Z RJ0 "COMPACT_STRINGS" "Z" (.int 1) A U H ∧ va_Zq RJ3 "SIOOBE_FORMATTER" "Ljava/util/function/BiFunction;" A U H ∧
  va_Z RX4 "VERBS" "[LFieldQuotas$Verb;" (.ref tV) A U H ∧ va_T (.object RX7) tV 7 (fun k => .ref (ad k)) A U H ∧
  va_Ef 7 RX7 "word" "Ljava/lang/String;" (fun k => .ref (adK k)) ad A U H ∧ va_Ef 7 RX7 "numbers" "I" (fun k => .int (vNum.getD k 0)) ad A U H ∧
  va_Ef 7 "java/lang/Enum" "ordinal" "I" (fun k => .int (Int32.ofNat k)) ad A U H ∧ (∀ k, k < 7 → va_O RX7 (ad k) A U H) ∧
  va_Z RX0 "$SwitchMap$FieldQuotas$Verb" "[I" (.ref tS) A U H ∧ va_T .int tS 7 (fun j => .int (Int32.ofNat (j + 1))) A U H
theorem wE.to {ad adK adV : Nat → Nat} {tV tS : Nat} {A B : Nat → Prop} {s U : State} {H0 H : Heap} (h : wE ad adK adV tV tS A s H0) (hq : ∀ a : Nat, a < H0.size → ¬ A a → H[a]? = H0[a]?) (hAB : ∀ q, B q → A q) (hvm : s.vm.Alike U.vm) : wE ad adK adV tV tS B U H := by
  obtain ⟨h1, h2, h3, h4, h5, h6, h7, h8, h9, h10, h11⟩ := h
  exact ⟨((vk_S.moved hvm h1).kept hq).narrow hAB, ((va_Z.moved hvm h2).kept hq).narrow hAB, ((va_Zq.moved hvm h3).kept hq).narrow hAB, ((va_Z.moved hvm h4).kept hq).narrow hAB, ((va_T.moved hvm h5).kept hq).narrow hAB, ((va_Ef.moved hvm h6).kept hq).narrow hAB, ((va_Ef.moved hvm h7).kept hq).narrow hAB, ((va_Ef.moved hvm h8).kept hq).narrow hAB, fun k hk => ((va_O.moved hvm (h9 k hk)).kept hq).narrow hAB, ((va_Z.moved hvm h10).kept hq).narrow hAB, ((va_T.moved hvm h11).kept hq).narrow hAB⟩
/-- the same at a method's start, with the nest's words -/
def wX (ad adK adV : Nat → Nat) (tV tS : Nat) (ws : va_W) (sz : Nat) (U : State) : Prop := wE ad adK adV tV tS (va_A ws sz) U U.heap ∧ wN U
theorem wX_blind {ad adK adV : Nat → Nat} {tV tS : Nat} {ws : va_W} {sz : Nat} : ∀ (U : State) (g : JFrame) (mk : MethodId) (a : Array Value), wX ad adK adV tV tS ws sz U → wX ad adK adV tV tS ws sz (U.calling g mk a) := fun U g mk a h => ⟨h.1.to (U := U.calling g mk a) (fun _ _ _ => rfl) (fun _ q => q) (Vm.Alike.refl U.vm), wN_blind U g mk a h.2⟩
theorem wX_warm {ad adK adV : Nat → Nat} {tV tS : Nat} {wc : va_W} {A : Nat → Prop} {s : State} {H : Heap} {locs : List Loc} (hE : wE ad adK adV tV tS A s s.heap) (hN : wN s) (hS : va_S A s.heap H locs) (hF : ∀ q, va_A wc H.size q → A q) : ∀ U : State, U.heap = H → s.WarmedH U.vm → wX ad adK adV tV tS wc H.size U := fun U hU hW => ⟨by rw [hU]; exact hE.to hS.2.1 hF hW.alike, wN_warm hW hN⟩
theorem vLen_lt {i : Nat} (hi : i < 7) : vLen.getD i 0 < 2 ^ 31 := by
  rcases (show i = 0 ∨ i = 1 ∨ i = 2 ∨ i = 3 ∨ i = 4 ∨ i = 5 ∨ i = 6 by omega) with rfl | rfl | rfl | rfl | rfl | rfl | rfl <;> decide
/-- a word's character -/
def fchr (i : Nat) (j : Int32) : Int32 := ((((vByt.getD i []).getD j.toNatClampNeg 0) &&& 255).toUInt32 % 65536).toInt32
theorem nar_c (x : UInt32) : narrow .char (.int (x % 65536).toInt32) = .int (x % 65536).toInt32 := by
  have h : vp_nar .char (x % 65536).toInt32 = (x % 65536).toInt32 := by
    rw [vp_nar_char]
    have q : x % 65536 % 65536 = x % 65536 := UInt32.toNat_inj.mp (by simp [UInt32.toNat_mod])
    simp [q]
  have h2 : narrow .char (.int (x % 65536).toInt32) = .int (vp_nar .char (x % 65536).toInt32) := rfl
  rw [h2, h]
section JCall
variable {p : Program} {l : Launch} {e : Env} {R : Room} {s : State} {m : MethodId} {args : Array Value} {below : List Frame} {meth : Method} {c : Code} {H : Heap} {locs : List Loc} {cells slots : Nat} {Q : State → Prop}
variable {cc : ByteArray} {pc : Nat} {ls : Array Slot} {D : va_G} {T : List (ClassId × FieldType)} {A : Nat → Prop} {ws : va_W} {S : Type}
theorem preVJ {H1 : Heap} {C : String} {b : Nat} {As : List Value} {A0 : Nat → Prop} {X : State → Prop} (hX : ∀ (U : State) (g : JFrame) (mk : MethodId) (a : Array Value), X U → X (U.calling g mk a)) (hXs : ∀ U : State, U.heap = H1 → s.WarmedH U.vm → X U) (hP : va_P D vwCl ws H1) (hK : va_K D vwCl T s) (hD : va_D A0 ws) (hr : ∃ cell : Cell, H1[b]? = some cell ∧ cell.vm.isStatics = false ∧ s.vm.findClass C = some cell.cls) : PreV s H1 C b (va_Pc (.ref b :: As) (wPre D T [] H1.size X)) As := by
  have hPc : va_P D vwCl [] H1 := hP.sub [] (fm_of rfl)
  have hDc : va_D A0 [] := hD.sub [] rfl rfl
  exact ⟨wPre_blind hX, hr, fun U hU hW => ⟨rfl, by rw [hU], ⟨by rw [hU]; exact hPc, va_K.moved hW.alike hK, hDc.weaken (fun _ _ _ _ => trivial)⟩, hXs U hU hW⟩⟩
variable {y : MethodName} {bytes : ByteArray} {maxL nL n index : Nat} {ret : Option FieldType} {wsc Ts : List Cond} {rm : Room} {own C : String} {b : Nat} {As rest st0 : List Value} {X : State → Prop} {lv : List (Nat × Value)}
/-- a call on an object out of the world -/
theorem callJi {G : S} {π : S → Int32} (hM : Met l y wsc rm (va_Pc (.ref b :: As) (wPre D T [] H.size X)) (qI D T (fun r u => G = u ∧ r = π u) (fun _ => []) (va_A [] H.size)) 0 0 (va_A [] H.size)) (S0 : CallFix p m c cc nL s args Ts own) (cw : CallW R s args own C index y bytes maxL ret wsc rm 0 0 n) (hX : ∀ (U : State) (g : JFrame) (mk : MethodId) (a : Array Value), X U → X (U.calling g mk a)) (hXs : ∀ U : State, U.heap = H → s.WarmedH U.vm → X U) (hr : ∃ cell : Cell, H[b]? = some cell ∧ cell.vm.isStatics = false ∧ s.vm.findClass C = some cell.cls)
    (hP : va_P D vwCl ws H) (hK : va_K D vwCl T s) (hD : va_D A ws) (hS : va_S A s.heap H locs) (hA : ∀ q, s.heap.size ≤ q → A q) (hl : lv_has ls nL lv)
    (hn : As.length = n) (hst : st0 = As.reverse ++ .ref b :: rest) (hrest : (rest.map fun v => v.category).sum ≤ 8) (hdg : decode cc pc = .ok (.invokevirtual index, 3)) (hf : cells ≤ R.cells ∧ slots ≤ R.slots)
    (kk : ∀ (u : S) (H1 : Heap) (locs1 : List Loc), G = u → va_P D vwCl ws H1 → va_S A s.heap H1 locs1 → W p l e R s m args below meth c H1 locs1 cells slots Q (F0 m (pc + 3) ls (.int (π u) :: rest))) : W p l e R s m args below meth c H locs cells slots Q (F0 m pc ls st0) := by
  subst hst
  have hFc : ∀ q, va_A [] H.size q → A q := va_free (wc := []) hD hS hA [] rfl
  refine va_calli (va_runV (As := As) (rest := rest) S0 hM cw (preVJ hX hXs hP hK hD hr) rfl hn hl.1 rfl (lv_room hrest) hdg hf) hS (fun q _ h => hFc q h) hFc (fun r u t H1 locs1 ht hvm hw hB hz1 hk1 hS1 => ?_)
  rw [hw.2]
  exact kk u H1 locs1 hw.1 (va_P_far hP hk1) hS1
/-- a static call of a method out of the world, with what the state says -/
theorem callJs {G : S} {π : S → Int32} (hM : Met l y wsc rm (va_Pc As (wPre D T [] H.size X)) (qI D T (fun r u => G = u ∧ r = π u) (fun _ => []) (va_A [] H.size)) 0 0 (va_A [] H.size)) (S0 : CallFix p m c cc nL s args Ts own) (cw : CallB R s args own index y bytes maxL ret wsc rm 0 0 n ∧ (Cond.static y).before args s = true) (hX : ∀ (U : State) (g : JFrame) (mk : MethodId) (a : Array Value), X U → X (U.calling g mk a)) (hXs : ∀ U : State, U.heap = H → s.WarmedH U.vm → X U)
    (hP : va_P D vwCl ws H) (hK : va_K D vwCl T s) (hD : va_D A ws) (hS : va_S A s.heap H locs) (hA : ∀ q, s.heap.size ≤ q → A q) (hl : lv_has ls nL lv)
    (hn : As.length = n) (hst : st0 = As.reverse ++ rest) (hrest : (rest.map fun v => v.category).sum ≤ 8) (hdg : decode cc pc = .ok (.invokestatic index, 3)) (hf : cells ≤ R.cells ∧ slots ≤ R.slots)
    (kk : ∀ (u : S) (H1 : Heap) (locs1 : List Loc), G = u → va_P D vwCl ws H1 → va_S A s.heap H1 locs1 → W p l e R s m args below meth c H1 locs1 cells slots Q (F0 m (pc + 3) ls (.int (π u) :: rest))) : W p l e R s m args below meth c H locs cells slots Q (F0 m pc ls st0) := by
  subst hst
  have hFc : ∀ q, va_A [] H.size q → A q := va_free (wc := []) hD hS hA [] rfl
  refine va_calli (va_runS (As := As) (rest := rest) S0 hM cw (preS hX hXs hP hK hD [] rfl rfl) rfl hn hl.1 rfl (lv_room hrest) hdg hf) hS (fun q _ h => hFc q h) hFc (fun r u t H1 locs1 ht hvm hw hB hz1 hk1 hS1 => ?_)
  rw [hw.2]
  exact kk u H1 locs1 hw.1 (va_P_far hP hk1) hS1
theorem callJsv {G : S} (hM : Met l y wsc rm (va_Pc As (wPre D T [] H.size X)) (qV D T (fun u => G = u) (fun _ => []) (va_A [] H.size)) 0 0 (va_A [] H.size)) (S0 : CallFix p m c cc nL s args Ts own) (cw : CallB R s args own index y bytes maxL ret wsc rm 0 0 n ∧ (Cond.static y).before args s = true) (hX : ∀ (U : State) (g : JFrame) (mk : MethodId) (a : Array Value), X U → X (U.calling g mk a)) (hXs : ∀ U : State, U.heap = H → s.WarmedH U.vm → X U)
    (hP : va_P D vwCl ws H) (hK : va_K D vwCl T s) (hD : va_D A ws) (hS : va_S A s.heap H locs) (hA : ∀ q, s.heap.size ≤ q → A q) (hl : lv_has ls nL lv)
    (hn : As.length = n) (hst : st0 = As.reverse ++ rest) (hrest : (rest.map fun v => v.category).sum ≤ 8) (hdg : decode cc pc = .ok (.invokestatic index, 3)) (hf : cells ≤ R.cells ∧ slots ≤ R.slots)
    (kk : ∀ (u : S) (H1 : Heap) (locs1 : List Loc), G = u → va_P D vwCl ws H1 → va_S A s.heap H1 locs1 → W p l e R s m args below meth c H1 locs1 cells slots Q (F0 m (pc + 3) ls rest)) : W p l e R s m args below meth c H locs cells slots Q (F0 m pc ls st0) := by
  subst hst
  have hFc : ∀ q, va_A [] H.size q → A q := va_free (wc := []) hD hS hA [] rfl
  refine va_callv (va_runS (As := As) (rest := rest) S0 hM cw (preS hX hXs hP hK hD [] rfl rfl) rfl hn hl.1 rfl (lv_room hrest) hdg hf) hS (fun q _ h => hFc q h) hFc (fun u t H1 locs1 ht hvm hw hB hz1 hk1 hS1 => ?_)
  exact kk u H1 locs1 hw (va_P_far hP hk1) hS1
end JCall
theorem mJ3_checkIndex (l : Launch) (D : va_G) (cI cC cS : ClassId) (sz : Nat) (i n : Int32) (fv : Value) (hfv : fv = .null ∨ ∃ t, fv = .ref t) (h1 : ¬ i < 0) (h2 : i < n) : Met l yJ3_checkIndex_8e157 wsJ3_checkIndex_8e157 ({ frames := 0, cells := 0, slots := 0, locals := 0 } : Jvm.Room) (va_Pc [.int i, .int n, fv] (wPre D (TY cI cC cS) [] sz X0)) (qI D (TY cI cC cS) (fun (r : Int32) (u : Int32) => i = u ∧ r = u) (fun _ => []) (va_A [] sz)) 0 0 (va_A [] sz) := by
  rcases hfv with rfl | ⟨t, rfl⟩
  all_goals
    refine mkM (fun Fr => qI D (TY cI cC cS) (fun (r : Int32) (u : Int32) => i = u ∧ r = u) (fun _ => []) Fr) (cc := cJ3_checkIndex_8e157) (maxL := 3) (ret := (some .int)) (own := RJ3) (by decide) rfl rfl (Nat.le_of_ble_eq_true rfl) rfl ?_
    intro p e s m below meth c Fr ls hx hb hr hts hown hml hlk hin hP hK hD hS hA hAe hsz hX hl
    refine lv_iload_n hx hb dJ3_checkIndex_8e157_0 rfl (lv_at hl 0 rfl) ?_
    refine lv_if_lt (tgt := 9) hx hb dJ3_checkIndex_8e157_1 (by decide) (fun h => absurd h h1) (fun _ => ?_)
    refine lv_iload_n hx hb dJ3_checkIndex_8e157_4 rfl (lv_at hl 0 rfl) ?_
    refine lv_iload_n hx hb dJ3_checkIndex_8e157_5 rfl (lv_at hl 1 rfl) ?_
    refine lv_icmp_lt (tgt := 16) hx hb dJ3_checkIndex_8e157_6 (by decide) (fun _ => ?_) (fun h => absurd h2 h)
    refine lv_iload_n hx hb dJ3_checkIndex_8e157_16 rfl (lv_at hl 0 rfl) ?_
    exact endI hx hb hr hlk hP hK hD hS dJ3_checkIndex_8e157_17 i rfl ⟨rfl, rfl⟩
theorem mJ0_checkIndex (l : Launch) (D : va_G) (cI cC cS : ClassId) (sz : Nat) (ad adK adV : Nat → Nat) (tV tS : Nat) (i n : Int32) (h1 : ¬ i < 0) (h2 : i < n) : Met l yJ0_checkIndex_df160 wsJ0_checkIndex_df160 ({ frames := 1, cells := 0, slots := 0, locals := 22 } : Jvm.Room) (va_Pc [.int i, .int n] (wPre D (TY cI cC cS) [] sz (wX ad adK adV tV tS [] sz))) (qV D (TY cI cC cS) (fun (u : Unit) => () = u) (fun _ => []) (va_A [] sz)) 0 0 (va_A [] sz) := by
  refine mkM (fun Fr => qV D (TY cI cC cS) (fun (u : Unit) => () = u) (fun _ => []) Fr) (cc := cJ0_checkIndex_df160) (maxL := 2) (ret := none) (own := RJ0) (lv := [(0, .int i), (1, .int n)]) (by decide) rfl rfl (Nat.le_of_ble_eq_true rfl) rfl ?_
  intro p e s m below meth c Fr ls hx hb hr hts hown hml hlk hin hP hK hD hS hA hAe hsz hX hl
  have hE : wE ad adK adV tV tS Fr s s.heap := by rw [hAe]; exact hX.1
  obtain ⟨fv, hfv, hZ⟩ : ∃ fv : Value, (fv = .null ∨ ∃ t, fv = .ref t) ∧ va_Z RJ3 "SIOOBE_FORMATTER" "Ljava/util/function/BiFunction;" fv Fr s s.heap := by
    rcases hE.2.2.1 with h | ⟨t, h⟩
    · exact ⟨_, Or.inl rfl, h⟩
    · exact ⟨_, Or.inr ⟨t, rfl⟩, h⟩
  refine lv_iload_n hx hb dJ0_checkIndex_df160_0 rfl (lv_at hl 0 rfl) ?_
  refine lv_iload_n hx hb dJ0_checkIndex_df160_1 rfl (lv_at hl 1 rfl) ?_
  refine va_gets hx hb hZ hS hown (hts (.fieldLink RJ0 1053 "jdk/internal/util/Preconditions" "SIOOBE_FORMATTER" "Ljava/util/function/BiFunction;") (List.mem_of_getElem? (i := 1) rfl)) (fun _ h => h) dJ0_checkIndex_df160_2 ?_
  refine callSi (As := [.int i, .int n, fv]) (rest := []) (mJ3_checkIndex l D cI cC cS _ i n fv hfv h1 h2) ⟨hx, hb, hml, hown, hts⟩ (va_cwS 3 hts gJ0_checkIndex_df160_J3_checkIndex_8e157 rfl rfl rfl (by decide +kernel) ⟨Nat.le_of_ble_eq_true rfl, Nat.le_of_ble_eq_true rfl⟩) hP hK hD hS hA hl rfl rfl (Nat.le_of_ble_eq_true rfl) dJ0_checkIndex_df160_5 ⟨Nat.zero_le _, Nat.zero_le _⟩ (fun u_ H locs hk hP hS => ?_)
  refine lv_pop hx hb dJ0_checkIndex_df160_8 rfl ?_
  exact endV hx hb hr hlk hP hK hD hS dJ0_checkIndex_df160_9 () rfl rfl
theorem mJ1_charAt (l : Launch) (D : va_G) (cI cC cS : ClassId) (sz : Nat) (ad adK adV : Nat → Nat) (tV tS : Nat) (i : Nat) (hi : i < 7) (j : Int32) (h1 : ¬ j < 0) (h2 : j < Int32.ofNat (vLen.getD i 0)) : Met l yJ1_charAt_3b067 wsJ1_charAt_3b067 ({ frames := 2, cells := 0, slots := 0, locals := 43 } : Jvm.Room) (va_Pc [.ref (adV i), .int j] (wPre D (TY cI cC cS) [] sz (wX ad adK adV tV tS [] sz))) (qI D (TY cI cC cS) (fun (r : Int32) (u : Int32) => fchr i j = u ∧ r = u) (fun _ => []) (va_A [] sz)) 0 0 (va_A [] sz) := by
  refine mkM (fun Fr => qI D (TY cI cC cS) (fun (r : Int32) (u : Int32) => fchr i j = u ∧ r = u) (fun _ => []) Fr) (cc := cJ1_charAt_3b067) (maxL := 2) (ret := (some .char)) (own := RJ1) (lv := [(0, .ref (adV i)), (1, .int j)]) (by decide) rfl rfl (Nat.le_of_ble_eq_true rfl) rfl ?_
  intro p e s m below meth c Fr ls hx hb hr hts hown hml hlk hin hP hK hD hS hA hAe hsz hX hl
  have hE : wE ad adK adV tV tS Fr s s.heap := by rw [hAe]; exact hX.1
  have hT := (hE.1.1 i hi).2.2.2
  have hF : ∀ q, va_A [] s.heap.size q → Fr q := va_free (wc := []) hD hS hA [] rfl
  refine lv_iload_n hx hb dJ1_charAt_3b067_0 rfl (lv_at hl 1 rfl) ?_
  refine lv_aload_n hx hb dJ1_charAt_3b067_1 rfl (lv_at hl 0 rfl) ?_
  refine va_tlen hx hb hT hS rfl dJ1_charAt_3b067_2 ?_
  refine callJsv (As := [.int j, .int (Int32.ofNat (vLen.getD i 0))]) (rest := []) (mJ0_checkIndex l D cI cC cS _ ad adK adV tV tS j _ h1 h2) ⟨hx, hb, hml, hown, hts⟩ (va_cwS 2 hts gJ1_charAt_3b067_J0_checkIndex_df160 rfl rfl rfl (by decide +kernel) ⟨Nat.le_of_ble_eq_true rfl, Nat.le_of_ble_eq_true rfl⟩) wX_blind (wX_warm hE hX.2 hS hF) hP hK hD hS hA hl rfl rfl (Nat.le_of_ble_eq_true rfl) dJ1_charAt_3b067_3 ⟨Nat.zero_le _, Nat.zero_le _⟩ (fun u_ H locs hk hP hS => ?_)
  refine lv_aload_n hx hb dJ1_charAt_3b067_6 rfl (lv_at hl 0 rfl) ?_
  refine lv_iload_n hx hb dJ1_charAt_3b067_7 rfl (lv_at hl 1 rfl) ?_
  refine va_tb hx hb hT hS (vp_in_of2 h1 (Int32.not_le.mpr h2) (vLen_lt hi)) rfl dJ1_charAt_3b067_8 ?_
  refine lv_sipush (v := 255) hx hb dJ1_charAt_3b067_9 (by decide) ?_
  refine lv_iand hx hb dJ1_charAt_3b067_12 ?_
  refine lv_i2c (v := fchr i j) hx hb dJ1_charAt_3b067_13 rfl ?_
  exact endZ hx hb hr hlk hP hK hD hS dJ1_charAt_3b067_14 (nar_c _) (fchr i j) rfl ⟨rfl, rfl⟩
theorem mJ0_isLatin1 (l : Launch) (D : va_G) (cI cC cS : ClassId) (sz : Nat) (ad adK adV : Nat → Nat) (tV tS : Nat) (i : Nat) (hi : i < 7) : Met l yJ0_isLatin1_aae02 wsJ0_isLatin1_aae02 ({ frames := 0, cells := 0, slots := 0, locals := 0 } : Jvm.Room) (va_Pc [.ref (adK i)] (wPre D (TY cI cC cS) [] sz (wX ad adK adV tV tS [] sz))) (qI D (TY cI cC cS) (fun (r : Int32) (u : Int32) => 1 = u ∧ r = u) (fun _ => []) (va_A [] sz)) 0 0 (va_A [] sz) := by
  refine mkM (fun Fr => qI D (TY cI cC cS) (fun (r : Int32) (u : Int32) => 1 = u ∧ r = u) (fun _ => []) Fr) (cc := cJ0_isLatin1_aae02) (maxL := 1) (ret := (some .boolean)) (own := RJ0) (lv := [(0, .ref (adK i))]) (by decide) rfl rfl (Nat.le_of_ble_eq_true rfl) rfl ?_
  intro p e s m below meth c Fr ls hx hb hr hts hown hml hlk hin hP hK hD hS hA hAe hsz hX hl
  have hE : wE ad adK adV tV tS Fr s s.heap := by rw [hAe]; exact hX.1
  refine va_gets hx hb hE.2.1 hS hown (hts (.fieldLink RJ0 38 "java/lang/String" "COMPACT_STRINGS" "Z") (List.mem_of_getElem? (i := 1) rfl)) (fun _ h => h) dJ0_isLatin1_aae02_0 ?_
  refine lv_if_eq (tgt := 17) hx hb dJ0_isLatin1_aae02_3 (by decide) (fun h => absurd h (by decide)) (fun _ => ?_)
  refine lv_aload_n hx hb dJ0_isLatin1_aae02_6 rfl (lv_at hl 0 rfl) ?_
  refine vk_getf hx hb (hE.1.1 i hi).2.1 hS hown (hts (.fieldLink RJ0 15 "java/lang/String" "coder" "B") (List.mem_of_getElem? (i := 2) rfl)) (fun _ h => h) dJ0_isLatin1_aae02_7 ?_
  refine lv_if_ne (tgt := 17) hx hb dJ0_isLatin1_aae02_10 (by decide) (fun h => absurd rfl h) (fun _ => ?_)
  refine lv_iconst (v := 1) hx hb dJ0_isLatin1_aae02_13 (by decide) ?_
  refine lv_goto (tgt := 18) hx hb dJ0_isLatin1_aae02_14 (by decide) ?_
  exact endZ hx hb hr hlk hP hK hD hS dJ0_isLatin1_aae02_18 rfl 1 rfl ⟨rfl, rfl⟩
theorem mJ0_coder (l : Launch) (D : va_G) (cI cC cS : ClassId) (sz : Nat) (ad adK adV : Nat → Nat) (tV tS : Nat) (i : Nat) (hi : i < 7) : Met l yJ0_coder_7d493 wsJ0_coder_7d493 ({ frames := 0, cells := 0, slots := 0, locals := 0 } : Jvm.Room) (va_Pc [.ref (adK i)] (wPre D (TY cI cC cS) [] sz (wX ad adK adV tV tS [] sz))) (qI D (TY cI cC cS) (fun (r : Int32) (u : Int32) => 0 = u ∧ r = u) (fun _ => []) (va_A [] sz)) 0 0 (va_A [] sz) := by
  refine mkM (fun Fr => qI D (TY cI cC cS) (fun (r : Int32) (u : Int32) => 0 = u ∧ r = u) (fun _ => []) Fr) (cc := cJ0_coder_7d493) (maxL := 1) (ret := (some .byte)) (own := RJ0) (lv := [(0, .ref (adK i))]) (by decide) rfl rfl (Nat.le_of_ble_eq_true rfl) rfl ?_
  intro p e s m below meth c Fr ls hx hb hr hts hown hml hlk hin hP hK hD hS hA hAe hsz hX hl
  have hE : wE ad adK adV tV tS Fr s s.heap := by rw [hAe]; exact hX.1
  refine va_gets hx hb hE.2.1 hS hown (hts (.fieldLink RJ0 38 "java/lang/String" "COMPACT_STRINGS" "Z") (List.mem_of_getElem? (i := 1) rfl)) (fun _ h => h) dJ0_coder_7d493_0 ?_
  refine lv_if_eq (tgt := 13) hx hb dJ0_coder_7d493_3 (by decide) (fun h => absurd h (by decide)) (fun _ => ?_)
  refine lv_aload_n hx hb dJ0_coder_7d493_6 rfl (lv_at hl 0 rfl) ?_
  refine vk_getf hx hb (hE.1.1 i hi).2.1 hS hown (hts (.fieldLink RJ0 15 "java/lang/String" "coder" "B") (List.mem_of_getElem? (i := 2) rfl)) (fun _ h => h) dJ0_coder_7d493_7 ?_
  refine lv_goto (tgt := 14) hx hb dJ0_coder_7d493_10 (by decide) ?_
  exact endZ hx hb hr hlk hP hK hD hS dJ0_coder_7d493_14 rfl 0 rfl ⟨rfl, rfl⟩
theorem mJ0_length_8abf5 (l : Launch) (D : va_G) (cI cC cS : ClassId) (sz : Nat) (ad adK adV : Nat → Nat) (tV tS : Nat) (i : Nat) (hi : i < 7) : Met l yJ0_length_8abf5 wsJ0_length_8abf5 ({ frames := 1, cells := 0, slots := 0, locals := 20 } : Jvm.Room) (va_Pc [.ref (adK i)] (wPre D (TY cI cC cS) [] sz (wX ad adK adV tV tS [] sz))) (qI D (TY cI cC cS) (fun (r : Int32) (u : Int32) => Int32.ofNat (vLen.getD i 0) = u ∧ r = u) (fun _ => []) (va_A [] sz)) 0 0 (va_A [] sz) := by
  refine mkM (fun Fr => qI D (TY cI cC cS) (fun (r : Int32) (u : Int32) => Int32.ofNat (vLen.getD i 0) = u ∧ r = u) (fun _ => []) Fr) (cc := cJ0_length_8abf5) (maxL := 1) (ret := (some .int)) (own := RJ0) (lv := [(0, .ref (adK i))]) (by decide) rfl rfl (Nat.le_of_ble_eq_true rfl) rfl ?_
  intro p e s m below meth c Fr ls hx hb hr hts hown hml hlk hin hP hK hD hS hA hAe hsz hX hl
  have hE : wE ad adK adV tV tS Fr s s.heap := by rw [hAe]; exact hX.1
  have hF : ∀ q, va_A [] s.heap.size q → Fr q := va_free (wc := []) hD hS hA [] rfl
  refine lv_aload_n hx hb dJ0_length_8abf5_0 rfl (lv_at hl 0 rfl) ?_
  refine vk_getf hx hb (hE.1.1 i hi).2.2.1 hS hown (hts (.fieldLink RJ0 9 "java/lang/String" "value" "[B") (List.mem_of_getElem? (i := 1) rfl)) (fun _ h => h) dJ0_length_8abf5_1 ?_
  refine va_tlen hx hb (hE.1.1 i hi).2.2.2 hS rfl dJ0_length_8abf5_4 ?_
  refine lv_aload_n hx hb dJ0_length_8abf5_5 rfl (lv_at hl 0 rfl) ?_
  refine callJi (As := []) (rest := [.int (Int32.ofNat (vLen.getD i 0))]) (mJ0_coder l D cI cC cS _ ad adK adV tV tS i hi) ⟨hx, hb, hml, hown, hts⟩ (cwV 0 hts gJ0_length_8abf5_J0_coder_7d493 rfl rfl rfl (by decide +kernel) ⟨Nat.le_of_ble_eq_true rfl, Nat.le_of_ble_eq_true rfl⟩) wX_blind (wX_warm hE hX.2 hS hF) (vk_recv hE.1 hi hS) hP hK hD hS hA hl rfl rfl (Nat.le_of_ble_eq_true rfl) dJ0_length_8abf5_6 ⟨Nat.zero_le _, Nat.zero_le _⟩ (fun u_ H locs hk hP hS => ?_)
  subst hk
  refine lv_ishr hx hb dJ0_length_8abf5_9 ?_
  refine W.eq (g2 := F0 m 10 ls [.int (Int32.ofNat (vLen.getD i 0))]) (by simp) ?_
  exact endI hx hb hr hlk hP hK hD hS dJ0_length_8abf5_10 _ rfl ⟨rfl, rfl⟩
theorem mJ0_charAt_5068e (l : Launch) (D : va_G) (cI cC cS : ClassId) (sz : Nat) (ad adK adV : Nat → Nat) (tV tS : Nat) (i : Nat) (hi : i < 7) (j : Int32) (h1 : ¬ j < 0) (h2 : j < Int32.ofNat (vLen.getD i 0)) : Met l yJ0_charAt_5068e wsJ0_charAt_5068e ({ frames := 3, cells := 0, slots := 0, locals := 64 } : Jvm.Room) (va_Pc [.ref (adK i), .int j] (wPre D (TY cI cC cS) [] sz (wX ad adK adV tV tS [] sz))) (qI D (TY cI cC cS) (fun (r : Int32) (u : Int32) => fchr i j = u ∧ r = u) (fun _ => []) (va_A [] sz)) 0 0 (va_A [] sz) := by
  refine mkM (fun Fr => qI D (TY cI cC cS) (fun (r : Int32) (u : Int32) => fchr i j = u ∧ r = u) (fun _ => []) Fr) (cc := cJ0_charAt_5068e) (maxL := 2) (ret := (some .char)) (own := RJ0) (lv := [(0, .ref (adK i)), (1, .int j)]) (by decide) rfl rfl (Nat.le_of_ble_eq_true rfl) rfl ?_
  intro p e s m below meth c Fr ls hx hb hr hts hown hml hlk hin hP hK hD hS hA hAe hsz hX hl
  have hE : wE ad adK adV tV tS Fr s s.heap := by rw [hAe]; exact hX.1
  refine lv_aload_n hx hb dJ0_charAt_5068e_0 rfl (lv_at hl 0 rfl) ?_
  refine callJi (As := []) (rest := []) (mJ0_isLatin1 l D cI cC cS _ ad adK adV tV tS i hi) ⟨hx, hb, hml, hown, hts⟩ (cwV 0 hts gJ0_charAt_5068e_J0_isLatin1_aae02 rfl rfl rfl (by decide +kernel) ⟨Nat.le_of_ble_eq_true rfl, Nat.le_of_ble_eq_true rfl⟩) wX_blind (wX_warm hE hX.2 hS (va_free (wc := []) hD hS hA [] rfl)) (vk_recv hE.1 hi hS) hP hK hD hS hA hl rfl rfl (Nat.le_of_ble_eq_true rfl) dJ0_charAt_5068e_1 ⟨Nat.zero_le _, Nat.zero_le _⟩ (fun u_ H locs hk hP hS => ?_)
  subst hk
  refine lv_if_eq (tgt := 16) hx hb dJ0_charAt_5068e_4 (by decide) (fun h => absurd h (by decide)) (fun _ => ?_)
  refine lv_aload_n hx hb dJ0_charAt_5068e_7 rfl (lv_at hl 0 rfl) ?_
  refine vk_getf hx hb (hE.1.1 i hi).2.2.1 hS hown (hts (.fieldLink RJ0 9 "java/lang/String" "value" "[B") (List.mem_of_getElem? (i := 1) rfl)) (fun _ h => h) dJ0_charAt_5068e_8 ?_
  refine lv_iload_n hx hb dJ0_charAt_5068e_11 rfl (lv_at hl 1 rfl) ?_
  refine callJs (As := [.ref (adV i), .int j]) (rest := []) (mJ1_charAt l D cI cC cS _ ad adK adV tV tS i hi j h1 h2) ⟨hx, hb, hml, hown, hts⟩ (va_cwS 2 hts gJ0_charAt_5068e_J1_charAt_3b067 rfl rfl rfl (by decide +kernel) ⟨Nat.le_of_ble_eq_true rfl, Nat.le_of_ble_eq_true rfl⟩) wX_blind (wX_warm hE hX.2 hS (va_free (wc := []) hD hS hA [] rfl)) hP hK hD hS hA hl rfl rfl (Nat.le_of_ble_eq_true rfl) dJ0_charAt_5068e_12 ⟨Nat.zero_le _, Nat.zero_le _⟩ (fun u_ H locs hk hP hS => ?_)
  subst hk
  exact endZ hx hb hr hlk hP hK hD hS dJ0_charAt_5068e_15 (nar_c _) (fchr i j) rfl ⟨rfl, rfl⟩
