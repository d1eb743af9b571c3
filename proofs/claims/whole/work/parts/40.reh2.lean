theorem recvO {E : String} {t : Nat} {A : Nat → Prop} {s : State} {H : Heap} {locs : List Loc} (h : va_O E t A s s.heap) (hS : va_S A s.heap H locs) : ∃ cell : Cell, H[t]? = some cell ∧ cell.vm.isStatics = false ∧ s.vm.findClass E = some cell.cls := by
  obtain ⟨cell, h1, h2, h3, -⟩ := h.kept hS.2.1
  exact ⟨cell, h1, h2, h3⟩
theorem vp_n7 {k : Nat} (h : k < 7) : vp_in (Int32.ofNat k) 7 := by
  rcases (show k = 0 ∨ k = 1 ∨ k = 2 ∨ k = 3 ∨ k = 4 ∨ k = 5 ∨ k = 6 by omega) with rfl | rfl | rfl | rfl | rfl | rfl | rfl <;> exact vp_d rfl
/-- a call of a method that the class has from above, on an object out of the world -/
theorem callJw {p : Program} {l : Launch} {e : Env} {R : Room} {s : State} {m : MethodId} {args : Array Value} {below : List Frame} {meth : Method} {c : Code} {H : Heap} {locs : List Loc} {cells slots : Nat} {Q : State → Prop} {cc : ByteArray} {pc : Nat} {ls : Array Slot} {D : va_G} {T : List (ClassId × FieldType)} {A : Nat → Prop} {ws : va_W} {S : Type} {x y : MethodName} {bytes : ByteArray} {maxL nL n index : Nat} {ret : Option FieldType} {wsc wsc' Ts : List Cond} {own C owner : String} {b : Nat} {As rest st0 : List Value} {X : State → Prop} {lv : List (Nat × Value)} {G : S} {π : S → Int32} (hB : Back l R p e below s args y 3 8 (PreOf R 0 0 (va_Pc (.ref b :: As) (wPre D T [] H.size X))) (PostOf (qI D T (fun r u => G = u ∧ r = π u) (fun _ => []) (va_A [] H.size)) 0 0 (va_A [] H.size))) (S0 : CallFix p m c cc nL s args Ts own) (hT : GoodIn Ts (([.methodLink own index x, .sameMethod x.cls owner x.name x.desc, .selects C x y, .instanceMethod y] : List Cond) ++ wsc)) (hw : wsc = Cond.code y bytes maxL ret :: wsc') (hyx : y = ⟨owner, x.name, x.desc⟩) (hd : owner ≠ "java/lang/invoke/MethodHandle" ∧ owner ≠ "java/lang/invoke/VarHandle" ∧ (parseMethodDescriptor x.desc).map (fun d => d.parameters.length) = some n) (hX : ∀ (U : State) (g : JFrame) (mk : MethodId) (a : Array Value), X U → X (U.calling g mk a)) (hXs : ∀ U : State, U.heap = H → s.WarmedH U.vm → X U) (hr : ∃ cell : Cell, H[b]? = some cell ∧ cell.vm.isStatics = false ∧ s.vm.findClass C = some cell.cls)
    (hP : va_P D vwCl ws H) (hK : va_K D vwCl T s) (hD : va_D A ws) (hS : va_S A s.heap H locs) (hA : ∀ q, s.heap.size ≤ q → A q) (hl : lv_has ls nL lv)
    (hn : As.length = n) (hst : st0 = As.reverse ++ .ref b :: rest) (hrest : (rest.map fun v => v.category).sum ≤ 8) (hdg : decode cc pc = .ok (.invokevirtual index, 3)) (hf : cells ≤ R.cells ∧ slots ≤ R.slots)
    (kk : ∀ (u : S) (H1 : Heap) (locs1 : List Loc), G = u → va_P D vwCl ws H1 → va_S A s.heap H1 locs1 → W p l e R s m args below meth c H1 locs1 cells slots Q (F0 m (pc + 3) ls (.int (π u) :: rest))) : W p l e R s m args below meth c H locs cells slots Q (F0 m pc ls st0) := by
  subst hst
  have hFc : ∀ q, va_A [] H.size q → A q := va_free (wc := []) hD hS hA [] rfl
  refine va_calli (runW (As := As) (rest := rest) S0 hB hT hw hyx hd (preVJ hX hXs hP hK hD hr) rfl hn hl.1 rfl (lv_room hrest) hdg hf) hS (fun q _ h => hFc q h) hFc (fun r u t H1 locs1 ht hvm hw hB hz1 hk1 hS1 => ?_)
  rw [hw.2]
  exact kk u H1 locs1 hw.1 (va_P_far hP hk1) hS1
theorem bJx29ce0_ordinal {p : Program} {l : Launch} {e : Env} {R : Room} {s : State} {args : Array Value} {below : List Frame} (hx : p.tables.exec = Jvm.exec) (hR : 1 ≤ R.frames ∧ 20 ≤ R.locals) (hws : ∀ w ∈ wsJx29ce0_ordinal_8abf5, ∀ (a' : Array Value) (U : State), s.WarmedH U.vm → w.before a' U = true) (D : va_G) (cI cC cS : ClassId) (sz : Nat) (ad adK adV : Nat → Nat) (tV tS : Nat) (i : Nat) (hi : i < 7) : Back l R p e below s args yJx29ce0_ordinal_8abf5 3 8 (PreOf R 0 0 (va_Pc [.ref (ad i)] (wPre D (TY cI cC cS) [] sz (wX ad adK adV tV tS [] sz)))) (PostOf (qI D (TY cI cC cS) (fun (r : Int32) (u : Int32) => Int32.ofNat i = u ∧ r = u) (fun _ => []) (va_A [] sz)) 0 0 (va_A [] sz)) := by
  refine mkB (rm := { frames := 0, cells := 0, slots := 0, locals := 0 }) (fun Fr => qI D (TY cI cC cS) (fun (r : Int32) (u : Int32) => Int32.ofNat i = u ∧ r = u) (fun _ => []) Fr) (cc := cJx29ce0_ordinal_8abf5) (maxL := 1) (ret := (some .int)) (own := RJx29ce0) (lv := [(0, .ref (ad i))]) hx (by decide) List.mem_cons_self rfl (Nat.le_of_ble_eq_true rfl) rfl (wPre_blind wX_blind) rfl rfl hR.1 hR.2 hws ?_
  intro s m below meth c Fr ls hx hb hr hts hown hml hlk hP hK hD hS hA hAe hsz hX hl
  have hE : wE ad adK adV tV tS Fr s s.heap := by rw [hAe]; exact hX.1
  refine lv_aload_n hx hb dJx29ce0_ordinal_8abf5_0 rfl (lv_at hl 0 rfl) ?_
  refine va_getX (i := i) hx hb hE.2.2.2.2.2.2.2.1 hi hS hown (hts (.fieldLink RJx29ce0 7 "java/lang/Enum" "ordinal" "I") (List.mem_of_getElem? (i := 1) rfl)) (fun _ h => h) dJx29ce0_ordinal_8abf5_1 ?_
  exact endI hx hb hr hlk hP hK hD hS dJx29ce0_ordinal_8abf5_4 (Int32.ofNat i) rfl ⟨rfl, rfl⟩
/-- the value of X3_answerOf, path by path -/
def fX3_answerOf (Nf : Nat → Int32) (SA : Nat → Int32) (SI : Nat → Int32) (SC : Nat → Int32) (na2 : Int32) (ni2 : Int32) (dy2 : Int32) (vl2 : Int32) (db2 : Int32) (kv : Nat) : Int32 × (Nat → Int32) × (Nat → Int32) × (Nat → Int32) × Int32 × Int32 :=
  bd1 (fX4_number Nf 0) (fun (r_2 : Int32) => bd1 (fX4_number Nf 1) (fun (r_4 : Int32) => bd1 (fX4_number Nf 2) (fun (r_6 : Int32) => (if Int32.ofNat ((Int32.ofNat kv).toNatClampNeg + 1) = 1 then bd3 (fX5_addAddress SA na2 r_2) (fun (r_9 : Int32) (u_10 : Nat → Int32) (u_11 : Int32) => (r_9, u_10, SI, SC, u_11, dy2)) else if Int32.ofNat ((Int32.ofNat kv).toNatClampNeg + 1) = 2 then bd2 (fX5_changeQuota SC r_2 r_4 r_6) (fun (r_13 : Int32) (u_14 : Nat → Int32) => (r_13, SA, SI, u_14, na2, dy2)) else if Int32.ofNat ((Int32.ofNat kv).toNatClampNeg + 1) = 3 then bd4 (fX5_makeCall SA SI SC na2 ni2 dy2 vl2 db2 r_2 r_4 r_6 0) (fun (r_16 : Int32) (u_17 : Nat → Int32) (u_18 : Nat → Int32) (u_19 : Nat → Int32) => (r_16, u_17, u_18, u_19, na2, dy2)) else if Int32.ofNat ((Int32.ofNat kv).toNatClampNeg + 1) = 4 then bd4 (fX5_makeCall SA SI SC na2 ni2 dy2 vl2 db2 r_2 r_4 r_6 1) (fun (r_21 : Int32) (u_22 : Nat → Int32) (u_23 : Nat → Int32) (u_24 : Nat → Int32) => (r_21, u_22, u_23, u_24, na2, dy2)) else if Int32.ofNat ((Int32.ofNat kv).toNatClampNeg + 1) = 5 then bd1 (fX4_number Nf 3) (fun (r_26 : Int32) => bd4 (fX5_makeCall SA SI SC na2 ni2 dy2 vl2 db2 r_2 r_4 r_6 (2 + r_26)) (fun (r_28 : Int32) (u_29 : Nat → Int32) (u_30 : Nat → Int32) (u_31 : Nat → Int32) => (r_28, u_29, u_30, u_31, na2, dy2))) else if Int32.ofNat ((Int32.ofNat kv).toNatClampNeg + 1) = 6 then bd1 (fX4_number Nf 3) (fun (r_33 : Int32) => bd1 (fX4_number Nf 4) (fun (r_35 : Int32) => bd3 (fX5_makeMeeting SA SI na2 ni2 dy2 db2 r_2 r_4 r_6 r_33 r_35) (fun (r_37 : Int32) (u_38 : Nat → Int32) (u_39 : Nat → Int32) => (r_37, u_38, u_39, SC, na2, dy2)))) else if Int32.ofNat ((Int32.ofNat kv).toNatClampNeg + 1) = 7 then bd3 (fX5_passDays SI ni2 dy2 r_2) (fun (r_41 : Int32) (u_42 : Nat → Int32) (u_43 : Int32) => (r_41, SA, u_42, SC, na2, u_43)) else ((-2), SA, SI, SC, na2, dy2)))))

set_option maxHeartbeats 4000000 in
set_option maxRecDepth 100000 in
/-- X3_answerOf -/
theorem mX3_answerOf (l : Launch) (D : va_G) (cI cC cS : ClassId) (sz : Nat) (rh : Nat) (cs : Nat) (tr : Nat) (cm : Int32) (ps : Int32) (rs : Int32) (ck : Nat) (cn : Nat) (ad : Nat → Nat) (Cf : Nat → Int32) (Nf : Nat → Int32) (len : Int32) (vb : Option Nat) (pos : Int32) (adK : Nat → Nat) (adV : Nat → Nat) (tV : Nat) (tS : Nat) (u1 : Nat) (u2 : Nat) (u3 : Nat) (b1 : Nat) (b2 : Nat) (b3 : Nat) (SA : Nat → Int32) (SI : Nat → Int32) (SC : Nat → Int32) (na2 : Int32) (ni2 : Int32) (dy2 : Int32) (vl2 : Int32) (db2 : Int32) (kv : Nat) (h7 : kv < 7) : Met l yX3_answerOf wsX3_answerOf ({ frames := 4, cells := 0, slots := 0, locals := 96 } : Jvm.Room) (va_Pc [.ref rh, .ref (ad kv)] (wPre D (TY cI cC cS) ([rhW rh cs tr cm ps rs, scW cI cC ad cs ck cn Cf Nf len vb pos, svW tr u1 u2 u3 b1 b2 b3 cI SA SI SC na2 ni2 dy2 vl2 db2] : List va_W).flatten sz (wX ad adK adV tV tS (([rhW rh cs tr cm ps rs, scW cI cC ad cs ck cn Cf Nf len vb pos, svW tr u1 u2 u3 b1 b2 b3 cI SA SI SC na2 ni2 dy2 vl2 db2] : List va_W).flatten) sz))) (qI D (TY cI cC cS) (fun (r : Int32) (u : Int32 × (Nat → Int32) × (Nat → Int32) × (Nat → Int32) × Int32 × Int32) => fX3_answerOf Nf SA SI SC na2 ni2 dy2 vl2 db2 kv = u ∧ r = u.1) (fun u => ([rhW rh cs tr cm ps rs, scW cI cC ad cs ck cn Cf Nf len vb pos, svW tr u1 u2 u3 b1 b2 b3 cI u.2.1 u.2.2.1 u.2.2.2.1 u.2.2.2.2.1 ni2 u.2.2.2.2.2 vl2 db2] : List va_W).flatten) (va_A ([rhW rh cs tr cm ps rs, scW cI cC ad cs ck cn Cf Nf len vb pos, svW tr u1 u2 u3 b1 b2 b3 cI SA SI SC na2 ni2 dy2 vl2 db2] : List va_W).flatten sz)) 0 0 (va_A ([rhW rh cs tr cm ps rs, scW cI cC ad cs ck cn Cf Nf len vb pos, svW tr u1 u2 u3 b1 b2 b3 cI SA SI SC na2 ni2 dy2 vl2 db2] : List va_W).flatten sz) := by
  refine mkM (y := yX3_answerOf) (wsl := wsX3_answerOf) (fun Fr => qI D (TY cI cC cS) (fun (r : Int32) (u : Int32 × (Nat → Int32) × (Nat → Int32) × (Nat → Int32) × Int32 × Int32) => fX3_answerOf Nf SA SI SC na2 ni2 dy2 vl2 db2 kv = u ∧ r = u.1) (fun u => ([rhW rh cs tr cm ps rs, scW cI cC ad cs ck cn Cf Nf len vb pos, svW tr u1 u2 u3 b1 b2 b3 cI u.2.1 u.2.2.1 u.2.2.2.1 u.2.2.2.2.1 ni2 u.2.2.2.2.2 vl2 db2] : List va_W).flatten) Fr) (cc := cX3_answerOf) (maxL := 5) (ret := (some .int)) (own := RX3) (lv := [(0, .ref rh), (1, .ref (ad kv))]) (by decide) rfl rfl (Nat.le_of_ble_eq_true rfl) rfl ?_
  intro p e s m below meth c Fr ls hx hb hr hts hown hml hlk hin hP hK hD hS hA hAe hsz hX hl
  have w_1 := hts (.fieldLink RX3 9 "FieldQuotas$Rehearsal" "script" "LFieldQuotas$Script;") (List.mem_of_getElem? (i := 1) rfl)
  have w_2 := sub_r (big := wsX3_answerOf) (u_ws RX3 TX3 5) [123, 124, 125, 126, 127] rfl
  have w_3 := hts (.fieldLink RX3 60 "FieldQuotas$1" "$SwitchMap$FieldQuotas$Verb" "[I") (List.mem_of_getElem? (i := 2) rfl)
  have w_4 := hts (.fieldLink RX3 18 "FieldQuotas$Rehearsal" "trial" "LFieldQuotas$Survey;") (List.mem_of_getElem? (i := 3) rfl)
  have hE : wE ad adK adV tV tS Fr s s.heap := by rw [hAe]; exact hX.1
  refine lv_aload_n hx hb dX3_answerOf_0 rfl (lv_at hl 1 rfl) ?_
  refine lv_ifnonnull (tgt := 7) hx hb dX3_answerOf_1 (by decide) ?_
  refine lv_aload_n hx hb dX3_answerOf_7 rfl (lv_at hl 0 rfl) ?_
  refine va_get (D := D) (ci := 2) (C := RX3) (T := TX3) (N := 5) hx hb hts w_2 hown hK hP 0 rfl rfl 0 (by decide) w_1 (fun _ h9 => h9) rfl dX3_answerOf_8 ?_
  refine lv_iconst (v := 0) hx hb dX3_answerOf_11 (by decide) ?_
  refine scallVi (As := [.int 0]) (rest := []) (sX4_number l D cI cC cS _ cs ck cn ad Cf Nf len vb pos 0) ⟨hx, hb, hml, hown, hts⟩ (cwV 1 hts gX3_answerOf_X4_number rfl rfl rfl (by decide +kernel) ⟨Nat.le_of_ble_eq_true rfl, Nat.le_of_ble_eq_true rfl⟩) wN_blind (fun _ _ hW => wN_warm hW hX.2) hP hK hD hS hA hl [1] rfl rfl 0 3 rfl rfl rfl rfl rfl (Nat.le_of_ble_eq_true rfl) dX3_answerOf_12 ⟨Nat.zero_le _, Nat.zero_le _⟩ (fun _ => rfl) (fun u_ H locs hk2 hP hD hS => ?_)
  obtain ⟨r_2, e_r_2⟩ : ∃ z, z = u_ := ⟨_, rfl⟩
  subst e_r_2
  have hP : va_P D vwCl ([rhW rh cs tr cm ps rs, scW cI cC ad cs ck cn Cf Nf len vb pos, svW tr u1 u2 u3 b1 b2 b3 cI SA SI SC na2 ni2 dy2 vl2 db2] : List va_W).flatten H := hP
  have hD : va_D Fr ([rhW rh cs tr cm ps rs, scW cI cC ad cs ck cn Cf Nf len vb pos, svW tr u1 u2 u3 b1 b2 b3 cI SA SI SC na2 ni2 dy2 vl2 db2] : List va_W).flatten := hD
  refine W.eq (g2 := F0 m 15 ls [.int r_2]) rfl ?_
  refine lv_istore_n (lv' := [(2, .int r_2), (0, .ref rh), (1, .ref (ad kv))]) hx hb dX3_answerOf_15 rfl hl (by decide) rfl (fun ls hl => ?_)
  refine lv_aload_n hx hb dX3_answerOf_16 rfl (lv_at hl 1 rfl) ?_
  refine va_get (D := D) (ci := 2) (C := RX3) (T := TX3) (N := 5) hx hb hts w_2 hown hK hP 0 rfl rfl 0 (by decide) w_1 (fun _ h9 => h9) rfl dX3_answerOf_17 ?_
  refine lv_iconst (v := 1) hx hb dX3_answerOf_20 (by decide) ?_
  refine scallVi (As := [.int 1]) (rest := []) (sX4_number l D cI cC cS _ cs ck cn ad Cf Nf len vb pos 1) ⟨hx, hb, hml, hown, hts⟩ (cwV 1 hts gX3_answerOf_X4_number rfl rfl rfl (by decide +kernel) ⟨Nat.le_of_ble_eq_true rfl, Nat.le_of_ble_eq_true rfl⟩) wN_blind (fun _ _ hW => wN_warm hW hX.2) hP hK hD hS hA hl [1] rfl rfl 0 3 rfl rfl rfl rfl rfl (Nat.le_of_ble_eq_true rfl) dX3_answerOf_21 ⟨Nat.zero_le _, Nat.zero_le _⟩ (fun _ => rfl) (fun u_ H locs hk4 hP hD hS => ?_)
  obtain ⟨r_4, e_r_4⟩ : ∃ z, z = u_ := ⟨_, rfl⟩
  subst e_r_4
  have hP : va_P D vwCl ([rhW rh cs tr cm ps rs, scW cI cC ad cs ck cn Cf Nf len vb pos, svW tr u1 u2 u3 b1 b2 b3 cI SA SI SC na2 ni2 dy2 vl2 db2] : List va_W).flatten H := hP
  have hD : va_D Fr ([rhW rh cs tr cm ps rs, scW cI cC ad cs ck cn Cf Nf len vb pos, svW tr u1 u2 u3 b1 b2 b3 cI SA SI SC na2 ni2 dy2 vl2 db2] : List va_W).flatten := hD
  refine W.eq (g2 := F0 m 24 ls [.int r_4]) rfl ?_
  refine lv_istore_n (lv' := [(3, .int r_4), (2, .int r_2), (0, .ref rh), (1, .ref (ad kv))]) hx hb dX3_answerOf_24 rfl hl (by decide) rfl (fun ls hl => ?_)
  refine lv_aload_n hx hb dX3_answerOf_25 rfl (lv_at hl 2 rfl) ?_
  refine va_get (D := D) (ci := 2) (C := RX3) (T := TX3) (N := 5) hx hb hts w_2 hown hK hP 0 rfl rfl 0 (by decide) w_1 (fun _ h9 => h9) rfl dX3_answerOf_26 ?_
  refine lv_iconst (v := 2) hx hb dX3_answerOf_29 (by decide) ?_
  refine scallVi (As := [.int 2]) (rest := []) (sX4_number l D cI cC cS _ cs ck cn ad Cf Nf len vb pos 2) ⟨hx, hb, hml, hown, hts⟩ (cwV 1 hts gX3_answerOf_X4_number rfl rfl rfl (by decide +kernel) ⟨Nat.le_of_ble_eq_true rfl, Nat.le_of_ble_eq_true rfl⟩) wN_blind (fun _ _ hW => wN_warm hW hX.2) hP hK hD hS hA hl [1] rfl rfl 0 3 rfl rfl rfl rfl rfl (Nat.le_of_ble_eq_true rfl) dX3_answerOf_30 ⟨Nat.zero_le _, Nat.zero_le _⟩ (fun _ => rfl) (fun u_ H locs hk6 hP hD hS => ?_)
  obtain ⟨r_6, e_r_6⟩ : ∃ z, z = u_ := ⟨_, rfl⟩
  subst e_r_6
  have hP : va_P D vwCl ([rhW rh cs tr cm ps rs, scW cI cC ad cs ck cn Cf Nf len vb pos, svW tr u1 u2 u3 b1 b2 b3 cI SA SI SC na2 ni2 dy2 vl2 db2] : List va_W).flatten H := hP
  have hD : va_D Fr ([rhW rh cs tr cm ps rs, scW cI cC ad cs ck cn Cf Nf len vb pos, svW tr u1 u2 u3 b1 b2 b3 cI SA SI SC na2 ni2 dy2 vl2 db2] : List va_W).flatten := hD
  refine W.eq (g2 := F0 m 33 ls [.int r_6]) rfl ?_
  refine lv_istore (lv' := [(4, .int r_6), (3, .int r_4), (2, .int r_2), (0, .ref rh), (1, .ref (ad kv))]) hx hb dX3_answerOf_33 hl (by decide) rfl (fun ls hl => ?_)
  refine va_gets hx hb hE.2.2.2.2.2.2.2.2.2.1 hS hown w_3 (fun _ h9 => h9) dX3_answerOf_35 ?_
  refine lv_aload_n hx hb dX3_answerOf_38 rfl (lv_at hl 4 rfl) ?_
  refine callJw (As := []) (rest := [.ref tS]) (bJx29ce0_ordinal hx ⟨Nat.le_of_ble_eq_true rfl, Nat.le_of_ble_eq_true rfl⟩ (pay_in hts ggX3_answerOf_Jx29ce0_ordinal_8abf5) D cI cC cS _ ad adK adV tV tS kv h7) ⟨hx, hb, hml, hown, hts⟩ gX3_answerOf_Jx29ce0_ordinal_8abf5_u66X7 rfl rfl (by decide +kernel) wX_blind (wX_warm hE hX.2 hS (va_free (wc := []) hD hS hA [] rfl)) (recvO (hE.2.2.2.2.2.2.2.2.1 _ h7) hS) hP hK hD hS hA hl rfl rfl (Nat.le_of_ble_eq_true rfl) dX3_answerOf_39 ⟨Nat.zero_le _, Nat.zero_le _⟩ (fun u_ H locs hk7 hP hS => ?_)
  subst hk7
  refine W.eq (g2 := F0 m 42 ls [.int (Int32.ofNat kv), .ref tS]) rfl ?_
  refine va_ti hx hb hE.2.2.2.2.2.2.2.2.2.2 hS (vp_n7 h7) rfl dX3_answerOf_42 ?_
  refine W.eq (g2 := F0 m 43 ls [.int (Int32.ofNat ((Int32.ofNat kv).toNatClampNeg + 1))]) rfl ?_
  by_cases c43_1 : Int32.ofNat ((Int32.ofNat kv).toNatClampNeg + 1) = 1
  · refine lv_tableIn (tgt := 84) hx hb dX3_answerOf_43 (by rw [c43_1]; decide) (by rw [c43_1]; decide) (by rw [c43_1]; rfl) (by decide) ?_
    refine lv_aload_n hx hb dX3_answerOf_84 rfl (lv_at hl 3 rfl) ?_
    refine va_get (D := D) (ci := 2) (C := RX3) (T := TX3) (N := 5) hx hb hts w_2 hown hK hP 0 rfl rfl 1 (by decide) w_4 (fun _ h9 => h9) rfl dX3_answerOf_85 ?_
    refine lv_iload_n hx hb dX3_answerOf_88 rfl (lv_at hl 2 rfl) ?_
    refine scallVi (As := [.int r_2]) (rest := []) (sX5_addAddress l D cI cC cS _ tr u1 u2 u3 b1 b2 b3 SA SI SC na2 ni2 dy2 vl2 db2 r_2) ⟨hx, hb, hml, hown, hts⟩ (cwV 1 hts gX3_answerOf_X5_addAddress rfl rfl rfl (by decide +kernel) ⟨Nat.le_of_ble_eq_true rfl, Nat.le_of_ble_eq_true rfl⟩) wN_blind (fun _ _ hW => wN_warm hW hX.2) hP hK hD hS hA hl [2] rfl rfl 0 4 rfl rfl rfl rfl rfl (Nat.le_of_ble_eq_true rfl) dX3_answerOf_89 ⟨Nat.zero_le _, Nat.zero_le _⟩ (fun _ => rfl) (fun u_ H locs hk11 hP hD hS => ?_)
    obtain ⟨r_9, u_10, u_11⟩ := u_
    have hP : va_P D vwCl ([rhW rh cs tr cm ps rs, scW cI cC ad cs ck cn Cf Nf len vb pos, svW tr u1 u2 u3 b1 b2 b3 cI u_10 SI SC u_11 ni2 dy2 vl2 db2] : List va_W).flatten H := hP
    have hD : va_D Fr ([rhW rh cs tr cm ps rs, scW cI cC ad cs ck cn Cf Nf len vb pos, svW tr u1 u2 u3 b1 b2 b3 cI u_10 SI SC u_11 ni2 dy2 vl2 db2] : List va_W).flatten := hD
    refine W.eq (g2 := F0 m 92 ls [.int r_9]) rfl ?_
    exact endI hx hb hr hlk hP hK hD hS dX3_answerOf_92 (r_9, u_10, SI, SC, u_11, dy2) rfl ⟨(bd1_e hk2).trans ((bd1_e hk4).trans ((bd1_e hk6).trans ((if_pos c43_1).trans ((bd3_e hk11).trans rfl)))), rfl⟩
  by_cases c43_2 : Int32.ofNat ((Int32.ofNat kv).toNatClampNeg + 1) = 2
  · refine lv_tableIn (tgt := 93) hx hb dX3_answerOf_43 (by rw [c43_2]; decide) (by rw [c43_2]; decide) (by rw [c43_2]; rfl) (by decide) ?_
    refine lv_aload_n hx hb dX3_answerOf_93 rfl (lv_at hl 3 rfl) ?_
    refine va_get (D := D) (ci := 2) (C := RX3) (T := TX3) (N := 5) hx hb hts w_2 hown hK hP 0 rfl rfl 1 (by decide) w_4 (fun _ h9 => h9) rfl dX3_answerOf_94 ?_
    refine lv_iload_n hx hb dX3_answerOf_97 rfl (lv_at hl 2 rfl) ?_
    refine lv_iload_n hx hb dX3_answerOf_98 rfl (lv_at hl 1 rfl) ?_
    refine lv_iload hx hb dX3_answerOf_99 (lv_at hl 0 rfl) ?_
    refine scallVi (As := [.int r_2, .int r_4, .int r_6]) (rest := []) (sX5_changeQuota l D cI cC cS _ tr u1 u2 u3 b1 b2 b3 SA SI SC na2 ni2 dy2 vl2 db2 r_2 r_4 r_6) ⟨hx, hb, hml, hown, hts⟩ (cwV 3 hts gX3_answerOf_X5_changeQuota rfl rfl rfl (by decide +kernel) ⟨Nat.le_of_ble_eq_true rfl, Nat.le_of_ble_eq_true rfl⟩) wN_blind (fun _ _ hW => wN_warm hW hX.2) hP hK hD hS hA hl [2] rfl rfl 0 4 rfl rfl rfl rfl rfl (Nat.le_of_ble_eq_true rfl) dX3_answerOf_101 ⟨Nat.zero_le _, Nat.zero_le _⟩ (fun _ => rfl) (fun u_ H locs hk14 hP hD hS => ?_)
    obtain ⟨r_13, u_14⟩ := u_
    have hP : va_P D vwCl ([rhW rh cs tr cm ps rs, scW cI cC ad cs ck cn Cf Nf len vb pos, svW tr u1 u2 u3 b1 b2 b3 cI SA SI u_14 na2 ni2 dy2 vl2 db2] : List va_W).flatten H := hP
    have hD : va_D Fr ([rhW rh cs tr cm ps rs, scW cI cC ad cs ck cn Cf Nf len vb pos, svW tr u1 u2 u3 b1 b2 b3 cI SA SI u_14 na2 ni2 dy2 vl2 db2] : List va_W).flatten := hD
    refine W.eq (g2 := F0 m 104 ls [.int r_13]) rfl ?_
    exact endI hx hb hr hlk hP hK hD hS dX3_answerOf_104 (r_13, SA, SI, u_14, na2, dy2) rfl ⟨(bd1_e hk2).trans ((bd1_e hk4).trans ((bd1_e hk6).trans ((if_neg c43_1).trans ((if_pos c43_2).trans ((bd2_e hk14).trans rfl))))), rfl⟩
  by_cases c43_3 : Int32.ofNat ((Int32.ofNat kv).toNatClampNeg + 1) = 3
  · refine lv_tableIn (tgt := 105) hx hb dX3_answerOf_43 (by rw [c43_3]; decide) (by rw [c43_3]; decide) (by rw [c43_3]; rfl) (by decide) ?_
    refine lv_aload_n hx hb dX3_answerOf_105 rfl (lv_at hl 3 rfl) ?_
    refine va_get (D := D) (ci := 2) (C := RX3) (T := TX3) (N := 5) hx hb hts w_2 hown hK hP 0 rfl rfl 1 (by decide) w_4 (fun _ h9 => h9) rfl dX3_answerOf_106 ?_
    refine lv_iload_n hx hb dX3_answerOf_109 rfl (lv_at hl 2 rfl) ?_
    refine lv_iload_n hx hb dX3_answerOf_110 rfl (lv_at hl 1 rfl) ?_
    refine lv_iload hx hb dX3_answerOf_111 (lv_at hl 0 rfl) ?_
    refine lv_iconst (v := 0) hx hb dX3_answerOf_113 (by decide) ?_
    refine scallVi (As := [.int r_2, .int r_4, .int r_6, .int 0]) (rest := []) (sX5_makeCall l D cI cC cS _ tr u1 u2 u3 b1 b2 b3 SA SI SC na2 ni2 dy2 vl2 db2 r_2 r_4 r_6 0) ⟨hx, hb, hml, hown, hts⟩ (cwV 4 hts gX3_answerOf_X5_makeCall rfl rfl rfl (by decide +kernel) ⟨Nat.le_of_ble_eq_true rfl, Nat.le_of_ble_eq_true rfl⟩) wN_blind (fun _ _ hW => wN_warm hW hX.2) hP hK hD hS hA hl [2] rfl rfl 0 4 rfl rfl rfl rfl rfl (Nat.le_of_ble_eq_true rfl) dX3_answerOf_114 ⟨Nat.zero_le _, Nat.zero_le _⟩ (fun _ => rfl) (fun u_ H locs hk19 hP hD hS => ?_)
    obtain ⟨r_16, u_17, u_18, u_19⟩ := u_
    have hP : va_P D vwCl ([rhW rh cs tr cm ps rs, scW cI cC ad cs ck cn Cf Nf len vb pos, svW tr u1 u2 u3 b1 b2 b3 cI u_17 u_18 u_19 na2 ni2 dy2 vl2 db2] : List va_W).flatten H := hP
    have hD : va_D Fr ([rhW rh cs tr cm ps rs, scW cI cC ad cs ck cn Cf Nf len vb pos, svW tr u1 u2 u3 b1 b2 b3 cI u_17 u_18 u_19 na2 ni2 dy2 vl2 db2] : List va_W).flatten := hD
    refine W.eq (g2 := F0 m 117 ls [.int r_16]) rfl ?_
    exact endI hx hb hr hlk hP hK hD hS dX3_answerOf_117 (r_16, u_17, u_18, u_19, na2, dy2) rfl ⟨(bd1_e hk2).trans ((bd1_e hk4).trans ((bd1_e hk6).trans ((if_neg c43_1).trans ((if_neg c43_2).trans ((if_pos c43_3).trans ((bd4_e hk19).trans rfl)))))), rfl⟩
  by_cases c43_4 : Int32.ofNat ((Int32.ofNat kv).toNatClampNeg + 1) = 4
  · refine lv_tableIn (tgt := 118) hx hb dX3_answerOf_43 (by rw [c43_4]; decide) (by rw [c43_4]; decide) (by rw [c43_4]; rfl) (by decide) ?_
    refine lv_aload_n hx hb dX3_answerOf_118 rfl (lv_at hl 3 rfl) ?_
    refine va_get (D := D) (ci := 2) (C := RX3) (T := TX3) (N := 5) hx hb hts w_2 hown hK hP 0 rfl rfl 1 (by decide) w_4 (fun _ h9 => h9) rfl dX3_answerOf_119 ?_
    refine lv_iload_n hx hb dX3_answerOf_122 rfl (lv_at hl 2 rfl) ?_
    refine lv_iload_n hx hb dX3_answerOf_123 rfl (lv_at hl 1 rfl) ?_
    refine lv_iload hx hb dX3_answerOf_124 (lv_at hl 0 rfl) ?_
    refine lv_iconst (v := 1) hx hb dX3_answerOf_126 (by decide) ?_
    refine scallVi (As := [.int r_2, .int r_4, .int r_6, .int 1]) (rest := []) (sX5_makeCall l D cI cC cS _ tr u1 u2 u3 b1 b2 b3 SA SI SC na2 ni2 dy2 vl2 db2 r_2 r_4 r_6 1) ⟨hx, hb, hml, hown, hts⟩ (cwV 4 hts gX3_answerOf_X5_makeCall rfl rfl rfl (by decide +kernel) ⟨Nat.le_of_ble_eq_true rfl, Nat.le_of_ble_eq_true rfl⟩) wN_blind (fun _ _ hW => wN_warm hW hX.2) hP hK hD hS hA hl [2] rfl rfl 0 4 rfl rfl rfl rfl rfl (Nat.le_of_ble_eq_true rfl) dX3_answerOf_127 ⟨Nat.zero_le _, Nat.zero_le _⟩ (fun _ => rfl) (fun u_ H locs hk24 hP hD hS => ?_)
    obtain ⟨r_21, u_22, u_23, u_24⟩ := u_
    have hP : va_P D vwCl ([rhW rh cs tr cm ps rs, scW cI cC ad cs ck cn Cf Nf len vb pos, svW tr u1 u2 u3 b1 b2 b3 cI u_22 u_23 u_24 na2 ni2 dy2 vl2 db2] : List va_W).flatten H := hP
    have hD : va_D Fr ([rhW rh cs tr cm ps rs, scW cI cC ad cs ck cn Cf Nf len vb pos, svW tr u1 u2 u3 b1 b2 b3 cI u_22 u_23 u_24 na2 ni2 dy2 vl2 db2] : List va_W).flatten := hD
    refine W.eq (g2 := F0 m 130 ls [.int r_21]) rfl ?_
    exact endI hx hb hr hlk hP hK hD hS dX3_answerOf_130 (r_21, u_22, u_23, u_24, na2, dy2) rfl ⟨(bd1_e hk2).trans ((bd1_e hk4).trans ((bd1_e hk6).trans ((if_neg c43_1).trans ((if_neg c43_2).trans ((if_neg c43_3).trans ((if_pos c43_4).trans ((bd4_e hk24).trans rfl))))))), rfl⟩
  by_cases c43_5 : Int32.ofNat ((Int32.ofNat kv).toNatClampNeg + 1) = 5
  · refine lv_tableIn (tgt := 131) hx hb dX3_answerOf_43 (by rw [c43_5]; decide) (by rw [c43_5]; decide) (by rw [c43_5]; rfl) (by decide) ?_
    refine lv_aload_n hx hb dX3_answerOf_131 rfl (lv_at hl 3 rfl) ?_
    refine va_get (D := D) (ci := 2) (C := RX3) (T := TX3) (N := 5) hx hb hts w_2 hown hK hP 0 rfl rfl 1 (by decide) w_4 (fun _ h9 => h9) rfl dX3_answerOf_132 ?_
    refine lv_iload_n hx hb dX3_answerOf_135 rfl (lv_at hl 2 rfl) ?_
    refine lv_iload_n hx hb dX3_answerOf_136 rfl (lv_at hl 1 rfl) ?_
    refine lv_iload hx hb dX3_answerOf_137 (lv_at hl 0 rfl) ?_
    refine lv_iconst (v := 2) hx hb dX3_answerOf_139 (by decide) ?_
    refine lv_aload_n hx hb dX3_answerOf_140 rfl (lv_at hl 3 rfl) ?_
    refine va_get (D := D) (ci := 2) (C := RX3) (T := TX3) (N := 5) hx hb hts w_2 hown hK hP 0 rfl rfl 0 (by decide) w_1 (fun _ h9 => h9) rfl dX3_answerOf_141 ?_
    refine lv_iconst (v := 3) hx hb dX3_answerOf_144 (by decide) ?_
    refine scallVi (As := [.int 3]) (rest := [.int 2, .int r_6, .int r_4, .int r_2, .ref tr]) (sX4_number l D cI cC cS _ cs ck cn ad Cf Nf len vb pos 3) ⟨hx, hb, hml, hown, hts⟩ (cwV 1 hts gX3_answerOf_X4_number rfl rfl rfl (by decide +kernel) ⟨Nat.le_of_ble_eq_true rfl, Nat.le_of_ble_eq_true rfl⟩) wN_blind (fun _ _ hW => wN_warm hW hX.2) hP hK hD hS hA hl [1] rfl rfl 0 3 rfl rfl rfl rfl rfl (Nat.le_of_ble_eq_true rfl) dX3_answerOf_145 ⟨Nat.zero_le _, Nat.zero_le _⟩ (fun _ => rfl) (fun u_ H locs hk26 hP hD hS => ?_)
    obtain ⟨r_26, e_r_26⟩ : ∃ z, z = u_ := ⟨_, rfl⟩
    subst e_r_26
    have hP : va_P D vwCl ([rhW rh cs tr cm ps rs, scW cI cC ad cs ck cn Cf Nf len vb pos, svW tr u1 u2 u3 b1 b2 b3 cI SA SI SC na2 ni2 dy2 vl2 db2] : List va_W).flatten H := hP
    have hD : va_D Fr ([rhW rh cs tr cm ps rs, scW cI cC ad cs ck cn Cf Nf len vb pos, svW tr u1 u2 u3 b1 b2 b3 cI SA SI SC na2 ni2 dy2 vl2 db2] : List va_W).flatten := hD
    refine W.eq (g2 := F0 m 148 ls [.int r_26, .int 2, .int r_6, .int r_4, .int r_2, .ref tr]) rfl ?_
    refine lv_iadd hx hb dX3_answerOf_148 ?_
    refine scallVi (As := [.int r_2, .int r_4, .int r_6, .int (2 + r_26)]) (rest := []) (sX5_makeCall l D cI cC cS _ tr u1 u2 u3 b1 b2 b3 SA SI SC na2 ni2 dy2 vl2 db2 r_2 r_4 r_6 (2 + r_26)) ⟨hx, hb, hml, hown, hts⟩ (cwV 4 hts gX3_answerOf_X5_makeCall rfl rfl rfl (by decide +kernel) ⟨Nat.le_of_ble_eq_true rfl, Nat.le_of_ble_eq_true rfl⟩) wN_blind (fun _ _ hW => wN_warm hW hX.2) hP hK hD hS hA hl [2] rfl rfl 0 4 rfl rfl rfl rfl rfl (Nat.le_of_ble_eq_true rfl) dX3_answerOf_149 ⟨Nat.zero_le _, Nat.zero_le _⟩ (fun _ => rfl) (fun u_ H locs hk31 hP hD hS => ?_)
    obtain ⟨r_28, u_29, u_30, u_31⟩ := u_
    have hP : va_P D vwCl ([rhW rh cs tr cm ps rs, scW cI cC ad cs ck cn Cf Nf len vb pos, svW tr u1 u2 u3 b1 b2 b3 cI u_29 u_30 u_31 na2 ni2 dy2 vl2 db2] : List va_W).flatten H := hP
    have hD : va_D Fr ([rhW rh cs tr cm ps rs, scW cI cC ad cs ck cn Cf Nf len vb pos, svW tr u1 u2 u3 b1 b2 b3 cI u_29 u_30 u_31 na2 ni2 dy2 vl2 db2] : List va_W).flatten := hD
    refine W.eq (g2 := F0 m 152 ls [.int r_28]) rfl ?_
    exact endI hx hb hr hlk hP hK hD hS dX3_answerOf_152 (r_28, u_29, u_30, u_31, na2, dy2) rfl ⟨(bd1_e hk2).trans ((bd1_e hk4).trans ((bd1_e hk6).trans ((if_neg c43_1).trans ((if_neg c43_2).trans ((if_neg c43_3).trans ((if_neg c43_4).trans ((if_pos c43_5).trans ((bd1_e hk26).trans ((bd4_e hk31).trans rfl))))))))), rfl⟩
  by_cases c43_6 : Int32.ofNat ((Int32.ofNat kv).toNatClampNeg + 1) = 6
  · refine lv_tableIn (tgt := 153) hx hb dX3_answerOf_43 (by rw [c43_6]; decide) (by rw [c43_6]; decide) (by rw [c43_6]; rfl) (by decide) ?_
    refine lv_aload_n hx hb dX3_answerOf_153 rfl (lv_at hl 3 rfl) ?_
    refine va_get (D := D) (ci := 2) (C := RX3) (T := TX3) (N := 5) hx hb hts w_2 hown hK hP 0 rfl rfl 1 (by decide) w_4 (fun _ h9 => h9) rfl dX3_answerOf_154 ?_
    refine lv_iload_n hx hb dX3_answerOf_157 rfl (lv_at hl 2 rfl) ?_
    refine lv_iload_n hx hb dX3_answerOf_158 rfl (lv_at hl 1 rfl) ?_
    refine lv_iload hx hb dX3_answerOf_159 (lv_at hl 0 rfl) ?_
    refine lv_aload_n hx hb dX3_answerOf_161 rfl (lv_at hl 3 rfl) ?_
    refine va_get (D := D) (ci := 2) (C := RX3) (T := TX3) (N := 5) hx hb hts w_2 hown hK hP 0 rfl rfl 0 (by decide) w_1 (fun _ h9 => h9) rfl dX3_answerOf_162 ?_
    refine lv_iconst (v := 3) hx hb dX3_answerOf_165 (by decide) ?_
    refine scallVi (As := [.int 3]) (rest := [.int r_6, .int r_4, .int r_2, .ref tr]) (sX4_number l D cI cC cS _ cs ck cn ad Cf Nf len vb pos 3) ⟨hx, hb, hml, hown, hts⟩ (cwV 1 hts gX3_answerOf_X4_number rfl rfl rfl (by decide +kernel) ⟨Nat.le_of_ble_eq_true rfl, Nat.le_of_ble_eq_true rfl⟩) wN_blind (fun _ _ hW => wN_warm hW hX.2) hP hK hD hS hA hl [1] rfl rfl 0 3 rfl rfl rfl rfl rfl (Nat.le_of_ble_eq_true rfl) dX3_answerOf_166 ⟨Nat.zero_le _, Nat.zero_le _⟩ (fun _ => rfl) (fun u_ H locs hk33 hP hD hS => ?_)
    obtain ⟨r_33, e_r_33⟩ : ∃ z, z = u_ := ⟨_, rfl⟩
    subst e_r_33
    have hP : va_P D vwCl ([rhW rh cs tr cm ps rs, scW cI cC ad cs ck cn Cf Nf len vb pos, svW tr u1 u2 u3 b1 b2 b3 cI SA SI SC na2 ni2 dy2 vl2 db2] : List va_W).flatten H := hP
    have hD : va_D Fr ([rhW rh cs tr cm ps rs, scW cI cC ad cs ck cn Cf Nf len vb pos, svW tr u1 u2 u3 b1 b2 b3 cI SA SI SC na2 ni2 dy2 vl2 db2] : List va_W).flatten := hD
    refine W.eq (g2 := F0 m 169 ls [.int r_33, .int r_6, .int r_4, .int r_2, .ref tr]) rfl ?_
    refine lv_aload_n hx hb dX3_answerOf_169 rfl (lv_at hl 3 rfl) ?_
    refine va_get (D := D) (ci := 2) (C := RX3) (T := TX3) (N := 5) hx hb hts w_2 hown hK hP 0 rfl rfl 0 (by decide) w_1 (fun _ h9 => h9) rfl dX3_answerOf_170 ?_
    refine lv_iconst (v := 4) hx hb dX3_answerOf_173 (by decide) ?_
    refine scallVi (As := [.int 4]) (rest := [.int r_33, .int r_6, .int r_4, .int r_2, .ref tr]) (sX4_number l D cI cC cS _ cs ck cn ad Cf Nf len vb pos 4) ⟨hx, hb, hml, hown, hts⟩ (cwV 1 hts gX3_answerOf_X4_number rfl rfl rfl (by decide +kernel) ⟨Nat.le_of_ble_eq_true rfl, Nat.le_of_ble_eq_true rfl⟩) wN_blind (fun _ _ hW => wN_warm hW hX.2) hP hK hD hS hA hl [1] rfl rfl 0 3 rfl rfl rfl rfl rfl (Nat.le_of_ble_eq_true rfl) dX3_answerOf_174 ⟨Nat.zero_le _, Nat.zero_le _⟩ (fun _ => rfl) (fun u_ H locs hk35 hP hD hS => ?_)
    obtain ⟨r_35, e_r_35⟩ : ∃ z, z = u_ := ⟨_, rfl⟩
    subst e_r_35
    have hP : va_P D vwCl ([rhW rh cs tr cm ps rs, scW cI cC ad cs ck cn Cf Nf len vb pos, svW tr u1 u2 u3 b1 b2 b3 cI SA SI SC na2 ni2 dy2 vl2 db2] : List va_W).flatten H := hP
    have hD : va_D Fr ([rhW rh cs tr cm ps rs, scW cI cC ad cs ck cn Cf Nf len vb pos, svW tr u1 u2 u3 b1 b2 b3 cI SA SI SC na2 ni2 dy2 vl2 db2] : List va_W).flatten := hD
    refine W.eq (g2 := F0 m 177 ls [.int r_35, .int r_33, .int r_6, .int r_4, .int r_2, .ref tr]) rfl ?_
    refine scallVi (As := [.int r_2, .int r_4, .int r_6, .int r_33, .int r_35]) (rest := []) (sX5_makeMeeting l D cI cC cS _ tr u1 u2 u3 b1 b2 b3 SA SI SC na2 ni2 dy2 vl2 db2 r_2 r_4 r_6 r_33 r_35) ⟨hx, hb, hml, hown, hts⟩ (cwV 5 hts gX3_answerOf_X5_makeMeeting rfl rfl rfl (by decide +kernel) ⟨Nat.le_of_ble_eq_true rfl, Nat.le_of_ble_eq_true rfl⟩) wN_blind (fun _ _ hW => wN_warm hW hX.2) hP hK hD hS hA hl [2] rfl rfl 0 4 rfl rfl rfl rfl rfl (Nat.le_of_ble_eq_true rfl) dX3_answerOf_177 ⟨Nat.zero_le _, Nat.zero_le _⟩ (fun _ => rfl) (fun u_ H locs hk39 hP hD hS => ?_)
    obtain ⟨r_37, u_38, u_39⟩ := u_
    have hP : va_P D vwCl ([rhW rh cs tr cm ps rs, scW cI cC ad cs ck cn Cf Nf len vb pos, svW tr u1 u2 u3 b1 b2 b3 cI u_38 u_39 SC na2 ni2 dy2 vl2 db2] : List va_W).flatten H := hP
    have hD : va_D Fr ([rhW rh cs tr cm ps rs, scW cI cC ad cs ck cn Cf Nf len vb pos, svW tr u1 u2 u3 b1 b2 b3 cI u_38 u_39 SC na2 ni2 dy2 vl2 db2] : List va_W).flatten := hD
    refine W.eq (g2 := F0 m 180 ls [.int r_37]) rfl ?_
    exact endI hx hb hr hlk hP hK hD hS dX3_answerOf_180 (r_37, u_38, u_39, SC, na2, dy2) rfl ⟨(bd1_e hk2).trans ((bd1_e hk4).trans ((bd1_e hk6).trans ((if_neg c43_1).trans ((if_neg c43_2).trans ((if_neg c43_3).trans ((if_neg c43_4).trans ((if_neg c43_5).trans ((if_pos c43_6).trans ((bd1_e hk33).trans ((bd1_e hk35).trans ((bd3_e hk39).trans rfl))))))))))), rfl⟩
  by_cases c43_7 : Int32.ofNat ((Int32.ofNat kv).toNatClampNeg + 1) = 7
  · refine lv_tableIn (tgt := 181) hx hb dX3_answerOf_43 (by rw [c43_7]; decide) (by rw [c43_7]; decide) (by rw [c43_7]; rfl) (by decide) ?_
    refine lv_aload_n hx hb dX3_answerOf_181 rfl (lv_at hl 3 rfl) ?_
    refine va_get (D := D) (ci := 2) (C := RX3) (T := TX3) (N := 5) hx hb hts w_2 hown hK hP 0 rfl rfl 1 (by decide) w_4 (fun _ h9 => h9) rfl dX3_answerOf_182 ?_
    refine lv_iload_n hx hb dX3_answerOf_185 rfl (lv_at hl 2 rfl) ?_
    refine scallVi (As := [.int r_2]) (rest := []) (sX5_passDays l D cI cC cS _ tr u1 u2 u3 b1 b2 b3 SA SI SC na2 ni2 dy2 vl2 db2 r_2) ⟨hx, hb, hml, hown, hts⟩ (cwV 1 hts gX3_answerOf_X5_passDays rfl rfl rfl (by decide +kernel) ⟨Nat.le_of_ble_eq_true rfl, Nat.le_of_ble_eq_true rfl⟩) wN_blind (fun _ _ hW => wN_warm hW hX.2) hP hK hD hS hA hl [2] rfl rfl 0 4 rfl rfl rfl rfl rfl (Nat.le_of_ble_eq_true rfl) dX3_answerOf_186 ⟨Nat.zero_le _, Nat.zero_le _⟩ (fun _ => rfl) (fun u_ H locs hk43 hP hD hS => ?_)
    obtain ⟨r_41, u_42, u_43⟩ := u_
    have hP : va_P D vwCl ([rhW rh cs tr cm ps rs, scW cI cC ad cs ck cn Cf Nf len vb pos, svW tr u1 u2 u3 b1 b2 b3 cI SA u_42 SC na2 ni2 u_43 vl2 db2] : List va_W).flatten H := hP
    have hD : va_D Fr ([rhW rh cs tr cm ps rs, scW cI cC ad cs ck cn Cf Nf len vb pos, svW tr u1 u2 u3 b1 b2 b3 cI SA u_42 SC na2 ni2 u_43 vl2 db2] : List va_W).flatten := hD
    refine W.eq (g2 := F0 m 189 ls [.int r_41]) rfl ?_
    exact endI hx hb hr hlk hP hK hD hS dX3_answerOf_189 (r_41, SA, u_42, SC, na2, u_43) rfl ⟨(bd1_e hk2).trans ((bd1_e hk4).trans ((bd1_e hk6).trans ((if_neg c43_1).trans ((if_neg c43_2).trans ((if_neg c43_3).trans ((if_neg c43_4).trans ((if_neg c43_5).trans ((if_neg c43_6).trans ((if_pos c43_7).trans ((bd3_e hk43).trans rfl)))))))))), rfl⟩
  refine lv_tableOut (tgt := 190) hx hb dX3_answerOf_43 (tab_out (lo := 1) (hi := 7) (by decide) (fun k kk1 kk2 => ?_)) (by decide) ?_
  · rcases (show k = 1 ∨ k = 2 ∨ k = 3 ∨ k = 4 ∨ k = 5 ∨ k = 6 ∨ k = 7 by omega) with rfl | rfl | rfl | rfl | rfl | rfl | rfl
    · exact ne_ti c43_1 (by decide)
    · exact ne_ti c43_2 (by decide)
    · exact ne_ti c43_3 (by decide)
    · exact ne_ti c43_4 (by decide)
    · exact ne_ti c43_5 (by decide)
    · exact ne_ti c43_6 (by decide)
    · exact ne_ti c43_7 (by decide)
  refine lv_bipush (v := (-2)) hx hb dX3_answerOf_190 (by decide) ?_
  exact endI hx hb hr hlk hP hK hD hS dX3_answerOf_192 ((-2), SA, SI, SC, na2, dy2) rfl ⟨(bd1_e hk2).trans ((bd1_e hk4).trans ((bd1_e hk6).trans ((if_neg c43_1).trans ((if_neg c43_2).trans ((if_neg c43_3).trans ((if_neg c43_4).trans ((if_neg c43_5).trans ((if_neg c43_6).trans ((if_neg c43_7).trans rfl))))))))), rfl⟩

