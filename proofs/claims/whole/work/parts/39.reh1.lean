/-- the value of X3_hasFault, path by path -/
def fX3_hasFault (rs : Int32) : Bool :=
  (if rs = 0 then false else true)

set_option maxHeartbeats 4000000 in
set_option maxRecDepth 100000 in
/-- X3_hasFault -/
theorem mX3_hasFault (l : Launch) (D : va_G) (cI cC cS : ClassId) (sz : Nat) (rh : Nat) (cs : Nat) (tr : Nat) (cm : Int32) (ps : Int32) (rs : Int32)  : Met l yX3_hasFault wsX3_hasFault ({ frames := 0, cells := 0, slots := 0, locals := 0 } : Jvm.Room) (va_Pc [.ref rh] (wPre D (TY cI cC cS) [(rh, .inr (2, [.ref cs, .ref tr, .int cm, .int ps, .int rs]))] sz wN)) (qI D (TY cI cC cS) (fun (r : Int32) (u : Bool) => fX3_hasFault rs = u ∧ r = bi u) (fun u => [(rh, .inr (2, [.ref cs, .ref tr, .int cm, .int ps, .int rs]))]) (va_A [(rh, .inr (2, [.ref cs, .ref tr, .int cm, .int ps, .int rs]))] sz)) 0 0 (va_A [(rh, .inr (2, [.ref cs, .ref tr, .int cm, .int ps, .int rs]))] sz) := by
  refine mkM (y := yX3_hasFault) (wsl := wsX3_hasFault) (fun Fr => qI D (TY cI cC cS) (fun (r : Int32) (u : Bool) => fX3_hasFault rs = u ∧ r = bi u) (fun u => [(rh, .inr (2, [.ref cs, .ref tr, .int cm, .int ps, .int rs]))]) Fr) (cc := cX3_hasFault) (maxL := 1) (ret := (some .boolean)) (own := RX3) (lv := [(0, .ref rh)]) (by decide) rfl rfl (Nat.le_of_ble_eq_true rfl) rfl ?_
  intro p e s m below meth c Fr ls hx hb hr hts hown hml hlk hin hP hK hD hS hA hAe hsz hX hl
  have w_1 := hts (.fieldLink RX3 33 "FieldQuotas$Rehearsal" "reason" "I") (List.mem_of_getElem? (i := 1) rfl)
  have w_2 := sub_r (big := wsX3_hasFault) (u_ws RX3 TX3 5) [2, 3, 4, 5, 6] rfl
  refine lv_aload_n hx hb dX3_hasFault_0 rfl (lv_at hl 0 rfl) ?_
  refine va_get (D := D) (ci := 2) (C := RX3) (T := TX3) (N := 5) hx hb hts w_2 hown hK hP 0 rfl rfl 4 (by decide) w_1 (fun _ h9 => h9) rfl dX3_hasFault_1 ?_
  refine lv_if_eq (tgt := 11) hx hb dX3_hasFault_4 (by decide) (fun c4 => ?_) (fun c4 => ?_)
  · refine lv_iconst (v := 0) hx hb dX3_hasFault_11 (by decide) ?_
    exact endZ hx hb hr hlk hP hK hD hS dX3_hasFault_12 rfl false rfl ⟨(if_pos c4).trans rfl, rfl⟩
  · refine lv_iconst (v := 1) hx hb dX3_hasFault_7 (by decide) ?_
    refine lv_goto (tgt := 12) hx hb dX3_hasFault_8 (by decide) ?_
    exact endZ hx hb hr hlk hP hK hD hS dX3_hasFault_12 rfl true rfl ⟨(if_neg c4).trans rfl, rfl⟩

/-- the value of X3_position, path by path -/
def fX3_position (ps : Int32) : Int32 :=
  ps

set_option maxHeartbeats 4000000 in
set_option maxRecDepth 100000 in
/-- X3_position -/
theorem mX3_position (l : Launch) (D : va_G) (cI cC cS : ClassId) (sz : Nat) (rh : Nat) (cs : Nat) (tr : Nat) (cm : Int32) (ps : Int32) (rs : Int32)  : Met l yX3_position wsX3_position ({ frames := 0, cells := 0, slots := 0, locals := 0 } : Jvm.Room) (va_Pc [.ref rh] (wPre D (TY cI cC cS) [(rh, .inr (2, [.ref cs, .ref tr, .int cm, .int ps, .int rs]))] sz wN)) (qI D (TY cI cC cS) (fun (r : Int32) (u : Int32) => fX3_position ps = u ∧ r = u) (fun u => [(rh, .inr (2, [.ref cs, .ref tr, .int cm, .int ps, .int rs]))]) (va_A [(rh, .inr (2, [.ref cs, .ref tr, .int cm, .int ps, .int rs]))] sz)) 0 0 (va_A [(rh, .inr (2, [.ref cs, .ref tr, .int cm, .int ps, .int rs]))] sz) := by
  refine mkM (y := yX3_position) (wsl := wsX3_position) (fun Fr => qI D (TY cI cC cS) (fun (r : Int32) (u : Int32) => fX3_position ps = u ∧ r = u) (fun u => [(rh, .inr (2, [.ref cs, .ref tr, .int cm, .int ps, .int rs]))]) Fr) (cc := cX3_position) (maxL := 1) (ret := (some .int)) (own := RX3) (lv := [(0, .ref rh)]) (by decide) rfl rfl (Nat.le_of_ble_eq_true rfl) rfl ?_
  intro p e s m below meth c Fr ls hx hb hr hts hown hml hlk hin hP hK hD hS hA hAe hsz hX hl
  have w_1 := hts (.fieldLink RX3 30 "FieldQuotas$Rehearsal" "position" "I") (List.mem_of_getElem? (i := 1) rfl)
  have w_2 := sub_r (big := wsX3_position) (u_ws RX3 TX3 5) [2, 3, 4, 5, 6] rfl
  refine lv_aload_n hx hb dX3_position_0 rfl (lv_at hl 0 rfl) ?_
  refine va_get (D := D) (ci := 2) (C := RX3) (T := TX3) (N := 5) hx hb hts w_2 hown hK hP 0 rfl rfl 3 (by decide) w_1 (fun _ h9 => h9) rfl dX3_position_1 ?_
  exact endI hx hb hr hlk hP hK hD hS dX3_position_4 ps rfl ⟨rfl, rfl⟩

/-- the value of X3_reason, path by path -/
def fX3_reason (rs : Int32) : Int32 :=
  rs

set_option maxHeartbeats 4000000 in
set_option maxRecDepth 100000 in
/-- X3_reason -/
theorem mX3_reason (l : Launch) (D : va_G) (cI cC cS : ClassId) (sz : Nat) (rh : Nat) (cs : Nat) (tr : Nat) (cm : Int32) (ps : Int32) (rs : Int32)  : Met l yX3_reason wsX3_reason ({ frames := 0, cells := 0, slots := 0, locals := 0 } : Jvm.Room) (va_Pc [.ref rh] (wPre D (TY cI cC cS) [(rh, .inr (2, [.ref cs, .ref tr, .int cm, .int ps, .int rs]))] sz wN)) (qI D (TY cI cC cS) (fun (r : Int32) (u : Int32) => fX3_reason rs = u ∧ r = u) (fun u => [(rh, .inr (2, [.ref cs, .ref tr, .int cm, .int ps, .int rs]))]) (va_A [(rh, .inr (2, [.ref cs, .ref tr, .int cm, .int ps, .int rs]))] sz)) 0 0 (va_A [(rh, .inr (2, [.ref cs, .ref tr, .int cm, .int ps, .int rs]))] sz) := by
  refine mkM (y := yX3_reason) (wsl := wsX3_reason) (fun Fr => qI D (TY cI cC cS) (fun (r : Int32) (u : Int32) => fX3_reason rs = u ∧ r = u) (fun u => [(rh, .inr (2, [.ref cs, .ref tr, .int cm, .int ps, .int rs]))]) Fr) (cc := cX3_reason) (maxL := 1) (ret := (some .int)) (own := RX3) (lv := [(0, .ref rh)]) (by decide) rfl rfl (Nat.le_of_ble_eq_true rfl) rfl ?_
  intro p e s m below meth c Fr ls hx hb hr hts hown hml hlk hin hP hK hD hS hA hAe hsz hX hl
  have w_1 := hts (.fieldLink RX3 33 "FieldQuotas$Rehearsal" "reason" "I") (List.mem_of_getElem? (i := 1) rfl)
  have w_2 := sub_r (big := wsX3_reason) (u_ws RX3 TX3 5) [2, 3, 4, 5, 6] rfl
  refine lv_aload_n hx hb dX3_reason_0 rfl (lv_at hl 0 rfl) ?_
  refine va_get (D := D) (ci := 2) (C := RX3) (T := TX3) (N := 5) hx hb hts w_2 hown hK hP 0 rfl rfl 4 (by decide) w_1 (fun _ h9 => h9) rfl dX3_reason_1 ?_
  exact endI hx hb hr hlk hP hK hD hS dX3_reason_4 rs rfl ⟨rfl, rfl⟩

/-- the value of X3_commands, path by path -/
def fX3_commands (cm : Int32) : Int32 :=
  cm

set_option maxHeartbeats 4000000 in
set_option maxRecDepth 100000 in
/-- X3_commands -/
theorem mX3_commands (l : Launch) (D : va_G) (cI cC cS : ClassId) (sz : Nat) (rh : Nat) (cs : Nat) (tr : Nat) (cm : Int32) (ps : Int32) (rs : Int32)  : Met l yX3_commands wsX3_commands ({ frames := 0, cells := 0, slots := 0, locals := 0 } : Jvm.Room) (va_Pc [.ref rh] (wPre D (TY cI cC cS) [(rh, .inr (2, [.ref cs, .ref tr, .int cm, .int ps, .int rs]))] sz wN)) (qI D (TY cI cC cS) (fun (r : Int32) (u : Int32) => fX3_commands cm = u ∧ r = u) (fun u => [(rh, .inr (2, [.ref cs, .ref tr, .int cm, .int ps, .int rs]))]) (va_A [(rh, .inr (2, [.ref cs, .ref tr, .int cm, .int ps, .int rs]))] sz)) 0 0 (va_A [(rh, .inr (2, [.ref cs, .ref tr, .int cm, .int ps, .int rs]))] sz) := by
  refine mkM (y := yX3_commands) (wsl := wsX3_commands) (fun Fr => qI D (TY cI cC cS) (fun (r : Int32) (u : Int32) => fX3_commands cm = u ∧ r = u) (fun u => [(rh, .inr (2, [.ref cs, .ref tr, .int cm, .int ps, .int rs]))]) Fr) (cc := cX3_commands) (maxL := 1) (ret := (some .int)) (own := RX3) (lv := [(0, .ref rh)]) (by decide) rfl rfl (Nat.le_of_ble_eq_true rfl) rfl ?_
  intro p e s m below meth c Fr ls hx hb hr hts hown hml hlk hin hP hK hD hS hA hAe hsz hX hl
  have w_1 := hts (.fieldLink RX3 26 "FieldQuotas$Rehearsal" "commands" "I") (List.mem_of_getElem? (i := 1) rfl)
  have w_2 := sub_r (big := wsX3_commands) (u_ws RX3 TX3 5) [2, 3, 4, 5, 6] rfl
  refine lv_aload_n hx hb dX3_commands_0 rfl (lv_at hl 0 rfl) ?_
  refine va_get (D := D) (ci := 2) (C := RX3) (T := TX3) (N := 5) hx hb hts w_2 hown hK hP 0 rfl rfl 2 (by decide) w_1 (fun _ h9 => h9) rfl dX3_commands_1 ?_
  exact endI hx hb hr hlk hP hK hD hS dX3_commands_4 cm rfl ⟨rfl, rfl⟩

/-- the value of X3_copyTo, path by path -/
def fX3_copyTo (RA : Nat → Int32) (RI : Nat → Int32) (RC : Nat → Int32) (SA : Nat → Int32) (SI : Nat → Int32) (SC : Nat → Int32) (na2 : Int32) (ni2 : Int32) (dy2 : Int32) (vl2 : Int32) (db2 : Int32) : (Nat → Int32) × (Nat → Int32) × (Nat → Int32) × Int32 × Int32 × Int32 × Int32 × Int32 :=
  bd1 (fX5_copyFrom RA RI RC SA SI SC na2 ni2 dy2 vl2 db2) (fun (u_11 : (Nat → Int32) × (Nat → Int32) × (Nat → Int32) × Int32 × Int32 × Int32 × Int32 × Int32) => (u_11.1, u_11.2.1, u_11.2.2.1, u_11.2.2.2.1, u_11.2.2.2.2.1, u_11.2.2.2.2.2.1, u_11.2.2.2.2.2.2.1, u_11.2.2.2.2.2.2.2))

set_option maxHeartbeats 4000000 in
set_option maxRecDepth 100000 in
/-- X3_copyTo -/
theorem mX3_copyTo (l : Launch) (D : va_G) (cI cC cS : ClassId) (sz : Nat) (rh : Nat) (cs : Nat) (tr : Nat) (cm : Int32) (ps : Int32) (rs : Int32) (h : Nat) (t1 : Nat) (t2 : Nat) (t3 : Nat) (a1 : Nat) (a2 : Nat) (a3 : Nat) (RA : Nat → Int32) (RI : Nat → Int32) (RC : Nat → Int32) (na : Int32) (ni : Int32) (dy : Int32) (vl : Int32) (db : Int32) (u1 : Nat) (u2 : Nat) (u3 : Nat) (b1 : Nat) (b2 : Nat) (b3 : Nat) (SA : Nat → Int32) (SI : Nat → Int32) (SC : Nat → Int32) (na2 : Int32) (ni2 : Int32) (dy2 : Int32) (vl2 : Int32) (db2 : Int32)  : Met l yX3_copyTo wsX3_copyTo ({ frames := 2, cells := 0, slots := 0, locals := 43 } : Jvm.Room) (va_Pc [.ref rh, .ref h] (wPre D (TY cI cC cS) ([rhW rh cs tr cm ps rs, svW h t1 t2 t3 a1 a2 a3 cI RA RI RC na ni dy vl db, svW tr u1 u2 u3 b1 b2 b3 cI SA SI SC na2 ni2 dy2 vl2 db2] : List va_W).flatten sz wN)) (qV D (TY cI cC cS) (fun (u : (Nat → Int32) × (Nat → Int32) × (Nat → Int32) × Int32 × Int32 × Int32 × Int32 × Int32) => fX3_copyTo RA RI RC SA SI SC na2 ni2 dy2 vl2 db2 = u) (fun u => ([rhW rh cs tr cm ps rs, svW h t1 t2 t3 a1 a2 a3 cI u.1 u.2.1 u.2.2.1 u.2.2.2.1 u.2.2.2.2.1 u.2.2.2.2.2.1 u.2.2.2.2.2.2.1 u.2.2.2.2.2.2.2, svW tr u1 u2 u3 b1 b2 b3 cI SA SI SC na2 ni2 dy2 vl2 db2] : List va_W).flatten) (va_A ([rhW rh cs tr cm ps rs, svW h t1 t2 t3 a1 a2 a3 cI RA RI RC na ni dy vl db, svW tr u1 u2 u3 b1 b2 b3 cI SA SI SC na2 ni2 dy2 vl2 db2] : List va_W).flatten sz)) 0 0 (va_A ([rhW rh cs tr cm ps rs, svW h t1 t2 t3 a1 a2 a3 cI RA RI RC na ni dy vl db, svW tr u1 u2 u3 b1 b2 b3 cI SA SI SC na2 ni2 dy2 vl2 db2] : List va_W).flatten sz) := by
  refine mkM (y := yX3_copyTo) (wsl := wsX3_copyTo) (fun Fr => qV D (TY cI cC cS) (fun (u : (Nat → Int32) × (Nat → Int32) × (Nat → Int32) × Int32 × Int32 × Int32 × Int32 × Int32) => fX3_copyTo RA RI RC SA SI SC na2 ni2 dy2 vl2 db2 = u) (fun u => ([rhW rh cs tr cm ps rs, svW h t1 t2 t3 a1 a2 a3 cI u.1 u.2.1 u.2.2.1 u.2.2.2.1 u.2.2.2.2.1 u.2.2.2.2.2.1 u.2.2.2.2.2.2.1 u.2.2.2.2.2.2.2, svW tr u1 u2 u3 b1 b2 b3 cI SA SI SC na2 ni2 dy2 vl2 db2] : List va_W).flatten) Fr) (cc := cX3_copyTo) (maxL := 2) (ret := none) (own := RX3) (lv := [(0, .ref rh), (1, .ref h)]) (by decide) rfl rfl (Nat.le_of_ble_eq_true rfl) rfl ?_
  intro p e s m below meth c Fr ls hx hb hr hts hown hml hlk hin hP hK hD hS hA hAe hsz hX hl
  have w_1 := hts (.fieldLink RX3 18 "FieldQuotas$Rehearsal" "trial" "LFieldQuotas$Survey;") (List.mem_of_getElem? (i := 1) rfl)
  have w_2 := sub_r (big := wsX3_copyTo) (u_ws RX3 TX3 5) [21, 22, 23, 24, 25] rfl
  refine lv_aload_n hx hb dX3_copyTo_0 rfl (lv_at hl 1 rfl) ?_
  refine lv_aload_n hx hb dX3_copyTo_1 rfl (lv_at hl 0 rfl) ?_
  refine va_get (D := D) (ci := 2) (C := RX3) (T := TX3) (N := 5) hx hb hts w_2 hown hK hP 0 rfl rfl 1 (by decide) w_1 (fun _ h9 => h9) rfl dX3_copyTo_2 ?_
  refine scallVv (As := [.ref tr]) (rest := []) (sX5_copyFrom l D cI cC cS _ h t1 t2 t3 a1 a2 a3 RA RI RC na ni dy vl db tr u1 u2 u3 b1 b2 b3 SA SI SC na2 ni2 dy2 vl2 db2) ⟨hx, hb, hml, hown, hts⟩ (cwV 1 hts gX3_copyTo_X5_copyFrom rfl rfl rfl (by decide +kernel) ⟨Nat.le_of_ble_eq_true rfl, Nat.le_of_ble_eq_true rfl⟩) wN_blind (fun _ _ hW => wN_warm hW hX) hP hK hD hS hA hl [1, 2] rfl rfl 0 4 rfl rfl rfl rfl rfl (Nat.le_of_ble_eq_true rfl) dX3_copyTo_5 ⟨Nat.zero_le _, Nat.zero_le _⟩ (fun _ => rfl) (fun u_ H locs hk10 hP hD hS => ?_)
  obtain ⟨u_11, e_u_11⟩ : ∃ z, z = u_ := ⟨_, rfl⟩
  subst e_u_11
  have hP : va_P D vwCl ([rhW rh cs tr cm ps rs, svW h t1 t2 t3 a1 a2 a3 cI u_11.1 u_11.2.1 u_11.2.2.1 u_11.2.2.2.1 u_11.2.2.2.2.1 u_11.2.2.2.2.2.1 u_11.2.2.2.2.2.2.1 u_11.2.2.2.2.2.2.2, svW tr u1 u2 u3 b1 b2 b3 cI SA SI SC na2 ni2 dy2 vl2 db2] : List va_W).flatten H := hP
  have hD : va_D Fr ([rhW rh cs tr cm ps rs, svW h t1 t2 t3 a1 a2 a3 cI u_11.1 u_11.2.1 u_11.2.2.1 u_11.2.2.2.1 u_11.2.2.2.2.1 u_11.2.2.2.2.2.1 u_11.2.2.2.2.2.2.1 u_11.2.2.2.2.2.2.2, svW tr u1 u2 u3 b1 b2 b3 cI SA SI SC na2 ni2 dy2 vl2 db2] : List va_W).flatten := hD
  refine W.eq (g2 := F0 m 8 ls []) rfl ?_
  exact endV hx hb hr hlk hP hK hD hS dX3_copyTo_8 (u_11.1, u_11.2.1, u_11.2.2.1, u_11.2.2.2.1, u_11.2.2.2.2.1, u_11.2.2.2.2.2.1, u_11.2.2.2.2.2.2.1, u_11.2.2.2.2.2.2.2) rfl ((bd1_e hk10).trans rfl)

theorem sX3_hasFault (l : Launch) (D : va_G) (cI cC cS : ClassId) (sz : Nat) (rh : Nat) (cs : Nat) (tr : Nat) (cm : Int32) (ps : Int32) (rs : Int32)  : Met l yX3_hasFault wsX3_hasFault ({ frames := 0, cells := 0, slots := 0, locals := 0 } : Jvm.Room) (va_Pc [.ref rh] (wPre D (TY cI cC cS) (([rhW rh cs tr cm ps rs] : List va_W).flatten) sz wN)) (qI D (TY cI cC cS) (fun (r : Int32) (u : Bool) => fX3_hasFault rs = u ∧ r = bi u) (fun u => ([rhW rh cs tr cm ps rs] : List va_W).flatten) (va_A (([rhW rh cs tr cm ps rs] : List va_W).flatten) sz)) 0 0 (va_A (([rhW rh cs tr cm ps rs] : List va_W).flatten) sz) := mX3_hasFault l D cI cC cS sz rh cs tr cm ps rs 

theorem sX3_position (l : Launch) (D : va_G) (cI cC cS : ClassId) (sz : Nat) (rh : Nat) (cs : Nat) (tr : Nat) (cm : Int32) (ps : Int32) (rs : Int32)  : Met l yX3_position wsX3_position ({ frames := 0, cells := 0, slots := 0, locals := 0 } : Jvm.Room) (va_Pc [.ref rh] (wPre D (TY cI cC cS) (([rhW rh cs tr cm ps rs] : List va_W).flatten) sz wN)) (qI D (TY cI cC cS) (fun (r : Int32) (u : Int32) => fX3_position ps = u ∧ r = u) (fun u => ([rhW rh cs tr cm ps rs] : List va_W).flatten) (va_A (([rhW rh cs tr cm ps rs] : List va_W).flatten) sz)) 0 0 (va_A (([rhW rh cs tr cm ps rs] : List va_W).flatten) sz) := mX3_position l D cI cC cS sz rh cs tr cm ps rs 

theorem sX3_reason (l : Launch) (D : va_G) (cI cC cS : ClassId) (sz : Nat) (rh : Nat) (cs : Nat) (tr : Nat) (cm : Int32) (ps : Int32) (rs : Int32)  : Met l yX3_reason wsX3_reason ({ frames := 0, cells := 0, slots := 0, locals := 0 } : Jvm.Room) (va_Pc [.ref rh] (wPre D (TY cI cC cS) (([rhW rh cs tr cm ps rs] : List va_W).flatten) sz wN)) (qI D (TY cI cC cS) (fun (r : Int32) (u : Int32) => fX3_reason rs = u ∧ r = u) (fun u => ([rhW rh cs tr cm ps rs] : List va_W).flatten) (va_A (([rhW rh cs tr cm ps rs] : List va_W).flatten) sz)) 0 0 (va_A (([rhW rh cs tr cm ps rs] : List va_W).flatten) sz) := mX3_reason l D cI cC cS sz rh cs tr cm ps rs 

theorem sX3_commands (l : Launch) (D : va_G) (cI cC cS : ClassId) (sz : Nat) (rh : Nat) (cs : Nat) (tr : Nat) (cm : Int32) (ps : Int32) (rs : Int32)  : Met l yX3_commands wsX3_commands ({ frames := 0, cells := 0, slots := 0, locals := 0 } : Jvm.Room) (va_Pc [.ref rh] (wPre D (TY cI cC cS) (([rhW rh cs tr cm ps rs] : List va_W).flatten) sz wN)) (qI D (TY cI cC cS) (fun (r : Int32) (u : Int32) => fX3_commands cm = u ∧ r = u) (fun u => ([rhW rh cs tr cm ps rs] : List va_W).flatten) (va_A (([rhW rh cs tr cm ps rs] : List va_W).flatten) sz)) 0 0 (va_A (([rhW rh cs tr cm ps rs] : List va_W).flatten) sz) := mX3_commands l D cI cC cS sz rh cs tr cm ps rs 

