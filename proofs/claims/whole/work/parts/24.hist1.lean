/-- the value of X5_copyFrom, path by path -/
def fX5_copyFrom (RA : Nat → Int32) (RI : Nat → Int32) (RC : Nat → Int32) (SA : Nat → Int32) (SI : Nat → Int32) (SC : Nat → Int32) (na2 : Int32) (ni2 : Int32) (dy2 : Int32) (vl2 : Int32) (db2 : Int32) : (Nat → Int32) × (Nat → Int32) × (Nat → Int32) × Int32 × Int32 × Int32 × Int32 × Int32 :=
  bd1 (fX6_copyFrom 240 RA SA) (fun (u_3 : Nat → Int32) => bd1 (fX6_copyFrom 30 RI SI) (fun (u_6 : Nat → Int32) => bd1 (fX6_copyFrom 36 RC SC) (fun (u_9 : Nat → Int32) => (u_3, u_6, u_9, na2, ni2, dy2, vl2, db2))))

set_option maxHeartbeats 4000000 in
set_option maxRecDepth 100000 in
/-- X5_copyFrom -/
theorem mX5_copyFrom (l : Launch) (D : va_G) (cI cC cS : ClassId) (sz : Nat) (h : Nat) (t1 : Nat) (t2 : Nat) (t3 : Nat) (a1 : Nat) (a2 : Nat) (a3 : Nat) (RA : Nat → Int32) (RI : Nat → Int32) (RC : Nat → Int32) (na : Int32) (ni : Int32) (dy : Int32) (vl : Int32) (db : Int32) (o : Nat) (u1 : Nat) (u2 : Nat) (u3 : Nat) (b1 : Nat) (b2 : Nat) (b3 : Nat) (SA : Nat → Int32) (SI : Nat → Int32) (SC : Nat → Int32) (na2 : Int32) (ni2 : Int32) (dy2 : Int32) (vl2 : Int32) (db2 : Int32)  : Met l yX5_copyFrom wsX5_copyFrom ({ frames := 1, cells := 0, slots := 0, locals := 22 } : Jvm.Room) (va_Pc [.ref h, .ref o] (wPre D (TY cI cC cS) [(h, .inr (4, [.ref t1, .ref t2, .ref t3, .int na, .int ni, .int dy, .int vl, .int db])), (t1, .inr (5, [.ref a1, .int 10])), (t2, .inr (5, [.ref a2, .int 6])), (t3, .inr (5, [.ref a3, .int 3])), (a1, .inl (cI, 240, .inl RA)), (a2, .inl (cI, 30, .inl RI)), (a3, .inl (cI, 36, .inl RC)), (o, .inr (4, [.ref u1, .ref u2, .ref u3, .int na2, .int ni2, .int dy2, .int vl2, .int db2])), (u1, .inr (5, [.ref b1, .int 10])), (u2, .inr (5, [.ref b2, .int 6])), (u3, .inr (5, [.ref b3, .int 3])), (b1, .inl (cI, 240, .inl SA)), (b2, .inl (cI, 30, .inl SI)), (b3, .inl (cI, 36, .inl SC))] sz wN)) (qV D (TY cI cC cS) (fun (u : (Nat → Int32) × (Nat → Int32) × (Nat → Int32) × Int32 × Int32 × Int32 × Int32 × Int32) => fX5_copyFrom RA RI RC SA SI SC na2 ni2 dy2 vl2 db2 = u) (fun u => [(h, .inr (4, [.ref t1, .ref t2, .ref t3, .int u.2.2.2.1, .int u.2.2.2.2.1, .int u.2.2.2.2.2.1, .int u.2.2.2.2.2.2.1, .int u.2.2.2.2.2.2.2])), (t1, .inr (5, [.ref a1, .int 10])), (t2, .inr (5, [.ref a2, .int 6])), (t3, .inr (5, [.ref a3, .int 3])), (a1, .inl (cI, 240, .inl u.1)), (a2, .inl (cI, 30, .inl u.2.1)), (a3, .inl (cI, 36, .inl u.2.2.1)), (o, .inr (4, [.ref u1, .ref u2, .ref u3, .int na2, .int ni2, .int dy2, .int vl2, .int db2])), (u1, .inr (5, [.ref b1, .int 10])), (u2, .inr (5, [.ref b2, .int 6])), (u3, .inr (5, [.ref b3, .int 3])), (b1, .inl (cI, 240, .inl SA)), (b2, .inl (cI, 30, .inl SI)), (b3, .inl (cI, 36, .inl SC))]) (va_A [(h, .inr (4, [.ref t1, .ref t2, .ref t3, .int na, .int ni, .int dy, .int vl, .int db])), (t1, .inr (5, [.ref a1, .int 10])), (t2, .inr (5, [.ref a2, .int 6])), (t3, .inr (5, [.ref a3, .int 3])), (a1, .inl (cI, 240, .inl RA)), (a2, .inl (cI, 30, .inl RI)), (a3, .inl (cI, 36, .inl RC)), (o, .inr (4, [.ref u1, .ref u2, .ref u3, .int na2, .int ni2, .int dy2, .int vl2, .int db2])), (u1, .inr (5, [.ref b1, .int 10])), (u2, .inr (5, [.ref b2, .int 6])), (u3, .inr (5, [.ref b3, .int 3])), (b1, .inl (cI, 240, .inl SA)), (b2, .inl (cI, 30, .inl SI)), (b3, .inl (cI, 36, .inl SC))] sz)) 0 0 (va_A [(h, .inr (4, [.ref t1, .ref t2, .ref t3, .int na, .int ni, .int dy, .int vl, .int db])), (t1, .inr (5, [.ref a1, .int 10])), (t2, .inr (5, [.ref a2, .int 6])), (t3, .inr (5, [.ref a3, .int 3])), (a1, .inl (cI, 240, .inl RA)), (a2, .inl (cI, 30, .inl RI)), (a3, .inl (cI, 36, .inl RC)), (o, .inr (4, [.ref u1, .ref u2, .ref u3, .int na2, .int ni2, .int dy2, .int vl2, .int db2])), (u1, .inr (5, [.ref b1, .int 10])), (u2, .inr (5, [.ref b2, .int 6])), (u3, .inr (5, [.ref b3, .int 3])), (b1, .inl (cI, 240, .inl SA)), (b2, .inl (cI, 30, .inl SI)), (b3, .inl (cI, 36, .inl SC))] sz) := by
  refine mkM (fun Fr => qV D (TY cI cC cS) (fun (u : (Nat → Int32) × (Nat → Int32) × (Nat → Int32) × Int32 × Int32 × Int32 × Int32 × Int32) => fX5_copyFrom RA RI RC SA SI SC na2 ni2 dy2 vl2 db2 = u) (fun u => [(h, .inr (4, [.ref t1, .ref t2, .ref t3, .int u.2.2.2.1, .int u.2.2.2.2.1, .int u.2.2.2.2.2.1, .int u.2.2.2.2.2.2.1, .int u.2.2.2.2.2.2.2])), (t1, .inr (5, [.ref a1, .int 10])), (t2, .inr (5, [.ref a2, .int 6])), (t3, .inr (5, [.ref a3, .int 3])), (a1, .inl (cI, 240, .inl u.1)), (a2, .inl (cI, 30, .inl u.2.1)), (a3, .inl (cI, 36, .inl u.2.2.1)), (o, .inr (4, [.ref u1, .ref u2, .ref u3, .int na2, .int ni2, .int dy2, .int vl2, .int db2])), (u1, .inr (5, [.ref b1, .int 10])), (u2, .inr (5, [.ref b2, .int 6])), (u3, .inr (5, [.ref b3, .int 3])), (b1, .inl (cI, 240, .inl SA)), (b2, .inl (cI, 30, .inl SI)), (b3, .inl (cI, 36, .inl SC))]) Fr) (cc := cX5_copyFrom) (maxL := 2) (ret := none) (own := RX5) (lv := [(0, .ref h), (1, .ref o)]) (by decide) rfl rfl (Nat.le_of_ble_eq_true rfl) rfl ?_
  intro p e s m below meth c Fr ls hx hb hr hts hown hml hlk hin hP hK hD hS hA hAe hsz hX hl
  have w_1 := hts (.fieldLink RX5 14 "FieldQuotas$Survey" "addressRows" "LFieldQuotas$Table;") (List.mem_of_getElem? (i := 1) rfl)
  have w_2 := sub_r (big := wsX5_copyFrom) (u_ws RX5 TX5 8) [15, 16, 17, 18, 19, 20, 21, 22] rfl
  have w_3 := hts (.fieldLink RX5 20 "FieldQuotas$Survey" "interviewerRows" "LFieldQuotas$Table;") (List.mem_of_getElem? (i := 2) rfl)
  have w_4 := hts (.fieldLink RX5 23 "FieldQuotas$Survey" "cellRows" "LFieldQuotas$Table;") (List.mem_of_getElem? (i := 3) rfl)
  have w_5 := hts (.fieldLink RX5 41 "FieldQuotas$Survey" "addressCount" "I") (List.mem_of_getElem? (i := 4) rfl)
  have w_6 := hts (.fieldLink RX5 44 "FieldQuotas$Survey" "interviewerCount" "I") (List.mem_of_getElem? (i := 5) rfl)
  have w_7 := hts (.fieldLink RX5 47 "FieldQuotas$Survey" "day" "I") (List.mem_of_getElem? (i := 6) rfl)
  have w_8 := hts (.fieldLink RX5 26 "FieldQuotas$Survey" "vainLimit" "I") (List.mem_of_getElem? (i := 7) rfl)
  have w_9 := hts (.fieldLink RX5 30 "FieldQuotas$Survey" "daysBetween" "I") (List.mem_of_getElem? (i := 8) rfl)
  refine lv_aload_n hx hb dX5_copyFrom_0 rfl (lv_at hl 0 rfl) ?_
  refine va_get (D := D) (ci := 4) (C := RX5) (T := TX5) (N := 8) hx hb hts w_2 hown hK hP 0 rfl rfl 0 (by decide) w_1 (fun _ h9 => h9) rfl dX5_copyFrom_1 ?_
  refine lv_aload_n hx hb dX5_copyFrom_4 rfl (lv_at hl 1 rfl) ?_
  refine va_get (D := D) (ci := 4) (C := RX5) (T := TX5) (N := 8) hx hb hts w_2 hown hK hP 7 rfl rfl 0 (by decide) w_1 (fun _ h9 => h9) rfl dX5_copyFrom_5 ?_
  refine callVv (As := [.ref u1]) (rest := []) (mX6_copyFrom l D cI cC cS _ t1 a1 u1 b1 240 RA SA 10 (by decide)) ⟨hx, hb, hml, hown, hts⟩ (cwV 1 hts gX5_copyFrom_X6_copyFrom rfl rfl rfl (by decide +kernel) ⟨Nat.le_of_ble_eq_true rfl, Nat.le_of_ble_eq_true rfl⟩) X0_blind (fun _ _ _ => trivial) hP hK hD hS hA hl [1, 4, 8, 11] rfl rfl 0 5 rfl rfl rfl rfl rfl (Nat.le_of_ble_eq_true rfl) dX5_copyFrom_8 ⟨Nat.zero_le _, Nat.zero_le _⟩ (fun _ => rfl) (fun u_ H locs hk3 hP hD hS => ?_)
  obtain ⟨u_3, e_u_3⟩ : ∃ z, z = u_ := ⟨_, rfl⟩
  subst e_u_3
  have hP : va_P D vwCl [(h, .inr (4, [.ref t1, .ref t2, .ref t3, .int na, .int ni, .int dy, .int vl, .int db])), (t1, .inr (5, [.ref a1, .int 10])), (t2, .inr (5, [.ref a2, .int 6])), (t3, .inr (5, [.ref a3, .int 3])), (a1, .inl (cI, 240, .inl u_3)), (a2, .inl (cI, 30, .inl RI)), (a3, .inl (cI, 36, .inl RC)), (o, .inr (4, [.ref u1, .ref u2, .ref u3, .int na2, .int ni2, .int dy2, .int vl2, .int db2])), (u1, .inr (5, [.ref b1, .int 10])), (u2, .inr (5, [.ref b2, .int 6])), (u3, .inr (5, [.ref b3, .int 3])), (b1, .inl (cI, 240, .inl SA)), (b2, .inl (cI, 30, .inl SI)), (b3, .inl (cI, 36, .inl SC))] H := hP
  have hD : va_D Fr [(h, .inr (4, [.ref t1, .ref t2, .ref t3, .int na, .int ni, .int dy, .int vl, .int db])), (t1, .inr (5, [.ref a1, .int 10])), (t2, .inr (5, [.ref a2, .int 6])), (t3, .inr (5, [.ref a3, .int 3])), (a1, .inl (cI, 240, .inl u_3)), (a2, .inl (cI, 30, .inl RI)), (a3, .inl (cI, 36, .inl RC)), (o, .inr (4, [.ref u1, .ref u2, .ref u3, .int na2, .int ni2, .int dy2, .int vl2, .int db2])), (u1, .inr (5, [.ref b1, .int 10])), (u2, .inr (5, [.ref b2, .int 6])), (u3, .inr (5, [.ref b3, .int 3])), (b1, .inl (cI, 240, .inl SA)), (b2, .inl (cI, 30, .inl SI)), (b3, .inl (cI, 36, .inl SC))] := hD
  refine W.eq (g2 := F0 m 11 ls []) rfl ?_
  refine lv_aload_n hx hb dX5_copyFrom_11 rfl (lv_at hl 0 rfl) ?_
  refine va_get (D := D) (ci := 4) (C := RX5) (T := TX5) (N := 8) hx hb hts w_2 hown hK hP 0 rfl rfl 1 (by decide) w_3 (fun _ h9 => h9) rfl dX5_copyFrom_12 ?_
  refine lv_aload_n hx hb dX5_copyFrom_15 rfl (lv_at hl 1 rfl) ?_
  refine va_get (D := D) (ci := 4) (C := RX5) (T := TX5) (N := 8) hx hb hts w_2 hown hK hP 7 rfl rfl 1 (by decide) w_3 (fun _ h9 => h9) rfl dX5_copyFrom_16 ?_
  refine callVv (As := [.ref u2]) (rest := []) (mX6_copyFrom l D cI cC cS _ t2 a2 u2 b2 30 RI SI 6 (by decide)) ⟨hx, hb, hml, hown, hts⟩ (cwV 1 hts gX5_copyFrom_X6_copyFrom rfl rfl rfl (by decide +kernel) ⟨Nat.le_of_ble_eq_true rfl, Nat.le_of_ble_eq_true rfl⟩) X0_blind (fun _ _ _ => trivial) hP hK hD hS hA hl [2, 5, 9, 12] rfl rfl 0 5 rfl rfl rfl rfl rfl (Nat.le_of_ble_eq_true rfl) dX5_copyFrom_19 ⟨Nat.zero_le _, Nat.zero_le _⟩ (fun _ => rfl) (fun u_ H locs hk6 hP hD hS => ?_)
  obtain ⟨u_6, e_u_6⟩ : ∃ z, z = u_ := ⟨_, rfl⟩
  subst e_u_6
  have hP : va_P D vwCl [(h, .inr (4, [.ref t1, .ref t2, .ref t3, .int na, .int ni, .int dy, .int vl, .int db])), (t1, .inr (5, [.ref a1, .int 10])), (t2, .inr (5, [.ref a2, .int 6])), (t3, .inr (5, [.ref a3, .int 3])), (a1, .inl (cI, 240, .inl u_3)), (a2, .inl (cI, 30, .inl u_6)), (a3, .inl (cI, 36, .inl RC)), (o, .inr (4, [.ref u1, .ref u2, .ref u3, .int na2, .int ni2, .int dy2, .int vl2, .int db2])), (u1, .inr (5, [.ref b1, .int 10])), (u2, .inr (5, [.ref b2, .int 6])), (u3, .inr (5, [.ref b3, .int 3])), (b1, .inl (cI, 240, .inl SA)), (b2, .inl (cI, 30, .inl SI)), (b3, .inl (cI, 36, .inl SC))] H := hP
  have hD : va_D Fr [(h, .inr (4, [.ref t1, .ref t2, .ref t3, .int na, .int ni, .int dy, .int vl, .int db])), (t1, .inr (5, [.ref a1, .int 10])), (t2, .inr (5, [.ref a2, .int 6])), (t3, .inr (5, [.ref a3, .int 3])), (a1, .inl (cI, 240, .inl u_3)), (a2, .inl (cI, 30, .inl u_6)), (a3, .inl (cI, 36, .inl RC)), (o, .inr (4, [.ref u1, .ref u2, .ref u3, .int na2, .int ni2, .int dy2, .int vl2, .int db2])), (u1, .inr (5, [.ref b1, .int 10])), (u2, .inr (5, [.ref b2, .int 6])), (u3, .inr (5, [.ref b3, .int 3])), (b1, .inl (cI, 240, .inl SA)), (b2, .inl (cI, 30, .inl SI)), (b3, .inl (cI, 36, .inl SC))] := hD
  refine W.eq (g2 := F0 m 22 ls []) rfl ?_
  refine lv_aload_n hx hb dX5_copyFrom_22 rfl (lv_at hl 0 rfl) ?_
  refine va_get (D := D) (ci := 4) (C := RX5) (T := TX5) (N := 8) hx hb hts w_2 hown hK hP 0 rfl rfl 2 (by decide) w_4 (fun _ h9 => h9) rfl dX5_copyFrom_23 ?_
  refine lv_aload_n hx hb dX5_copyFrom_26 rfl (lv_at hl 1 rfl) ?_
  refine va_get (D := D) (ci := 4) (C := RX5) (T := TX5) (N := 8) hx hb hts w_2 hown hK hP 7 rfl rfl 2 (by decide) w_4 (fun _ h9 => h9) rfl dX5_copyFrom_27 ?_
  refine callVv (As := [.ref u3]) (rest := []) (mX6_copyFrom l D cI cC cS _ t3 a3 u3 b3 36 RC SC 3 (by decide)) ⟨hx, hb, hml, hown, hts⟩ (cwV 1 hts gX5_copyFrom_X6_copyFrom rfl rfl rfl (by decide +kernel) ⟨Nat.le_of_ble_eq_true rfl, Nat.le_of_ble_eq_true rfl⟩) X0_blind (fun _ _ _ => trivial) hP hK hD hS hA hl [3, 6, 10, 13] rfl rfl 0 5 rfl rfl rfl rfl rfl (Nat.le_of_ble_eq_true rfl) dX5_copyFrom_30 ⟨Nat.zero_le _, Nat.zero_le _⟩ (fun _ => rfl) (fun u_ H locs hk9 hP hD hS => ?_)
  obtain ⟨u_9, e_u_9⟩ : ∃ z, z = u_ := ⟨_, rfl⟩
  subst e_u_9
  have hP : va_P D vwCl [(h, .inr (4, [.ref t1, .ref t2, .ref t3, .int na, .int ni, .int dy, .int vl, .int db])), (t1, .inr (5, [.ref a1, .int 10])), (t2, .inr (5, [.ref a2, .int 6])), (t3, .inr (5, [.ref a3, .int 3])), (a1, .inl (cI, 240, .inl u_3)), (a2, .inl (cI, 30, .inl u_6)), (a3, .inl (cI, 36, .inl u_9)), (o, .inr (4, [.ref u1, .ref u2, .ref u3, .int na2, .int ni2, .int dy2, .int vl2, .int db2])), (u1, .inr (5, [.ref b1, .int 10])), (u2, .inr (5, [.ref b2, .int 6])), (u3, .inr (5, [.ref b3, .int 3])), (b1, .inl (cI, 240, .inl SA)), (b2, .inl (cI, 30, .inl SI)), (b3, .inl (cI, 36, .inl SC))] H := hP
  have hD : va_D Fr [(h, .inr (4, [.ref t1, .ref t2, .ref t3, .int na, .int ni, .int dy, .int vl, .int db])), (t1, .inr (5, [.ref a1, .int 10])), (t2, .inr (5, [.ref a2, .int 6])), (t3, .inr (5, [.ref a3, .int 3])), (a1, .inl (cI, 240, .inl u_3)), (a2, .inl (cI, 30, .inl u_6)), (a3, .inl (cI, 36, .inl u_9)), (o, .inr (4, [.ref u1, .ref u2, .ref u3, .int na2, .int ni2, .int dy2, .int vl2, .int db2])), (u1, .inr (5, [.ref b1, .int 10])), (u2, .inr (5, [.ref b2, .int 6])), (u3, .inr (5, [.ref b3, .int 3])), (b1, .inl (cI, 240, .inl SA)), (b2, .inl (cI, 30, .inl SI)), (b3, .inl (cI, 36, .inl SC))] := hD
  refine W.eq (g2 := F0 m 33 ls []) rfl ?_
  refine lv_aload_n hx hb dX5_copyFrom_33 rfl (lv_at hl 0 rfl) ?_
  refine lv_aload_n hx hb dX5_copyFrom_34 rfl (lv_at hl 1 rfl) ?_
  refine va_get (D := D) (ci := 4) (C := RX5) (T := TX5) (N := 8) hx hb hts w_2 hown hK hP 7 rfl rfl 3 (by decide) w_5 (fun _ h9 => h9) rfl dX5_copyFrom_35 ?_
  refine va_put (D := D) (ci := 4) (v := .int na2) (ty := .int) (C := RX5) (T := TX5) (N := 8) hx hb hts w_2 tyX5 tyX5_ok nmX5 hown hK hP hD hS 0 rfl rfl 3 (by decide) w_5 (fun _ h9 => h9) rfl (by decide +kernel) rfl rfl (Nat.le_of_ble_eq_true rfl) dX5_copyFrom_38 (fun H locs hP hD hS => ?_)
  have hP : va_P D vwCl [(h, .inr (4, [.ref t1, .ref t2, .ref t3, .int na2, .int ni, .int dy, .int vl, .int db])), (t1, .inr (5, [.ref a1, .int 10])), (t2, .inr (5, [.ref a2, .int 6])), (t3, .inr (5, [.ref a3, .int 3])), (a1, .inl (cI, 240, .inl u_3)), (a2, .inl (cI, 30, .inl u_6)), (a3, .inl (cI, 36, .inl u_9)), (o, .inr (4, [.ref u1, .ref u2, .ref u3, .int na2, .int ni2, .int dy2, .int vl2, .int db2])), (u1, .inr (5, [.ref b1, .int 10])), (u2, .inr (5, [.ref b2, .int 6])), (u3, .inr (5, [.ref b3, .int 3])), (b1, .inl (cI, 240, .inl SA)), (b2, .inl (cI, 30, .inl SI)), (b3, .inl (cI, 36, .inl SC))] H := hP
  have hD : va_D Fr [(h, .inr (4, [.ref t1, .ref t2, .ref t3, .int na2, .int ni, .int dy, .int vl, .int db])), (t1, .inr (5, [.ref a1, .int 10])), (t2, .inr (5, [.ref a2, .int 6])), (t3, .inr (5, [.ref a3, .int 3])), (a1, .inl (cI, 240, .inl u_3)), (a2, .inl (cI, 30, .inl u_6)), (a3, .inl (cI, 36, .inl u_9)), (o, .inr (4, [.ref u1, .ref u2, .ref u3, .int na2, .int ni2, .int dy2, .int vl2, .int db2])), (u1, .inr (5, [.ref b1, .int 10])), (u2, .inr (5, [.ref b2, .int 6])), (u3, .inr (5, [.ref b3, .int 3])), (b1, .inl (cI, 240, .inl SA)), (b2, .inl (cI, 30, .inl SI)), (b3, .inl (cI, 36, .inl SC))] := hD
  refine lv_aload_n hx hb dX5_copyFrom_41 rfl (lv_at hl 0 rfl) ?_
  refine lv_aload_n hx hb dX5_copyFrom_42 rfl (lv_at hl 1 rfl) ?_
  refine va_get (D := D) (ci := 4) (C := RX5) (T := TX5) (N := 8) hx hb hts w_2 hown hK hP 7 rfl rfl 4 (by decide) w_6 (fun _ h9 => h9) rfl dX5_copyFrom_43 ?_
  refine va_put (D := D) (ci := 4) (v := .int ni2) (ty := .int) (C := RX5) (T := TX5) (N := 8) hx hb hts w_2 tyX5 tyX5_ok nmX5 hown hK hP hD hS 0 rfl rfl 4 (by decide) w_6 (fun _ h9 => h9) rfl (by decide +kernel) rfl rfl (Nat.le_of_ble_eq_true rfl) dX5_copyFrom_46 (fun H locs hP hD hS => ?_)
  have hP : va_P D vwCl [(h, .inr (4, [.ref t1, .ref t2, .ref t3, .int na2, .int ni2, .int dy, .int vl, .int db])), (t1, .inr (5, [.ref a1, .int 10])), (t2, .inr (5, [.ref a2, .int 6])), (t3, .inr (5, [.ref a3, .int 3])), (a1, .inl (cI, 240, .inl u_3)), (a2, .inl (cI, 30, .inl u_6)), (a3, .inl (cI, 36, .inl u_9)), (o, .inr (4, [.ref u1, .ref u2, .ref u3, .int na2, .int ni2, .int dy2, .int vl2, .int db2])), (u1, .inr (5, [.ref b1, .int 10])), (u2, .inr (5, [.ref b2, .int 6])), (u3, .inr (5, [.ref b3, .int 3])), (b1, .inl (cI, 240, .inl SA)), (b2, .inl (cI, 30, .inl SI)), (b3, .inl (cI, 36, .inl SC))] H := hP
  have hD : va_D Fr [(h, .inr (4, [.ref t1, .ref t2, .ref t3, .int na2, .int ni2, .int dy, .int vl, .int db])), (t1, .inr (5, [.ref a1, .int 10])), (t2, .inr (5, [.ref a2, .int 6])), (t3, .inr (5, [.ref a3, .int 3])), (a1, .inl (cI, 240, .inl u_3)), (a2, .inl (cI, 30, .inl u_6)), (a3, .inl (cI, 36, .inl u_9)), (o, .inr (4, [.ref u1, .ref u2, .ref u3, .int na2, .int ni2, .int dy2, .int vl2, .int db2])), (u1, .inr (5, [.ref b1, .int 10])), (u2, .inr (5, [.ref b2, .int 6])), (u3, .inr (5, [.ref b3, .int 3])), (b1, .inl (cI, 240, .inl SA)), (b2, .inl (cI, 30, .inl SI)), (b3, .inl (cI, 36, .inl SC))] := hD
  refine lv_aload_n hx hb dX5_copyFrom_49 rfl (lv_at hl 0 rfl) ?_
  refine lv_aload_n hx hb dX5_copyFrom_50 rfl (lv_at hl 1 rfl) ?_
  refine va_get (D := D) (ci := 4) (C := RX5) (T := TX5) (N := 8) hx hb hts w_2 hown hK hP 7 rfl rfl 5 (by decide) w_7 (fun _ h9 => h9) rfl dX5_copyFrom_51 ?_
  refine va_put (D := D) (ci := 4) (v := .int dy2) (ty := .int) (C := RX5) (T := TX5) (N := 8) hx hb hts w_2 tyX5 tyX5_ok nmX5 hown hK hP hD hS 0 rfl rfl 5 (by decide) w_7 (fun _ h9 => h9) rfl (by decide +kernel) rfl rfl (Nat.le_of_ble_eq_true rfl) dX5_copyFrom_54 (fun H locs hP hD hS => ?_)
  have hP : va_P D vwCl [(h, .inr (4, [.ref t1, .ref t2, .ref t3, .int na2, .int ni2, .int dy2, .int vl, .int db])), (t1, .inr (5, [.ref a1, .int 10])), (t2, .inr (5, [.ref a2, .int 6])), (t3, .inr (5, [.ref a3, .int 3])), (a1, .inl (cI, 240, .inl u_3)), (a2, .inl (cI, 30, .inl u_6)), (a3, .inl (cI, 36, .inl u_9)), (o, .inr (4, [.ref u1, .ref u2, .ref u3, .int na2, .int ni2, .int dy2, .int vl2, .int db2])), (u1, .inr (5, [.ref b1, .int 10])), (u2, .inr (5, [.ref b2, .int 6])), (u3, .inr (5, [.ref b3, .int 3])), (b1, .inl (cI, 240, .inl SA)), (b2, .inl (cI, 30, .inl SI)), (b3, .inl (cI, 36, .inl SC))] H := hP
  have hD : va_D Fr [(h, .inr (4, [.ref t1, .ref t2, .ref t3, .int na2, .int ni2, .int dy2, .int vl, .int db])), (t1, .inr (5, [.ref a1, .int 10])), (t2, .inr (5, [.ref a2, .int 6])), (t3, .inr (5, [.ref a3, .int 3])), (a1, .inl (cI, 240, .inl u_3)), (a2, .inl (cI, 30, .inl u_6)), (a3, .inl (cI, 36, .inl u_9)), (o, .inr (4, [.ref u1, .ref u2, .ref u3, .int na2, .int ni2, .int dy2, .int vl2, .int db2])), (u1, .inr (5, [.ref b1, .int 10])), (u2, .inr (5, [.ref b2, .int 6])), (u3, .inr (5, [.ref b3, .int 3])), (b1, .inl (cI, 240, .inl SA)), (b2, .inl (cI, 30, .inl SI)), (b3, .inl (cI, 36, .inl SC))] := hD
  refine lv_aload_n hx hb dX5_copyFrom_57 rfl (lv_at hl 0 rfl) ?_
  refine lv_aload_n hx hb dX5_copyFrom_58 rfl (lv_at hl 1 rfl) ?_
  refine va_get (D := D) (ci := 4) (C := RX5) (T := TX5) (N := 8) hx hb hts w_2 hown hK hP 7 rfl rfl 6 (by decide) w_8 (fun _ h9 => h9) rfl dX5_copyFrom_59 ?_
  refine va_put (D := D) (ci := 4) (v := .int vl2) (ty := .int) (C := RX5) (T := TX5) (N := 8) hx hb hts w_2 tyX5 tyX5_ok nmX5 hown hK hP hD hS 0 rfl rfl 6 (by decide) w_8 (fun _ h9 => h9) rfl (by decide +kernel) rfl rfl (Nat.le_of_ble_eq_true rfl) dX5_copyFrom_62 (fun H locs hP hD hS => ?_)
  have hP : va_P D vwCl [(h, .inr (4, [.ref t1, .ref t2, .ref t3, .int na2, .int ni2, .int dy2, .int vl2, .int db])), (t1, .inr (5, [.ref a1, .int 10])), (t2, .inr (5, [.ref a2, .int 6])), (t3, .inr (5, [.ref a3, .int 3])), (a1, .inl (cI, 240, .inl u_3)), (a2, .inl (cI, 30, .inl u_6)), (a3, .inl (cI, 36, .inl u_9)), (o, .inr (4, [.ref u1, .ref u2, .ref u3, .int na2, .int ni2, .int dy2, .int vl2, .int db2])), (u1, .inr (5, [.ref b1, .int 10])), (u2, .inr (5, [.ref b2, .int 6])), (u3, .inr (5, [.ref b3, .int 3])), (b1, .inl (cI, 240, .inl SA)), (b2, .inl (cI, 30, .inl SI)), (b3, .inl (cI, 36, .inl SC))] H := hP
  have hD : va_D Fr [(h, .inr (4, [.ref t1, .ref t2, .ref t3, .int na2, .int ni2, .int dy2, .int vl2, .int db])), (t1, .inr (5, [.ref a1, .int 10])), (t2, .inr (5, [.ref a2, .int 6])), (t3, .inr (5, [.ref a3, .int 3])), (a1, .inl (cI, 240, .inl u_3)), (a2, .inl (cI, 30, .inl u_6)), (a3, .inl (cI, 36, .inl u_9)), (o, .inr (4, [.ref u1, .ref u2, .ref u3, .int na2, .int ni2, .int dy2, .int vl2, .int db2])), (u1, .inr (5, [.ref b1, .int 10])), (u2, .inr (5, [.ref b2, .int 6])), (u3, .inr (5, [.ref b3, .int 3])), (b1, .inl (cI, 240, .inl SA)), (b2, .inl (cI, 30, .inl SI)), (b3, .inl (cI, 36, .inl SC))] := hD
  refine lv_aload_n hx hb dX5_copyFrom_65 rfl (lv_at hl 0 rfl) ?_
  refine lv_aload_n hx hb dX5_copyFrom_66 rfl (lv_at hl 1 rfl) ?_
  refine va_get (D := D) (ci := 4) (C := RX5) (T := TX5) (N := 8) hx hb hts w_2 hown hK hP 7 rfl rfl 7 (by decide) w_9 (fun _ h9 => h9) rfl dX5_copyFrom_67 ?_
  refine va_put (D := D) (ci := 4) (v := .int db2) (ty := .int) (C := RX5) (T := TX5) (N := 8) hx hb hts w_2 tyX5 tyX5_ok nmX5 hown hK hP hD hS 0 rfl rfl 7 (by decide) w_9 (fun _ h9 => h9) rfl (by decide +kernel) rfl rfl (Nat.le_of_ble_eq_true rfl) dX5_copyFrom_70 (fun H locs hP hD hS => ?_)
  have hP : va_P D vwCl [(h, .inr (4, [.ref t1, .ref t2, .ref t3, .int na2, .int ni2, .int dy2, .int vl2, .int db2])), (t1, .inr (5, [.ref a1, .int 10])), (t2, .inr (5, [.ref a2, .int 6])), (t3, .inr (5, [.ref a3, .int 3])), (a1, .inl (cI, 240, .inl u_3)), (a2, .inl (cI, 30, .inl u_6)), (a3, .inl (cI, 36, .inl u_9)), (o, .inr (4, [.ref u1, .ref u2, .ref u3, .int na2, .int ni2, .int dy2, .int vl2, .int db2])), (u1, .inr (5, [.ref b1, .int 10])), (u2, .inr (5, [.ref b2, .int 6])), (u3, .inr (5, [.ref b3, .int 3])), (b1, .inl (cI, 240, .inl SA)), (b2, .inl (cI, 30, .inl SI)), (b3, .inl (cI, 36, .inl SC))] H := hP
  have hD : va_D Fr [(h, .inr (4, [.ref t1, .ref t2, .ref t3, .int na2, .int ni2, .int dy2, .int vl2, .int db2])), (t1, .inr (5, [.ref a1, .int 10])), (t2, .inr (5, [.ref a2, .int 6])), (t3, .inr (5, [.ref a3, .int 3])), (a1, .inl (cI, 240, .inl u_3)), (a2, .inl (cI, 30, .inl u_6)), (a3, .inl (cI, 36, .inl u_9)), (o, .inr (4, [.ref u1, .ref u2, .ref u3, .int na2, .int ni2, .int dy2, .int vl2, .int db2])), (u1, .inr (5, [.ref b1, .int 10])), (u2, .inr (5, [.ref b2, .int 6])), (u3, .inr (5, [.ref b3, .int 3])), (b1, .inl (cI, 240, .inl SA)), (b2, .inl (cI, 30, .inl SI)), (b3, .inl (cI, 36, .inl SC))] := hD
  exact endV hx hb hr hlk hP hK hD hS dX5_copyFrom_73 (u_3, u_6, u_9, na2, ni2, dy2, vl2, db2) rfl ((bd1_e hk3).trans ((bd1_e hk6).trans ((bd1_e hk9).trans rfl)))

/-- the value of X1_size, path by path -/
def fX1_size (size : Int32) : Int32 :=
  size

set_option maxHeartbeats 4000000 in
set_option maxRecDepth 100000 in
/-- X1_size -/
theorem mX1_size (l : Launch) (D : va_G) (cI cC cS : ClassId) (sz : Nat) (g : Nat) (ga : Nat) (Hs : Nat → Option Nat) (first : Int32) (size : Int32)  : Met l yX1_size wsX1_size ({ frames := 0, cells := 0, slots := 0, locals := 0 } : Jvm.Room) (va_Pc [.ref g] (wPre D (TY cI cC cS) [(g, .inr (0, [.ref ga, .int first, .int size])), (ga, .inl (cS, 5, .inr (.inr (.inr (.inr Hs)))))] sz wN)) (qI D (TY cI cC cS) (fun (r : Int32) (u : Int32) => fX1_size size = u ∧ r = u) (fun u => [(g, .inr (0, [.ref ga, .int first, .int size])), (ga, .inl (cS, 5, .inr (.inr (.inr (.inr Hs)))))]) (va_A [(g, .inr (0, [.ref ga, .int first, .int size])), (ga, .inl (cS, 5, .inr (.inr (.inr (.inr Hs)))))] sz)) 0 0 (va_A [(g, .inr (0, [.ref ga, .int first, .int size])), (ga, .inl (cS, 5, .inr (.inr (.inr (.inr Hs)))))] sz) := by
  refine mkM (fun Fr => qI D (TY cI cC cS) (fun (r : Int32) (u : Int32) => fX1_size size = u ∧ r = u) (fun u => [(g, .inr (0, [.ref ga, .int first, .int size])), (ga, .inl (cS, 5, .inr (.inr (.inr (.inr Hs)))))]) Fr) (cc := cX1_size) (maxL := 1) (ret := (some .int)) (own := RX1) (lv := [(0, .ref g)]) (by decide) rfl rfl (Nat.le_of_ble_eq_true rfl) rfl ?_
  intro p e s m below meth c Fr ls hx hb hr hts hown hml hlk hin hP hK hD hS hA hAe hsz hX hl
  have w_1 := hts (.fieldLink RX1 18 "FieldQuotas$History" "size" "I") (List.mem_of_getElem? (i := 1) rfl)
  have w_2 := sub_r (big := wsX1_size) (u_ws RX1 TX1 3) [2, 3, 4] rfl
  refine lv_aload_n hx hb dX1_size_0 rfl (lv_at hl 0 rfl) ?_
  refine va_get (D := D) (ci := 0) (C := RX1) (T := TX1) (N := 3) hx hb hts w_2 hown hK hP 0 rfl rfl 2 (by decide) w_1 (fun _ h9 => h9) rfl dX1_size_1 ?_
  exact endI hx hb hr hlk hP hK hD hS dX1_size_4 size rfl ⟨rfl, rfl⟩

/-- the value of X1_settle, path by path -/
def fX1_settle (first : Int32) (size : Int32) (answer : Int32) : Int32 × Int32 × Int32 :=
  (if (0 : Int32) ≤ answer then (if (4 : Int32) ≤ size then (answer, (first + 1) - (first + 1) / 5 * 5, size) else (answer, first, size + 1)) else (answer, first, size))

set_option maxHeartbeats 4000000 in
set_option maxRecDepth 100000 in
/-- X1_settle -/
theorem mX1_settle (l : Launch) (D : va_G) (cI cC cS : ClassId) (sz : Nat) (g : Nat) (ga : Nat) (Hs : Nat → Option Nat) (first : Int32) (size : Int32) (answer : Int32)  : Met l yX1_settle wsX1_settle ({ frames := 0, cells := 0, slots := 0, locals := 0 } : Jvm.Room) (va_Pc [.ref g, .int answer] (wPre D (TY cI cC cS) [(g, .inr (0, [.ref ga, .int first, .int size])), (ga, .inl (cS, 5, .inr (.inr (.inr (.inr Hs)))))] sz wN)) (qI D (TY cI cC cS) (fun (r : Int32) (u : Int32 × Int32 × Int32) => fX1_settle first size answer = u ∧ r = u.1) (fun u => [(g, .inr (0, [.ref ga, .int u.2.1, .int u.2.2])), (ga, .inl (cS, 5, .inr (.inr (.inr (.inr Hs)))))]) (va_A [(g, .inr (0, [.ref ga, .int first, .int size])), (ga, .inl (cS, 5, .inr (.inr (.inr (.inr Hs)))))] sz)) 0 0 (va_A [(g, .inr (0, [.ref ga, .int first, .int size])), (ga, .inl (cS, 5, .inr (.inr (.inr (.inr Hs)))))] sz) := by
  refine mkM (fun Fr => qI D (TY cI cC cS) (fun (r : Int32) (u : Int32 × Int32 × Int32) => fX1_settle first size answer = u ∧ r = u.1) (fun u => [(g, .inr (0, [.ref ga, .int u.2.1, .int u.2.2])), (ga, .inl (cS, 5, .inr (.inr (.inr (.inr Hs)))))]) Fr) (cc := cX1_settle) (maxL := 2) (ret := (some .int)) (own := RX1) (lv := [(0, .ref g), (1, .int answer)]) (by decide) rfl rfl (Nat.le_of_ble_eq_true rfl) rfl ?_
  intro p e s m below meth c Fr ls hx hb hr hts hown hml hlk hin hP hK hD hS hA hAe hsz hX hl
  have w_1 := hts (.fieldLink RX1 18 "FieldQuotas$History" "size" "I") (List.mem_of_getElem? (i := 1) rfl)
  have w_2 := sub_r (big := wsX1_settle) (u_ws RX1 TX1 3) [3, 4, 5] rfl
  have w_3 := hts (.fieldLink RX1 30 "FieldQuotas$History" "first" "I") (List.mem_of_getElem? (i := 2) rfl)
  refine lv_iload_n hx hb dX1_settle_0 rfl (lv_at hl 1 rfl) ?_
  refine lv_if_ge (tgt := 6) hx hb dX1_settle_1 (by decide) (fun c1 => ?_) (fun c1 => ?_)
  · refine lv_aload_n hx hb dX1_settle_6 rfl (lv_at hl 0 rfl) ?_
    refine va_get (D := D) (ci := 0) (C := RX1) (T := TX1) (N := 3) hx hb hts w_2 hown hK hP 0 rfl rfl 2 (by decide) w_1 (fun _ h9 => h9) rfl dX1_settle_7 ?_
    refine lv_iconst (v := 4) hx hb dX1_settle_10 (by decide) ?_
    refine lv_icmp_ge (tgt := 27) hx hb dX1_settle_11 (by decide) (fun c11 => ?_) (fun c11 => ?_)
    · refine lv_aload_n hx hb dX1_settle_27 rfl (lv_at hl 0 rfl) ?_
      refine lv_aload_n hx hb dX1_settle_28 rfl (lv_at hl 0 rfl) ?_
      refine va_get (D := D) (ci := 0) (C := RX1) (T := TX1) (N := 3) hx hb hts w_2 hown hK hP 0 rfl rfl 1 (by decide) w_3 (fun _ h9 => h9) rfl dX1_settle_29 ?_
      refine lv_iconst (v := 1) hx hb dX1_settle_32 (by decide) ?_
      refine lv_iadd hx hb dX1_settle_33 ?_
      refine lv_iconst (v := 5) hx hb dX1_settle_34 (by decide) ?_
      refine lv_irem hx hb dX1_settle_35 (by decide) ?_
      refine va_put (D := D) (ci := 0) (v := .int ((first + 1) - (first + 1) / 5 * 5)) (ty := .int) (C := RX1) (T := TX1) (N := 3) hx hb hts w_2 tyX1 tyX1_ok nmX1 hown hK hP hD hS 0 rfl rfl 1 (by decide) w_3 (fun _ h9 => h9) rfl (by decide +kernel) rfl rfl (Nat.le_of_ble_eq_true rfl) dX1_settle_36 (fun H locs hP hD hS => ?_)
      have hP : va_P D vwCl [(g, .inr (0, [.ref ga, .int ((first + 1) - (first + 1) / 5 * 5), .int size])), (ga, .inl (cS, 5, .inr (.inr (.inr (.inr Hs)))))] H := hP
      have hD : va_D Fr [(g, .inr (0, [.ref ga, .int ((first + 1) - (first + 1) / 5 * 5), .int size])), (ga, .inl (cS, 5, .inr (.inr (.inr (.inr Hs)))))] := hD
      refine lv_iload_n hx hb dX1_settle_39 rfl (lv_at hl 1 rfl) ?_
      exact endI hx hb hr hlk hP hK hD hS dX1_settle_40 (answer, (first + 1) - (first + 1) / 5 * 5, size) rfl ⟨(if_pos c1).trans ((if_pos c11).trans rfl), rfl⟩
    · refine lv_aload_n hx hb dX1_settle_14 rfl (lv_at hl 0 rfl) ?_
      refine lv_dup hx hb dX1_settle_15 rfl ?_
      refine va_get (D := D) (ci := 0) (C := RX1) (T := TX1) (N := 3) hx hb hts w_2 hown hK hP 0 rfl rfl 2 (by decide) w_1 (fun _ h9 => h9) rfl dX1_settle_16 ?_
      refine lv_iconst (v := 1) hx hb dX1_settle_19 (by decide) ?_
      refine lv_iadd hx hb dX1_settle_20 ?_
      refine va_put (D := D) (ci := 0) (v := .int (size + 1)) (ty := .int) (C := RX1) (T := TX1) (N := 3) hx hb hts w_2 tyX1 tyX1_ok nmX1 hown hK hP hD hS 0 rfl rfl 2 (by decide) w_1 (fun _ h9 => h9) rfl (by decide +kernel) rfl rfl (Nat.le_of_ble_eq_true rfl) dX1_settle_21 (fun H locs hP hD hS => ?_)
      have hP : va_P D vwCl [(g, .inr (0, [.ref ga, .int first, .int (size + 1)])), (ga, .inl (cS, 5, .inr (.inr (.inr (.inr Hs)))))] H := hP
      have hD : va_D Fr [(g, .inr (0, [.ref ga, .int first, .int (size + 1)])), (ga, .inl (cS, 5, .inr (.inr (.inr (.inr Hs)))))] := hD
      refine lv_goto (tgt := 39) hx hb dX1_settle_24 (by decide) ?_
      refine lv_iload_n hx hb dX1_settle_39 rfl (lv_at hl 1 rfl) ?_
      exact endI hx hb hr hlk hP hK hD hS dX1_settle_40 (answer, first, size + 1) rfl ⟨(if_pos c1).trans ((if_neg c11).trans rfl), rfl⟩
  · refine lv_iload_n hx hb dX1_settle_4 rfl (lv_at hl 1 rfl) ?_
    exact endI hx hb hr hlk hP hK hD hS dX1_settle_5 (answer, first, size) rfl ⟨(if_neg c1).trans rfl, rfl⟩

/-- the value of X1_stateAt, path by path -/
def fX1_stateAt (Hs : Nat → Option Nat) (first : Int32) (place : Int32) : Option Nat :=
  bd1 ((first + place) - (first + place) / 5 * 5) (fun (y_1 : Int32) => (if y_1 < 0 then none else (if Int32.ofNat 5 ≤ y_1 then none else Hs y_1.toNatClampNeg)))

set_option maxHeartbeats 4000000 in
set_option maxRecDepth 100000 in
/-- X1_stateAt -/
theorem mX1_stateAt (l : Launch) (D : va_G) (cI cC cS : ClassId) (sz : Nat) (g : Nat) (ga : Nat) (Hs : Nat → Option Nat) (first : Int32) (size : Int32) (place : Int32)  : Met l yX1_stateAt wsX1_stateAt ({ frames := 0, cells := 0, slots := 0, locals := 0 } : Jvm.Room) (va_Pc [.ref g, .int place] (wPre D (TY cI cC cS) [(g, .inr (0, [.ref ga, .int first, .int size])), (ga, .inl (cS, 5, .inr (.inr (.inr (.inr Hs)))))] sz wN)) (qQ D (TY cI cC cS) (fun (r : Option Nat) (u : Option Nat) => fX1_stateAt Hs first place = u ∧ r = u) (fun u => [(g, .inr (0, [.ref ga, .int first, .int size])), (ga, .inl (cS, 5, .inr (.inr (.inr (.inr Hs)))))]) (va_A [(g, .inr (0, [.ref ga, .int first, .int size])), (ga, .inl (cS, 5, .inr (.inr (.inr (.inr Hs)))))] sz)) 0 0 (va_A [(g, .inr (0, [.ref ga, .int first, .int size])), (ga, .inl (cS, 5, .inr (.inr (.inr (.inr Hs)))))] sz) := by
  refine mkM (fun Fr => qQ D (TY cI cC cS) (fun (r : Option Nat) (u : Option Nat) => fX1_stateAt Hs first place = u ∧ r = u) (fun u => [(g, .inr (0, [.ref ga, .int first, .int size])), (ga, .inl (cS, 5, .inr (.inr (.inr (.inr Hs)))))]) Fr) (cc := cX1_stateAt) (maxL := 3) (ret := (some (.object "FieldQuotas$Survey"))) (own := RX1) (lv := [(0, .ref g), (1, .int place)]) (by decide) rfl rfl (Nat.le_of_ble_eq_true rfl) rfl ?_
  intro p e s m below meth c Fr ls hx hb hr hts hown hml hlk hin hP hK hD hS hA hAe hsz hX hl
  have w_1 := hts (.fieldLink RX1 30 "FieldQuotas$History" "first" "I") (List.mem_of_getElem? (i := 1) rfl)
  have w_2 := sub_r (big := wsX1_stateAt) (u_ws RX1 TX1 3) [3, 4, 5] rfl
  have w_3 := hts (.fieldLink RX1 11 "FieldQuotas$History" "states" "[LFieldQuotas$Survey;") (List.mem_of_getElem? (i := 2) rfl)
  refine lv_aload_n hx hb dX1_stateAt_0 rfl (lv_at hl 0 rfl) ?_
  refine va_get (D := D) (ci := 0) (C := RX1) (T := TX1) (N := 3) hx hb hts w_2 hown hK hP 0 rfl rfl 1 (by decide) w_1 (fun _ h9 => h9) rfl dX1_stateAt_1 ?_
  refine lv_iload_n hx hb dX1_stateAt_4 rfl (lv_at hl 1 rfl) ?_
  refine lv_iadd hx hb dX1_stateAt_5 ?_
  refine lv_iconst (v := 5) hx hb dX1_stateAt_6 (by decide) ?_
  refine lv_irem hx hb dX1_stateAt_7 (by decide) ?_
  refine lv_topi (fun y_1 ey_1 => ?_)
  refine lv_istore_n (lv' := [(2, .int y_1), (0, .ref g), (1, .int place)]) hx hb dX1_stateAt_8 rfl hl (by decide) rfl (fun ls hl => ?_)
  refine lv_iload_n hx hb dX1_stateAt_9 rfl (lv_at hl 0 rfl) ?_
  refine lv_if_lt (tgt := 31) hx hb dX1_stateAt_10 (by decide) (fun c10 => ?_) (fun c10 => ?_)
  · refine lv_null hx hb dX1_stateAt_31 ?_
    exact endQ hx hb hr hlk hP hK hD hS dX1_stateAt_32 none rfl ⟨(bd1_n ey_1).trans ((if_pos c10).trans rfl), rfl⟩ rfl
  · refine lv_iload_n hx hb dX1_stateAt_13 rfl (lv_at hl 0 rfl) ?_
    refine lv_aload_n hx hb dX1_stateAt_14 rfl (lv_at hl 1 rfl) ?_
    refine va_get (D := D) (ci := 0) (C := RX1) (T := TX1) (N := 3) hx hb hts w_2 hown hK hP 0 rfl rfl 0 (by decide) w_3 (fun _ h9 => h9) rfl dX1_stateAt_15 ?_
    refine va_alen hx hb hK hP 1 2 rfl rfl rfl dX1_stateAt_18 ?_
    refine lv_icmp_ge (tgt := 31) hx hb dX1_stateAt_19 (by decide) (fun c19 => ?_) (fun c19 => ?_)
    · refine lv_null hx hb dX1_stateAt_31 ?_
      exact endQ hx hb hr hlk hP hK hD hS dX1_stateAt_32 none rfl ⟨(bd1_n ey_1).trans ((if_neg c10).trans ((if_pos c19).trans rfl)), rfl⟩ rfl
    · refine lv_aload_n hx hb dX1_stateAt_22 rfl (lv_at hl 1 rfl) ?_
      refine va_get (D := D) (ci := 0) (C := RX1) (T := TX1) (N := 3) hx hb hts w_2 hown hK hP 0 rfl rfl 0 (by decide) w_3 (fun _ h9 => h9) rfl dX1_stateAt_23 ?_
      refine lv_iload_n hx hb dX1_stateAt_26 rfl (lv_at hl 0 rfl) ?_
      refine va_aldq hx hb hK hP 1 2 rfl rfl (vp_in_of2 c10 c19 (by decide)) dX1_stateAt_27 ?_
      refine lv_goto (tgt := 32) hx hb dX1_stateAt_28 (by decide) ?_
      exact endQ hx hb hr hlk hP hK hD hS dX1_stateAt_32 (Hs y_1.toNatClampNeg) rfl ⟨(bd1_n ey_1).trans ((if_neg c10).trans ((if_neg c19).trans rfl)), rfl⟩ rfl

