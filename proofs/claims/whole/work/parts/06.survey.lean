/-- the value of X5_addressCount, path by path -/
def fX5_addressCount (na : Int32) : Int32 :=
  na

set_option maxHeartbeats 4000000 in
set_option maxRecDepth 100000 in
/-- X5_addressCount -/
theorem mX5_addressCount (l : Launch) (D : va_G) (cI cC cS : ClassId) (sz : Nat) (h : Nat) (t1 : Nat) (t2 : Nat) (t3 : Nat) (a1 : Nat) (a2 : Nat) (a3 : Nat) (RA : Nat → Int32) (RI : Nat → Int32) (RC : Nat → Int32) (na : Int32) (ni : Int32) (dy : Int32) (vl : Int32) (db : Int32)  : Met l yX5_addressCount wsX5_addressCount ({ frames := 0, cells := 0, slots := 0, locals := 0 } : Jvm.Room) (va_Pc [.ref h] (wPre D (TY cI cC cS) [(h, .inr (4, [.ref t1, .ref t2, .ref t3, .int na, .int ni, .int dy, .int vl, .int db])), (t1, .inr (5, [.ref a1, .int 10])), (t2, .inr (5, [.ref a2, .int 6])), (t3, .inr (5, [.ref a3, .int 3])), (a1, .inl (cI, 240, .inl RA)), (a2, .inl (cI, 30, .inl RI)), (a3, .inl (cI, 36, .inl RC))] sz wN)) (qI D (TY cI cC cS) (fun (r : Int32) (u : Int32) => fX5_addressCount na = u ∧ r = u) (fun u => [(h, .inr (4, [.ref t1, .ref t2, .ref t3, .int na, .int ni, .int dy, .int vl, .int db])), (t1, .inr (5, [.ref a1, .int 10])), (t2, .inr (5, [.ref a2, .int 6])), (t3, .inr (5, [.ref a3, .int 3])), (a1, .inl (cI, 240, .inl RA)), (a2, .inl (cI, 30, .inl RI)), (a3, .inl (cI, 36, .inl RC))]) (va_A [(h, .inr (4, [.ref t1, .ref t2, .ref t3, .int na, .int ni, .int dy, .int vl, .int db])), (t1, .inr (5, [.ref a1, .int 10])), (t2, .inr (5, [.ref a2, .int 6])), (t3, .inr (5, [.ref a3, .int 3])), (a1, .inl (cI, 240, .inl RA)), (a2, .inl (cI, 30, .inl RI)), (a3, .inl (cI, 36, .inl RC))] sz)) 0 0 (va_A [(h, .inr (4, [.ref t1, .ref t2, .ref t3, .int na, .int ni, .int dy, .int vl, .int db])), (t1, .inr (5, [.ref a1, .int 10])), (t2, .inr (5, [.ref a2, .int 6])), (t3, .inr (5, [.ref a3, .int 3])), (a1, .inl (cI, 240, .inl RA)), (a2, .inl (cI, 30, .inl RI)), (a3, .inl (cI, 36, .inl RC))] sz) := by
  refine mkM (fun Fr => qI D (TY cI cC cS) (fun (r : Int32) (u : Int32) => fX5_addressCount na = u ∧ r = u) (fun u => [(h, .inr (4, [.ref t1, .ref t2, .ref t3, .int na, .int ni, .int dy, .int vl, .int db])), (t1, .inr (5, [.ref a1, .int 10])), (t2, .inr (5, [.ref a2, .int 6])), (t3, .inr (5, [.ref a3, .int 3])), (a1, .inl (cI, 240, .inl RA)), (a2, .inl (cI, 30, .inl RI)), (a3, .inl (cI, 36, .inl RC))]) Fr) (cc := cX5_addressCount) (maxL := 1) (ret := (some .int)) (own := RX5) (lv := [(0, .ref h)]) (by decide) rfl rfl (Nat.le_of_ble_eq_true rfl) rfl ?_
  intro p e s m below meth c Fr ls hx hb hr hts hown hml hlk hin hP hK hD hS hA hAe hsz hX hl
  have w_1 := hts (.fieldLink RX5 41 "FieldQuotas$Survey" "addressCount" "I") (List.mem_of_getElem? (i := 1) rfl)
  have w_2 := sub_r (big := wsX5_addressCount) (u_ws RX5 TX5 8) [2, 3, 4, 5, 6, 7, 8, 9] rfl
  refine lv_aload_n hx hb dX5_addressCount_0 rfl (lv_at hl 0 rfl) ?_
  refine va_get (D := D) (ci := 4) (C := RX5) (T := TX5) (N := 8) hx hb hts w_2 hown hK hP 0 rfl rfl 3 (by decide) w_1 (fun _ h9 => h9) rfl dX5_addressCount_1 ?_
  exact endI hx hb hr hlk hP hK hD hS dX5_addressCount_4 na rfl ⟨rfl, rfl⟩

/-- the value of X5_interviewerCount, path by path -/
def fX5_interviewerCount (ni : Int32) : Int32 :=
  ni

set_option maxHeartbeats 4000000 in
set_option maxRecDepth 100000 in
/-- X5_interviewerCount -/
theorem mX5_interviewerCount (l : Launch) (D : va_G) (cI cC cS : ClassId) (sz : Nat) (h : Nat) (t1 : Nat) (t2 : Nat) (t3 : Nat) (a1 : Nat) (a2 : Nat) (a3 : Nat) (RA : Nat → Int32) (RI : Nat → Int32) (RC : Nat → Int32) (na : Int32) (ni : Int32) (dy : Int32) (vl : Int32) (db : Int32)  : Met l yX5_interviewerCount wsX5_interviewerCount ({ frames := 0, cells := 0, slots := 0, locals := 0 } : Jvm.Room) (va_Pc [.ref h] (wPre D (TY cI cC cS) [(h, .inr (4, [.ref t1, .ref t2, .ref t3, .int na, .int ni, .int dy, .int vl, .int db])), (t1, .inr (5, [.ref a1, .int 10])), (t2, .inr (5, [.ref a2, .int 6])), (t3, .inr (5, [.ref a3, .int 3])), (a1, .inl (cI, 240, .inl RA)), (a2, .inl (cI, 30, .inl RI)), (a3, .inl (cI, 36, .inl RC))] sz wN)) (qI D (TY cI cC cS) (fun (r : Int32) (u : Int32) => fX5_interviewerCount ni = u ∧ r = u) (fun u => [(h, .inr (4, [.ref t1, .ref t2, .ref t3, .int na, .int ni, .int dy, .int vl, .int db])), (t1, .inr (5, [.ref a1, .int 10])), (t2, .inr (5, [.ref a2, .int 6])), (t3, .inr (5, [.ref a3, .int 3])), (a1, .inl (cI, 240, .inl RA)), (a2, .inl (cI, 30, .inl RI)), (a3, .inl (cI, 36, .inl RC))]) (va_A [(h, .inr (4, [.ref t1, .ref t2, .ref t3, .int na, .int ni, .int dy, .int vl, .int db])), (t1, .inr (5, [.ref a1, .int 10])), (t2, .inr (5, [.ref a2, .int 6])), (t3, .inr (5, [.ref a3, .int 3])), (a1, .inl (cI, 240, .inl RA)), (a2, .inl (cI, 30, .inl RI)), (a3, .inl (cI, 36, .inl RC))] sz)) 0 0 (va_A [(h, .inr (4, [.ref t1, .ref t2, .ref t3, .int na, .int ni, .int dy, .int vl, .int db])), (t1, .inr (5, [.ref a1, .int 10])), (t2, .inr (5, [.ref a2, .int 6])), (t3, .inr (5, [.ref a3, .int 3])), (a1, .inl (cI, 240, .inl RA)), (a2, .inl (cI, 30, .inl RI)), (a3, .inl (cI, 36, .inl RC))] sz) := by
  refine mkM (fun Fr => qI D (TY cI cC cS) (fun (r : Int32) (u : Int32) => fX5_interviewerCount ni = u ∧ r = u) (fun u => [(h, .inr (4, [.ref t1, .ref t2, .ref t3, .int na, .int ni, .int dy, .int vl, .int db])), (t1, .inr (5, [.ref a1, .int 10])), (t2, .inr (5, [.ref a2, .int 6])), (t3, .inr (5, [.ref a3, .int 3])), (a1, .inl (cI, 240, .inl RA)), (a2, .inl (cI, 30, .inl RI)), (a3, .inl (cI, 36, .inl RC))]) Fr) (cc := cX5_interviewerCount) (maxL := 1) (ret := (some .int)) (own := RX5) (lv := [(0, .ref h)]) (by decide) rfl rfl (Nat.le_of_ble_eq_true rfl) rfl ?_
  intro p e s m below meth c Fr ls hx hb hr hts hown hml hlk hin hP hK hD hS hA hAe hsz hX hl
  have w_1 := hts (.fieldLink RX5 44 "FieldQuotas$Survey" "interviewerCount" "I") (List.mem_of_getElem? (i := 1) rfl)
  have w_2 := sub_r (big := wsX5_interviewerCount) (u_ws RX5 TX5 8) [2, 3, 4, 5, 6, 7, 8, 9] rfl
  refine lv_aload_n hx hb dX5_interviewerCount_0 rfl (lv_at hl 0 rfl) ?_
  refine va_get (D := D) (ci := 4) (C := RX5) (T := TX5) (N := 8) hx hb hts w_2 hown hK hP 0 rfl rfl 4 (by decide) w_1 (fun _ h9 => h9) rfl dX5_interviewerCount_1 ?_
  exact endI hx hb hr hlk hP hK hD hS dX5_interviewerCount_4 ni rfl ⟨rfl, rfl⟩

/-- the value of X5_day, path by path -/
def fX5_day (dy : Int32) : Int32 :=
  dy

set_option maxHeartbeats 4000000 in
set_option maxRecDepth 100000 in
/-- X5_day -/
theorem mX5_day (l : Launch) (D : va_G) (cI cC cS : ClassId) (sz : Nat) (h : Nat) (t1 : Nat) (t2 : Nat) (t3 : Nat) (a1 : Nat) (a2 : Nat) (a3 : Nat) (RA : Nat → Int32) (RI : Nat → Int32) (RC : Nat → Int32) (na : Int32) (ni : Int32) (dy : Int32) (vl : Int32) (db : Int32)  : Met l yX5_day wsX5_day ({ frames := 0, cells := 0, slots := 0, locals := 0 } : Jvm.Room) (va_Pc [.ref h] (wPre D (TY cI cC cS) [(h, .inr (4, [.ref t1, .ref t2, .ref t3, .int na, .int ni, .int dy, .int vl, .int db])), (t1, .inr (5, [.ref a1, .int 10])), (t2, .inr (5, [.ref a2, .int 6])), (t3, .inr (5, [.ref a3, .int 3])), (a1, .inl (cI, 240, .inl RA)), (a2, .inl (cI, 30, .inl RI)), (a3, .inl (cI, 36, .inl RC))] sz wN)) (qI D (TY cI cC cS) (fun (r : Int32) (u : Int32) => fX5_day dy = u ∧ r = u) (fun u => [(h, .inr (4, [.ref t1, .ref t2, .ref t3, .int na, .int ni, .int dy, .int vl, .int db])), (t1, .inr (5, [.ref a1, .int 10])), (t2, .inr (5, [.ref a2, .int 6])), (t3, .inr (5, [.ref a3, .int 3])), (a1, .inl (cI, 240, .inl RA)), (a2, .inl (cI, 30, .inl RI)), (a3, .inl (cI, 36, .inl RC))]) (va_A [(h, .inr (4, [.ref t1, .ref t2, .ref t3, .int na, .int ni, .int dy, .int vl, .int db])), (t1, .inr (5, [.ref a1, .int 10])), (t2, .inr (5, [.ref a2, .int 6])), (t3, .inr (5, [.ref a3, .int 3])), (a1, .inl (cI, 240, .inl RA)), (a2, .inl (cI, 30, .inl RI)), (a3, .inl (cI, 36, .inl RC))] sz)) 0 0 (va_A [(h, .inr (4, [.ref t1, .ref t2, .ref t3, .int na, .int ni, .int dy, .int vl, .int db])), (t1, .inr (5, [.ref a1, .int 10])), (t2, .inr (5, [.ref a2, .int 6])), (t3, .inr (5, [.ref a3, .int 3])), (a1, .inl (cI, 240, .inl RA)), (a2, .inl (cI, 30, .inl RI)), (a3, .inl (cI, 36, .inl RC))] sz) := by
  refine mkM (fun Fr => qI D (TY cI cC cS) (fun (r : Int32) (u : Int32) => fX5_day dy = u ∧ r = u) (fun u => [(h, .inr (4, [.ref t1, .ref t2, .ref t3, .int na, .int ni, .int dy, .int vl, .int db])), (t1, .inr (5, [.ref a1, .int 10])), (t2, .inr (5, [.ref a2, .int 6])), (t3, .inr (5, [.ref a3, .int 3])), (a1, .inl (cI, 240, .inl RA)), (a2, .inl (cI, 30, .inl RI)), (a3, .inl (cI, 36, .inl RC))]) Fr) (cc := cX5_day) (maxL := 1) (ret := (some .int)) (own := RX5) (lv := [(0, .ref h)]) (by decide) rfl rfl (Nat.le_of_ble_eq_true rfl) rfl ?_
  intro p e s m below meth c Fr ls hx hb hr hts hown hml hlk hin hP hK hD hS hA hAe hsz hX hl
  have w_1 := hts (.fieldLink RX5 47 "FieldQuotas$Survey" "day" "I") (List.mem_of_getElem? (i := 1) rfl)
  have w_2 := sub_r (big := wsX5_day) (u_ws RX5 TX5 8) [2, 3, 4, 5, 6, 7, 8, 9] rfl
  refine lv_aload_n hx hb dX5_day_0 rfl (lv_at hl 0 rfl) ?_
  refine va_get (D := D) (ci := 4) (C := RX5) (T := TX5) (N := 8) hx hb hts w_2 hown hK hP 0 rfl rfl 5 (by decide) w_1 (fun _ h9 => h9) rfl dX5_day_1 ?_
  exact endI hx hb hr hlk hP hK hD hS dX5_day_4 dy rfl ⟨rfl, rfl⟩

/-- the value of X5_vainLimit, path by path -/
def fX5_vainLimit (vl : Int32) : Int32 :=
  vl

set_option maxHeartbeats 4000000 in
set_option maxRecDepth 100000 in
/-- X5_vainLimit -/
theorem mX5_vainLimit (l : Launch) (D : va_G) (cI cC cS : ClassId) (sz : Nat) (h : Nat) (t1 : Nat) (t2 : Nat) (t3 : Nat) (a1 : Nat) (a2 : Nat) (a3 : Nat) (RA : Nat → Int32) (RI : Nat → Int32) (RC : Nat → Int32) (na : Int32) (ni : Int32) (dy : Int32) (vl : Int32) (db : Int32)  : Met l yX5_vainLimit wsX5_vainLimit ({ frames := 0, cells := 0, slots := 0, locals := 0 } : Jvm.Room) (va_Pc [.ref h] (wPre D (TY cI cC cS) [(h, .inr (4, [.ref t1, .ref t2, .ref t3, .int na, .int ni, .int dy, .int vl, .int db])), (t1, .inr (5, [.ref a1, .int 10])), (t2, .inr (5, [.ref a2, .int 6])), (t3, .inr (5, [.ref a3, .int 3])), (a1, .inl (cI, 240, .inl RA)), (a2, .inl (cI, 30, .inl RI)), (a3, .inl (cI, 36, .inl RC))] sz wN)) (qI D (TY cI cC cS) (fun (r : Int32) (u : Int32) => fX5_vainLimit vl = u ∧ r = u) (fun u => [(h, .inr (4, [.ref t1, .ref t2, .ref t3, .int na, .int ni, .int dy, .int vl, .int db])), (t1, .inr (5, [.ref a1, .int 10])), (t2, .inr (5, [.ref a2, .int 6])), (t3, .inr (5, [.ref a3, .int 3])), (a1, .inl (cI, 240, .inl RA)), (a2, .inl (cI, 30, .inl RI)), (a3, .inl (cI, 36, .inl RC))]) (va_A [(h, .inr (4, [.ref t1, .ref t2, .ref t3, .int na, .int ni, .int dy, .int vl, .int db])), (t1, .inr (5, [.ref a1, .int 10])), (t2, .inr (5, [.ref a2, .int 6])), (t3, .inr (5, [.ref a3, .int 3])), (a1, .inl (cI, 240, .inl RA)), (a2, .inl (cI, 30, .inl RI)), (a3, .inl (cI, 36, .inl RC))] sz)) 0 0 (va_A [(h, .inr (4, [.ref t1, .ref t2, .ref t3, .int na, .int ni, .int dy, .int vl, .int db])), (t1, .inr (5, [.ref a1, .int 10])), (t2, .inr (5, [.ref a2, .int 6])), (t3, .inr (5, [.ref a3, .int 3])), (a1, .inl (cI, 240, .inl RA)), (a2, .inl (cI, 30, .inl RI)), (a3, .inl (cI, 36, .inl RC))] sz) := by
  refine mkM (fun Fr => qI D (TY cI cC cS) (fun (r : Int32) (u : Int32) => fX5_vainLimit vl = u ∧ r = u) (fun u => [(h, .inr (4, [.ref t1, .ref t2, .ref t3, .int na, .int ni, .int dy, .int vl, .int db])), (t1, .inr (5, [.ref a1, .int 10])), (t2, .inr (5, [.ref a2, .int 6])), (t3, .inr (5, [.ref a3, .int 3])), (a1, .inl (cI, 240, .inl RA)), (a2, .inl (cI, 30, .inl RI)), (a3, .inl (cI, 36, .inl RC))]) Fr) (cc := cX5_vainLimit) (maxL := 1) (ret := (some .int)) (own := RX5) (lv := [(0, .ref h)]) (by decide) rfl rfl (Nat.le_of_ble_eq_true rfl) rfl ?_
  intro p e s m below meth c Fr ls hx hb hr hts hown hml hlk hin hP hK hD hS hA hAe hsz hX hl
  have w_1 := hts (.fieldLink RX5 26 "FieldQuotas$Survey" "vainLimit" "I") (List.mem_of_getElem? (i := 1) rfl)
  have w_2 := sub_r (big := wsX5_vainLimit) (u_ws RX5 TX5 8) [2, 3, 4, 5, 6, 7, 8, 9] rfl
  refine lv_aload_n hx hb dX5_vainLimit_0 rfl (lv_at hl 0 rfl) ?_
  refine va_get (D := D) (ci := 4) (C := RX5) (T := TX5) (N := 8) hx hb hts w_2 hown hK hP 0 rfl rfl 6 (by decide) w_1 (fun _ h9 => h9) rfl dX5_vainLimit_1 ?_
  exact endI hx hb hr hlk hP hK hD hS dX5_vainLimit_4 vl rfl ⟨rfl, rfl⟩

/-- the value of X5_daysBetween, path by path -/
def fX5_daysBetween (db : Int32) : Int32 :=
  db

set_option maxHeartbeats 4000000 in
set_option maxRecDepth 100000 in
/-- X5_daysBetween -/
theorem mX5_daysBetween (l : Launch) (D : va_G) (cI cC cS : ClassId) (sz : Nat) (h : Nat) (t1 : Nat) (t2 : Nat) (t3 : Nat) (a1 : Nat) (a2 : Nat) (a3 : Nat) (RA : Nat → Int32) (RI : Nat → Int32) (RC : Nat → Int32) (na : Int32) (ni : Int32) (dy : Int32) (vl : Int32) (db : Int32)  : Met l yX5_daysBetween wsX5_daysBetween ({ frames := 0, cells := 0, slots := 0, locals := 0 } : Jvm.Room) (va_Pc [.ref h] (wPre D (TY cI cC cS) [(h, .inr (4, [.ref t1, .ref t2, .ref t3, .int na, .int ni, .int dy, .int vl, .int db])), (t1, .inr (5, [.ref a1, .int 10])), (t2, .inr (5, [.ref a2, .int 6])), (t3, .inr (5, [.ref a3, .int 3])), (a1, .inl (cI, 240, .inl RA)), (a2, .inl (cI, 30, .inl RI)), (a3, .inl (cI, 36, .inl RC))] sz wN)) (qI D (TY cI cC cS) (fun (r : Int32) (u : Int32) => fX5_daysBetween db = u ∧ r = u) (fun u => [(h, .inr (4, [.ref t1, .ref t2, .ref t3, .int na, .int ni, .int dy, .int vl, .int db])), (t1, .inr (5, [.ref a1, .int 10])), (t2, .inr (5, [.ref a2, .int 6])), (t3, .inr (5, [.ref a3, .int 3])), (a1, .inl (cI, 240, .inl RA)), (a2, .inl (cI, 30, .inl RI)), (a3, .inl (cI, 36, .inl RC))]) (va_A [(h, .inr (4, [.ref t1, .ref t2, .ref t3, .int na, .int ni, .int dy, .int vl, .int db])), (t1, .inr (5, [.ref a1, .int 10])), (t2, .inr (5, [.ref a2, .int 6])), (t3, .inr (5, [.ref a3, .int 3])), (a1, .inl (cI, 240, .inl RA)), (a2, .inl (cI, 30, .inl RI)), (a3, .inl (cI, 36, .inl RC))] sz)) 0 0 (va_A [(h, .inr (4, [.ref t1, .ref t2, .ref t3, .int na, .int ni, .int dy, .int vl, .int db])), (t1, .inr (5, [.ref a1, .int 10])), (t2, .inr (5, [.ref a2, .int 6])), (t3, .inr (5, [.ref a3, .int 3])), (a1, .inl (cI, 240, .inl RA)), (a2, .inl (cI, 30, .inl RI)), (a3, .inl (cI, 36, .inl RC))] sz) := by
  refine mkM (fun Fr => qI D (TY cI cC cS) (fun (r : Int32) (u : Int32) => fX5_daysBetween db = u ∧ r = u) (fun u => [(h, .inr (4, [.ref t1, .ref t2, .ref t3, .int na, .int ni, .int dy, .int vl, .int db])), (t1, .inr (5, [.ref a1, .int 10])), (t2, .inr (5, [.ref a2, .int 6])), (t3, .inr (5, [.ref a3, .int 3])), (a1, .inl (cI, 240, .inl RA)), (a2, .inl (cI, 30, .inl RI)), (a3, .inl (cI, 36, .inl RC))]) Fr) (cc := cX5_daysBetween) (maxL := 1) (ret := (some .int)) (own := RX5) (lv := [(0, .ref h)]) (by decide) rfl rfl (Nat.le_of_ble_eq_true rfl) rfl ?_
  intro p e s m below meth c Fr ls hx hb hr hts hown hml hlk hin hP hK hD hS hA hAe hsz hX hl
  have w_1 := hts (.fieldLink RX5 30 "FieldQuotas$Survey" "daysBetween" "I") (List.mem_of_getElem? (i := 1) rfl)
  have w_2 := sub_r (big := wsX5_daysBetween) (u_ws RX5 TX5 8) [2, 3, 4, 5, 6, 7, 8, 9] rfl
  refine lv_aload_n hx hb dX5_daysBetween_0 rfl (lv_at hl 0 rfl) ?_
  refine va_get (D := D) (ci := 4) (C := RX5) (T := TX5) (N := 8) hx hb hts w_2 hown hK hP 0 rfl rfl 7 (by decide) w_1 (fun _ h9 => h9) rfl dX5_daysBetween_1 ?_
  exact endI hx hb hr hlk hP hK hD hS dX5_daysBetween_4 db rfl ⟨rfl, rfl⟩

/-- the value of X5_hasAddress, path by path -/
def fX5_hasAddress (na : Int32) (address : Int32) : Bool :=
  bd1 (fX8_isWithin address 0 (na - 1)) (fun (r_2 : Bool) => r_2)

set_option maxHeartbeats 4000000 in
set_option maxRecDepth 100000 in
/-- X5_hasAddress -/
theorem mX5_hasAddress (l : Launch) (D : va_G) (cI cC cS : ClassId) (sz : Nat) (h : Nat) (t1 : Nat) (t2 : Nat) (t3 : Nat) (a1 : Nat) (a2 : Nat) (a3 : Nat) (RA : Nat → Int32) (RI : Nat → Int32) (RC : Nat → Int32) (na : Int32) (ni : Int32) (dy : Int32) (vl : Int32) (db : Int32) (address : Int32)  : Met l yX5_hasAddress wsX5_hasAddress ({ frames := 1, cells := 0, slots := 0, locals := 22 } : Jvm.Room) (va_Pc [.ref h, .int address] (wPre D (TY cI cC cS) [(h, .inr (4, [.ref t1, .ref t2, .ref t3, .int na, .int ni, .int dy, .int vl, .int db])), (t1, .inr (5, [.ref a1, .int 10])), (t2, .inr (5, [.ref a2, .int 6])), (t3, .inr (5, [.ref a3, .int 3])), (a1, .inl (cI, 240, .inl RA)), (a2, .inl (cI, 30, .inl RI)), (a3, .inl (cI, 36, .inl RC))] sz wN)) (qI D (TY cI cC cS) (fun (r : Int32) (u : Bool) => fX5_hasAddress na address = u ∧ r = bi u) (fun u => [(h, .inr (4, [.ref t1, .ref t2, .ref t3, .int na, .int ni, .int dy, .int vl, .int db])), (t1, .inr (5, [.ref a1, .int 10])), (t2, .inr (5, [.ref a2, .int 6])), (t3, .inr (5, [.ref a3, .int 3])), (a1, .inl (cI, 240, .inl RA)), (a2, .inl (cI, 30, .inl RI)), (a3, .inl (cI, 36, .inl RC))]) (va_A [(h, .inr (4, [.ref t1, .ref t2, .ref t3, .int na, .int ni, .int dy, .int vl, .int db])), (t1, .inr (5, [.ref a1, .int 10])), (t2, .inr (5, [.ref a2, .int 6])), (t3, .inr (5, [.ref a3, .int 3])), (a1, .inl (cI, 240, .inl RA)), (a2, .inl (cI, 30, .inl RI)), (a3, .inl (cI, 36, .inl RC))] sz)) 0 0 (va_A [(h, .inr (4, [.ref t1, .ref t2, .ref t3, .int na, .int ni, .int dy, .int vl, .int db])), (t1, .inr (5, [.ref a1, .int 10])), (t2, .inr (5, [.ref a2, .int 6])), (t3, .inr (5, [.ref a3, .int 3])), (a1, .inl (cI, 240, .inl RA)), (a2, .inl (cI, 30, .inl RI)), (a3, .inl (cI, 36, .inl RC))] sz) := by
  refine mkM (fun Fr => qI D (TY cI cC cS) (fun (r : Int32) (u : Bool) => fX5_hasAddress na address = u ∧ r = bi u) (fun u => [(h, .inr (4, [.ref t1, .ref t2, .ref t3, .int na, .int ni, .int dy, .int vl, .int db])), (t1, .inr (5, [.ref a1, .int 10])), (t2, .inr (5, [.ref a2, .int 6])), (t3, .inr (5, [.ref a3, .int 3])), (a1, .inl (cI, 240, .inl RA)), (a2, .inl (cI, 30, .inl RI)), (a3, .inl (cI, 36, .inl RC))]) Fr) (cc := cX5_hasAddress) (maxL := 2) (ret := (some .boolean)) (own := RX5) (lv := [(0, .ref h), (1, .int address)]) (by decide) rfl rfl (Nat.le_of_ble_eq_true rfl) rfl ?_
  intro p e s m below meth c Fr ls hx hb hr hts hown hml hlk hin hP hK hD hS hA hAe hsz hX hl
  have w_1 := hts (.fieldLink RX5 41 "FieldQuotas$Survey" "addressCount" "I") (List.mem_of_getElem? (i := 1) rfl)
  have w_2 := sub_r (big := wsX5_hasAddress) (u_ws RX5 TX5 8) [5, 6, 7, 8, 9, 10, 11, 12] rfl
  refine lv_iload_n hx hb dX5_hasAddress_0 rfl (lv_at hl 1 rfl) ?_
  refine lv_iconst (v := 0) hx hb dX5_hasAddress_1 (by decide) ?_
  refine lv_aload_n hx hb dX5_hasAddress_2 rfl (lv_at hl 0 rfl) ?_
  refine va_get (D := D) (ci := 4) (C := RX5) (T := TX5) (N := 8) hx hb hts w_2 hown hK hP 0 rfl rfl 3 (by decide) w_1 (fun _ h9 => h9) rfl dX5_hasAddress_3 ?_
  refine lv_iconst (v := 1) hx hb dX5_hasAddress_6 (by decide) ?_
  refine lv_isub hx hb dX5_hasAddress_7 ?_
  refine callNi (As := [.int address, .int 0, .int (na - 1)]) (rest := []) (mX8_isWithin l D cI cC cS _ address 0 (na - 1)) ⟨hx, hb, hml, hown, hts⟩ (⟨va_cnB 3 hts gX5_hasAddress_X8_isWithin_n50 rfl rfl rfl hX.2.1 (hts (.initialized RX8) (List.mem_of_getElem? (i := 3) rfl)) (by decide +kernel) ⟨Nat.le_of_ble_eq_true rfl, Nat.le_of_ble_eq_true rfl⟩, hts (.static yX8_isWithin) (List.mem_of_getElem? (i := 2) rfl), trivial⟩) hP hK hD hS hA hl rfl rfl (Nat.le_of_ble_eq_true rfl) dX5_hasAddress_8 ⟨Nat.zero_le _, Nat.zero_le _⟩ (fun u_ H locs hk2 hP hS => ?_)
  obtain ⟨r_2, e_r_2⟩ : ∃ z, z = u_ := ⟨_, rfl⟩
  subst e_r_2
  refine W.eq (g2 := F0 m 11 ls [.int (bi r_2)]) rfl ?_
  exact endZ hx hb hr hlk hP hK hD hS dX5_hasAddress_11 (bi_nar _) r_2 rfl ⟨(bd1_e hk2).trans rfl, rfl⟩

/-- the value of X5_hasInterviewer, path by path -/
def fX5_hasInterviewer (ni : Int32) (interviewer : Int32) : Bool :=
  bd1 (fX8_isWithin interviewer 0 (ni - 1)) (fun (r_2 : Bool) => r_2)

set_option maxHeartbeats 4000000 in
set_option maxRecDepth 100000 in
/-- X5_hasInterviewer -/
theorem mX5_hasInterviewer (l : Launch) (D : va_G) (cI cC cS : ClassId) (sz : Nat) (h : Nat) (t1 : Nat) (t2 : Nat) (t3 : Nat) (a1 : Nat) (a2 : Nat) (a3 : Nat) (RA : Nat → Int32) (RI : Nat → Int32) (RC : Nat → Int32) (na : Int32) (ni : Int32) (dy : Int32) (vl : Int32) (db : Int32) (interviewer : Int32)  : Met l yX5_hasInterviewer wsX5_hasInterviewer ({ frames := 1, cells := 0, slots := 0, locals := 22 } : Jvm.Room) (va_Pc [.ref h, .int interviewer] (wPre D (TY cI cC cS) [(h, .inr (4, [.ref t1, .ref t2, .ref t3, .int na, .int ni, .int dy, .int vl, .int db])), (t1, .inr (5, [.ref a1, .int 10])), (t2, .inr (5, [.ref a2, .int 6])), (t3, .inr (5, [.ref a3, .int 3])), (a1, .inl (cI, 240, .inl RA)), (a2, .inl (cI, 30, .inl RI)), (a3, .inl (cI, 36, .inl RC))] sz wN)) (qI D (TY cI cC cS) (fun (r : Int32) (u : Bool) => fX5_hasInterviewer ni interviewer = u ∧ r = bi u) (fun u => [(h, .inr (4, [.ref t1, .ref t2, .ref t3, .int na, .int ni, .int dy, .int vl, .int db])), (t1, .inr (5, [.ref a1, .int 10])), (t2, .inr (5, [.ref a2, .int 6])), (t3, .inr (5, [.ref a3, .int 3])), (a1, .inl (cI, 240, .inl RA)), (a2, .inl (cI, 30, .inl RI)), (a3, .inl (cI, 36, .inl RC))]) (va_A [(h, .inr (4, [.ref t1, .ref t2, .ref t3, .int na, .int ni, .int dy, .int vl, .int db])), (t1, .inr (5, [.ref a1, .int 10])), (t2, .inr (5, [.ref a2, .int 6])), (t3, .inr (5, [.ref a3, .int 3])), (a1, .inl (cI, 240, .inl RA)), (a2, .inl (cI, 30, .inl RI)), (a3, .inl (cI, 36, .inl RC))] sz)) 0 0 (va_A [(h, .inr (4, [.ref t1, .ref t2, .ref t3, .int na, .int ni, .int dy, .int vl, .int db])), (t1, .inr (5, [.ref a1, .int 10])), (t2, .inr (5, [.ref a2, .int 6])), (t3, .inr (5, [.ref a3, .int 3])), (a1, .inl (cI, 240, .inl RA)), (a2, .inl (cI, 30, .inl RI)), (a3, .inl (cI, 36, .inl RC))] sz) := by
  refine mkM (fun Fr => qI D (TY cI cC cS) (fun (r : Int32) (u : Bool) => fX5_hasInterviewer ni interviewer = u ∧ r = bi u) (fun u => [(h, .inr (4, [.ref t1, .ref t2, .ref t3, .int na, .int ni, .int dy, .int vl, .int db])), (t1, .inr (5, [.ref a1, .int 10])), (t2, .inr (5, [.ref a2, .int 6])), (t3, .inr (5, [.ref a3, .int 3])), (a1, .inl (cI, 240, .inl RA)), (a2, .inl (cI, 30, .inl RI)), (a3, .inl (cI, 36, .inl RC))]) Fr) (cc := cX5_hasInterviewer) (maxL := 2) (ret := (some .boolean)) (own := RX5) (lv := [(0, .ref h), (1, .int interviewer)]) (by decide) rfl rfl (Nat.le_of_ble_eq_true rfl) rfl ?_
  intro p e s m below meth c Fr ls hx hb hr hts hown hml hlk hin hP hK hD hS hA hAe hsz hX hl
  have w_1 := hts (.fieldLink RX5 44 "FieldQuotas$Survey" "interviewerCount" "I") (List.mem_of_getElem? (i := 1) rfl)
  have w_2 := sub_r (big := wsX5_hasInterviewer) (u_ws RX5 TX5 8) [5, 6, 7, 8, 9, 10, 11, 12] rfl
  refine lv_iload_n hx hb dX5_hasInterviewer_0 rfl (lv_at hl 1 rfl) ?_
  refine lv_iconst (v := 0) hx hb dX5_hasInterviewer_1 (by decide) ?_
  refine lv_aload_n hx hb dX5_hasInterviewer_2 rfl (lv_at hl 0 rfl) ?_
  refine va_get (D := D) (ci := 4) (C := RX5) (T := TX5) (N := 8) hx hb hts w_2 hown hK hP 0 rfl rfl 4 (by decide) w_1 (fun _ h9 => h9) rfl dX5_hasInterviewer_3 ?_
  refine lv_iconst (v := 1) hx hb dX5_hasInterviewer_6 (by decide) ?_
  refine lv_isub hx hb dX5_hasInterviewer_7 ?_
  refine callNi (As := [.int interviewer, .int 0, .int (ni - 1)]) (rest := []) (mX8_isWithin l D cI cC cS _ interviewer 0 (ni - 1)) ⟨hx, hb, hml, hown, hts⟩ (⟨va_cnB 3 hts gX5_hasInterviewer_X8_isWithin_n50 rfl rfl rfl hX.2.1 (hts (.initialized RX8) (List.mem_of_getElem? (i := 3) rfl)) (by decide +kernel) ⟨Nat.le_of_ble_eq_true rfl, Nat.le_of_ble_eq_true rfl⟩, hts (.static yX8_isWithin) (List.mem_of_getElem? (i := 2) rfl), trivial⟩) hP hK hD hS hA hl rfl rfl (Nat.le_of_ble_eq_true rfl) dX5_hasInterviewer_8 ⟨Nat.zero_le _, Nat.zero_le _⟩ (fun u_ H locs hk2 hP hS => ?_)
  obtain ⟨r_2, e_r_2⟩ : ∃ z, z = u_ := ⟨_, rfl⟩
  subst e_r_2
  refine W.eq (g2 := F0 m 11 ls [.int (bi r_2)]) rfl ?_
  exact endZ hx hb hr hlk hP hK hD hS dX5_hasInterviewer_11 (bi_nar _) r_2 rfl ⟨(bd1_e hk2).trans rfl, rfl⟩

/-- the value of X5_ofAddress, path by path -/
def fX5_ofAddress (RA : Nat → Int32) (address : Int32) (column : Int32) : Int32 :=
  bd1 (fX6_get 240 RA 10 address column) (fun (r_2 : Int32) => r_2)

set_option maxHeartbeats 4000000 in
set_option maxRecDepth 100000 in
/-- X5_ofAddress -/
theorem mX5_ofAddress (l : Launch) (D : va_G) (cI cC cS : ClassId) (sz : Nat) (h : Nat) (t1 : Nat) (t2 : Nat) (t3 : Nat) (a1 : Nat) (a2 : Nat) (a3 : Nat) (RA : Nat → Int32) (RI : Nat → Int32) (RC : Nat → Int32) (na : Int32) (ni : Int32) (dy : Int32) (vl : Int32) (db : Int32) (address : Int32) (column : Int32)  : Met l yX5_ofAddress wsX5_ofAddress ({ frames := 1, cells := 0, slots := 0, locals := 23 } : Jvm.Room) (va_Pc [.ref h, .int address, .int column] (wPre D (TY cI cC cS) [(h, .inr (4, [.ref t1, .ref t2, .ref t3, .int na, .int ni, .int dy, .int vl, .int db])), (t1, .inr (5, [.ref a1, .int 10])), (t2, .inr (5, [.ref a2, .int 6])), (t3, .inr (5, [.ref a3, .int 3])), (a1, .inl (cI, 240, .inl RA)), (a2, .inl (cI, 30, .inl RI)), (a3, .inl (cI, 36, .inl RC))] sz wN)) (qI D (TY cI cC cS) (fun (r : Int32) (u : Int32) => fX5_ofAddress RA address column = u ∧ r = u) (fun u => [(h, .inr (4, [.ref t1, .ref t2, .ref t3, .int na, .int ni, .int dy, .int vl, .int db])), (t1, .inr (5, [.ref a1, .int 10])), (t2, .inr (5, [.ref a2, .int 6])), (t3, .inr (5, [.ref a3, .int 3])), (a1, .inl (cI, 240, .inl RA)), (a2, .inl (cI, 30, .inl RI)), (a3, .inl (cI, 36, .inl RC))]) (va_A [(h, .inr (4, [.ref t1, .ref t2, .ref t3, .int na, .int ni, .int dy, .int vl, .int db])), (t1, .inr (5, [.ref a1, .int 10])), (t2, .inr (5, [.ref a2, .int 6])), (t3, .inr (5, [.ref a3, .int 3])), (a1, .inl (cI, 240, .inl RA)), (a2, .inl (cI, 30, .inl RI)), (a3, .inl (cI, 36, .inl RC))] sz)) 0 0 (va_A [(h, .inr (4, [.ref t1, .ref t2, .ref t3, .int na, .int ni, .int dy, .int vl, .int db])), (t1, .inr (5, [.ref a1, .int 10])), (t2, .inr (5, [.ref a2, .int 6])), (t3, .inr (5, [.ref a3, .int 3])), (a1, .inl (cI, 240, .inl RA)), (a2, .inl (cI, 30, .inl RI)), (a3, .inl (cI, 36, .inl RC))] sz) := by
  refine mkM (fun Fr => qI D (TY cI cC cS) (fun (r : Int32) (u : Int32) => fX5_ofAddress RA address column = u ∧ r = u) (fun u => [(h, .inr (4, [.ref t1, .ref t2, .ref t3, .int na, .int ni, .int dy, .int vl, .int db])), (t1, .inr (5, [.ref a1, .int 10])), (t2, .inr (5, [.ref a2, .int 6])), (t3, .inr (5, [.ref a3, .int 3])), (a1, .inl (cI, 240, .inl RA)), (a2, .inl (cI, 30, .inl RI)), (a3, .inl (cI, 36, .inl RC))]) Fr) (cc := cX5_ofAddress) (maxL := 3) (ret := (some .int)) (own := RX5) (lv := [(0, .ref h), (1, .int address), (2, .int column)]) (by decide) rfl rfl (Nat.le_of_ble_eq_true rfl) rfl ?_
  intro p e s m below meth c Fr ls hx hb hr hts hown hml hlk hin hP hK hD hS hA hAe hsz hX hl
  have w_1 := hts (.fieldLink RX5 14 "FieldQuotas$Survey" "addressRows" "LFieldQuotas$Table;") (List.mem_of_getElem? (i := 1) rfl)
  have w_2 := sub_r (big := wsX5_ofAddress) (u_ws RX5 TX5 8) [9, 10, 11, 12, 13, 14, 15, 16] rfl
  refine lv_aload_n hx hb dX5_ofAddress_0 rfl (lv_at hl 0 rfl) ?_
  refine va_get (D := D) (ci := 4) (C := RX5) (T := TX5) (N := 8) hx hb hts w_2 hown hK hP 0 rfl rfl 0 (by decide) w_1 (fun _ h9 => h9) rfl dX5_ofAddress_1 ?_
  refine lv_iload_n hx hb dX5_ofAddress_4 rfl (lv_at hl 1 rfl) ?_
  refine lv_iload_n hx hb dX5_ofAddress_5 rfl (lv_at hl 2 rfl) ?_
  refine callVi (As := [.int address, .int column]) (rest := []) (mX6_get l D cI cC cS _ t1 a1 240 RA 10 address column (by decide)) ⟨hx, hb, hml, hown, hts⟩ (cwV 2 hts gX5_ofAddress_X6_get rfl rfl rfl (by decide +kernel) ⟨Nat.le_of_ble_eq_true rfl, Nat.le_of_ble_eq_true rfl⟩) X0_blind (fun _ _ _ => trivial) hP hK hD hS hA hl [1, 4] rfl rfl 0 5 rfl rfl rfl rfl rfl (Nat.le_of_ble_eq_true rfl) dX5_ofAddress_6 ⟨Nat.zero_le _, Nat.zero_le _⟩ (fun _ => rfl) (fun u_ H locs hk2 hP hD hS => ?_)
  obtain ⟨r_2, e_r_2⟩ : ∃ z, z = u_ := ⟨_, rfl⟩
  subst e_r_2
  have hP : va_P D vwCl [(h, .inr (4, [.ref t1, .ref t2, .ref t3, .int na, .int ni, .int dy, .int vl, .int db])), (t1, .inr (5, [.ref a1, .int 10])), (t2, .inr (5, [.ref a2, .int 6])), (t3, .inr (5, [.ref a3, .int 3])), (a1, .inl (cI, 240, .inl RA)), (a2, .inl (cI, 30, .inl RI)), (a3, .inl (cI, 36, .inl RC))] H := hP
  have hD : va_D Fr [(h, .inr (4, [.ref t1, .ref t2, .ref t3, .int na, .int ni, .int dy, .int vl, .int db])), (t1, .inr (5, [.ref a1, .int 10])), (t2, .inr (5, [.ref a2, .int 6])), (t3, .inr (5, [.ref a3, .int 3])), (a1, .inl (cI, 240, .inl RA)), (a2, .inl (cI, 30, .inl RI)), (a3, .inl (cI, 36, .inl RC))] := hD
  refine W.eq (g2 := F0 m 9 ls [.int r_2]) rfl ?_
  exact endI hx hb hr hlk hP hK hD hS dX5_ofAddress_9 r_2 rfl ⟨(bd1_e hk2).trans rfl, rfl⟩

/-- the value of X5_ofInterviewer, path by path -/
def fX5_ofInterviewer (RI : Nat → Int32) (interviewer : Int32) (column : Int32) : Int32 :=
  bd1 (fX6_get 30 RI 6 interviewer column) (fun (r_2 : Int32) => r_2)

set_option maxHeartbeats 4000000 in
set_option maxRecDepth 100000 in
/-- X5_ofInterviewer -/
theorem mX5_ofInterviewer (l : Launch) (D : va_G) (cI cC cS : ClassId) (sz : Nat) (h : Nat) (t1 : Nat) (t2 : Nat) (t3 : Nat) (a1 : Nat) (a2 : Nat) (a3 : Nat) (RA : Nat → Int32) (RI : Nat → Int32) (RC : Nat → Int32) (na : Int32) (ni : Int32) (dy : Int32) (vl : Int32) (db : Int32) (interviewer : Int32) (column : Int32)  : Met l yX5_ofInterviewer wsX5_ofInterviewer ({ frames := 1, cells := 0, slots := 0, locals := 23 } : Jvm.Room) (va_Pc [.ref h, .int interviewer, .int column] (wPre D (TY cI cC cS) [(h, .inr (4, [.ref t1, .ref t2, .ref t3, .int na, .int ni, .int dy, .int vl, .int db])), (t1, .inr (5, [.ref a1, .int 10])), (t2, .inr (5, [.ref a2, .int 6])), (t3, .inr (5, [.ref a3, .int 3])), (a1, .inl (cI, 240, .inl RA)), (a2, .inl (cI, 30, .inl RI)), (a3, .inl (cI, 36, .inl RC))] sz wN)) (qI D (TY cI cC cS) (fun (r : Int32) (u : Int32) => fX5_ofInterviewer RI interviewer column = u ∧ r = u) (fun u => [(h, .inr (4, [.ref t1, .ref t2, .ref t3, .int na, .int ni, .int dy, .int vl, .int db])), (t1, .inr (5, [.ref a1, .int 10])), (t2, .inr (5, [.ref a2, .int 6])), (t3, .inr (5, [.ref a3, .int 3])), (a1, .inl (cI, 240, .inl RA)), (a2, .inl (cI, 30, .inl RI)), (a3, .inl (cI, 36, .inl RC))]) (va_A [(h, .inr (4, [.ref t1, .ref t2, .ref t3, .int na, .int ni, .int dy, .int vl, .int db])), (t1, .inr (5, [.ref a1, .int 10])), (t2, .inr (5, [.ref a2, .int 6])), (t3, .inr (5, [.ref a3, .int 3])), (a1, .inl (cI, 240, .inl RA)), (a2, .inl (cI, 30, .inl RI)), (a3, .inl (cI, 36, .inl RC))] sz)) 0 0 (va_A [(h, .inr (4, [.ref t1, .ref t2, .ref t3, .int na, .int ni, .int dy, .int vl, .int db])), (t1, .inr (5, [.ref a1, .int 10])), (t2, .inr (5, [.ref a2, .int 6])), (t3, .inr (5, [.ref a3, .int 3])), (a1, .inl (cI, 240, .inl RA)), (a2, .inl (cI, 30, .inl RI)), (a3, .inl (cI, 36, .inl RC))] sz) := by
  refine mkM (fun Fr => qI D (TY cI cC cS) (fun (r : Int32) (u : Int32) => fX5_ofInterviewer RI interviewer column = u ∧ r = u) (fun u => [(h, .inr (4, [.ref t1, .ref t2, .ref t3, .int na, .int ni, .int dy, .int vl, .int db])), (t1, .inr (5, [.ref a1, .int 10])), (t2, .inr (5, [.ref a2, .int 6])), (t3, .inr (5, [.ref a3, .int 3])), (a1, .inl (cI, 240, .inl RA)), (a2, .inl (cI, 30, .inl RI)), (a3, .inl (cI, 36, .inl RC))]) Fr) (cc := cX5_ofInterviewer) (maxL := 3) (ret := (some .int)) (own := RX5) (lv := [(0, .ref h), (1, .int interviewer), (2, .int column)]) (by decide) rfl rfl (Nat.le_of_ble_eq_true rfl) rfl ?_
  intro p e s m below meth c Fr ls hx hb hr hts hown hml hlk hin hP hK hD hS hA hAe hsz hX hl
  have w_1 := hts (.fieldLink RX5 20 "FieldQuotas$Survey" "interviewerRows" "LFieldQuotas$Table;") (List.mem_of_getElem? (i := 1) rfl)
  have w_2 := sub_r (big := wsX5_ofInterviewer) (u_ws RX5 TX5 8) [9, 10, 11, 12, 13, 14, 15, 16] rfl
  refine lv_aload_n hx hb dX5_ofInterviewer_0 rfl (lv_at hl 0 rfl) ?_
  refine va_get (D := D) (ci := 4) (C := RX5) (T := TX5) (N := 8) hx hb hts w_2 hown hK hP 0 rfl rfl 1 (by decide) w_1 (fun _ h9 => h9) rfl dX5_ofInterviewer_1 ?_
  refine lv_iload_n hx hb dX5_ofInterviewer_4 rfl (lv_at hl 1 rfl) ?_
  refine lv_iload_n hx hb dX5_ofInterviewer_5 rfl (lv_at hl 2 rfl) ?_
  refine callVi (As := [.int interviewer, .int column]) (rest := []) (mX6_get l D cI cC cS _ t2 a2 30 RI 6 interviewer column (by decide)) ⟨hx, hb, hml, hown, hts⟩ (cwV 2 hts gX5_ofInterviewer_X6_get rfl rfl rfl (by decide +kernel) ⟨Nat.le_of_ble_eq_true rfl, Nat.le_of_ble_eq_true rfl⟩) X0_blind (fun _ _ _ => trivial) hP hK hD hS hA hl [2, 5] rfl rfl 0 5 rfl rfl rfl rfl rfl (Nat.le_of_ble_eq_true rfl) dX5_ofInterviewer_6 ⟨Nat.zero_le _, Nat.zero_le _⟩ (fun _ => rfl) (fun u_ H locs hk2 hP hD hS => ?_)
  obtain ⟨r_2, e_r_2⟩ : ∃ z, z = u_ := ⟨_, rfl⟩
  subst e_r_2
  have hP : va_P D vwCl [(h, .inr (4, [.ref t1, .ref t2, .ref t3, .int na, .int ni, .int dy, .int vl, .int db])), (t1, .inr (5, [.ref a1, .int 10])), (t2, .inr (5, [.ref a2, .int 6])), (t3, .inr (5, [.ref a3, .int 3])), (a1, .inl (cI, 240, .inl RA)), (a2, .inl (cI, 30, .inl RI)), (a3, .inl (cI, 36, .inl RC))] H := hP
  have hD : va_D Fr [(h, .inr (4, [.ref t1, .ref t2, .ref t3, .int na, .int ni, .int dy, .int vl, .int db])), (t1, .inr (5, [.ref a1, .int 10])), (t2, .inr (5, [.ref a2, .int 6])), (t3, .inr (5, [.ref a3, .int 3])), (a1, .inl (cI, 240, .inl RA)), (a2, .inl (cI, 30, .inl RI)), (a3, .inl (cI, 36, .inl RC))] := hD
  refine W.eq (g2 := F0 m 9 ls [.int r_2]) rfl ?_
  exact endI hx hb hr hlk hP hK hD hS dX5_ofInterviewer_9 r_2 rfl ⟨(bd1_e hk2).trans rfl, rfl⟩

/-- the value of X5_ofCell, path by path -/
def fX5_ofCell (RC : Nat → Int32) (area : Int32) (group : Int32) (column : Int32) : Int32 :=
  bd1 (fX6_get 36 RC 3 ((area * 3) + group) column) (fun (r_2 : Int32) => r_2)

set_option maxHeartbeats 4000000 in
set_option maxRecDepth 100000 in
/-- X5_ofCell -/
theorem mX5_ofCell (l : Launch) (D : va_G) (cI cC cS : ClassId) (sz : Nat) (h : Nat) (t1 : Nat) (t2 : Nat) (t3 : Nat) (a1 : Nat) (a2 : Nat) (a3 : Nat) (RA : Nat → Int32) (RI : Nat → Int32) (RC : Nat → Int32) (na : Int32) (ni : Int32) (dy : Int32) (vl : Int32) (db : Int32) (area : Int32) (group : Int32) (column : Int32)  : Met l yX5_ofCell wsX5_ofCell ({ frames := 1, cells := 0, slots := 0, locals := 23 } : Jvm.Room) (va_Pc [.ref h, .int area, .int group, .int column] (wPre D (TY cI cC cS) [(h, .inr (4, [.ref t1, .ref t2, .ref t3, .int na, .int ni, .int dy, .int vl, .int db])), (t1, .inr (5, [.ref a1, .int 10])), (t2, .inr (5, [.ref a2, .int 6])), (t3, .inr (5, [.ref a3, .int 3])), (a1, .inl (cI, 240, .inl RA)), (a2, .inl (cI, 30, .inl RI)), (a3, .inl (cI, 36, .inl RC))] sz wN)) (qI D (TY cI cC cS) (fun (r : Int32) (u : Int32) => fX5_ofCell RC area group column = u ∧ r = u) (fun u => [(h, .inr (4, [.ref t1, .ref t2, .ref t3, .int na, .int ni, .int dy, .int vl, .int db])), (t1, .inr (5, [.ref a1, .int 10])), (t2, .inr (5, [.ref a2, .int 6])), (t3, .inr (5, [.ref a3, .int 3])), (a1, .inl (cI, 240, .inl RA)), (a2, .inl (cI, 30, .inl RI)), (a3, .inl (cI, 36, .inl RC))]) (va_A [(h, .inr (4, [.ref t1, .ref t2, .ref t3, .int na, .int ni, .int dy, .int vl, .int db])), (t1, .inr (5, [.ref a1, .int 10])), (t2, .inr (5, [.ref a2, .int 6])), (t3, .inr (5, [.ref a3, .int 3])), (a1, .inl (cI, 240, .inl RA)), (a2, .inl (cI, 30, .inl RI)), (a3, .inl (cI, 36, .inl RC))] sz)) 0 0 (va_A [(h, .inr (4, [.ref t1, .ref t2, .ref t3, .int na, .int ni, .int dy, .int vl, .int db])), (t1, .inr (5, [.ref a1, .int 10])), (t2, .inr (5, [.ref a2, .int 6])), (t3, .inr (5, [.ref a3, .int 3])), (a1, .inl (cI, 240, .inl RA)), (a2, .inl (cI, 30, .inl RI)), (a3, .inl (cI, 36, .inl RC))] sz) := by
  refine mkM (fun Fr => qI D (TY cI cC cS) (fun (r : Int32) (u : Int32) => fX5_ofCell RC area group column = u ∧ r = u) (fun u => [(h, .inr (4, [.ref t1, .ref t2, .ref t3, .int na, .int ni, .int dy, .int vl, .int db])), (t1, .inr (5, [.ref a1, .int 10])), (t2, .inr (5, [.ref a2, .int 6])), (t3, .inr (5, [.ref a3, .int 3])), (a1, .inl (cI, 240, .inl RA)), (a2, .inl (cI, 30, .inl RI)), (a3, .inl (cI, 36, .inl RC))]) Fr) (cc := cX5_ofCell) (maxL := 4) (ret := (some .int)) (own := RX5) (lv := [(0, .ref h), (1, .int area), (2, .int group), (3, .int column)]) (by decide) rfl rfl (Nat.le_of_ble_eq_true rfl) rfl ?_
  intro p e s m below meth c Fr ls hx hb hr hts hown hml hlk hin hP hK hD hS hA hAe hsz hX hl
  have w_1 := hts (.fieldLink RX5 23 "FieldQuotas$Survey" "cellRows" "LFieldQuotas$Table;") (List.mem_of_getElem? (i := 1) rfl)
  have w_2 := sub_r (big := wsX5_ofCell) (u_ws RX5 TX5 8) [9, 10, 11, 12, 13, 14, 15, 16] rfl
  refine lv_aload_n hx hb dX5_ofCell_0 rfl (lv_at hl 0 rfl) ?_
  refine va_get (D := D) (ci := 4) (C := RX5) (T := TX5) (N := 8) hx hb hts w_2 hown hK hP 0 rfl rfl 2 (by decide) w_1 (fun _ h9 => h9) rfl dX5_ofCell_1 ?_
  refine lv_iload_n hx hb dX5_ofCell_4 rfl (lv_at hl 1 rfl) ?_
  refine lv_iconst (v := 3) hx hb dX5_ofCell_5 (by decide) ?_
  refine lv_imul hx hb dX5_ofCell_6 ?_
  refine lv_iload_n hx hb dX5_ofCell_7 rfl (lv_at hl 2 rfl) ?_
  refine lv_iadd hx hb dX5_ofCell_8 ?_
  refine lv_iload_n hx hb dX5_ofCell_9 rfl (lv_at hl 3 rfl) ?_
  refine callVi (As := [.int ((area * 3) + group), .int column]) (rest := []) (mX6_get l D cI cC cS _ t3 a3 36 RC 3 ((area * 3) + group) column (by decide)) ⟨hx, hb, hml, hown, hts⟩ (cwV 2 hts gX5_ofCell_X6_get rfl rfl rfl (by decide +kernel) ⟨Nat.le_of_ble_eq_true rfl, Nat.le_of_ble_eq_true rfl⟩) X0_blind (fun _ _ _ => trivial) hP hK hD hS hA hl [3, 6] rfl rfl 0 5 rfl rfl rfl rfl rfl (Nat.le_of_ble_eq_true rfl) dX5_ofCell_10 ⟨Nat.zero_le _, Nat.zero_le _⟩ (fun _ => rfl) (fun u_ H locs hk2 hP hD hS => ?_)
  obtain ⟨r_2, e_r_2⟩ : ∃ z, z = u_ := ⟨_, rfl⟩
  subst e_r_2
  have hP : va_P D vwCl [(h, .inr (4, [.ref t1, .ref t2, .ref t3, .int na, .int ni, .int dy, .int vl, .int db])), (t1, .inr (5, [.ref a1, .int 10])), (t2, .inr (5, [.ref a2, .int 6])), (t3, .inr (5, [.ref a3, .int 3])), (a1, .inl (cI, 240, .inl RA)), (a2, .inl (cI, 30, .inl RI)), (a3, .inl (cI, 36, .inl RC))] H := hP
  have hD : va_D Fr [(h, .inr (4, [.ref t1, .ref t2, .ref t3, .int na, .int ni, .int dy, .int vl, .int db])), (t1, .inr (5, [.ref a1, .int 10])), (t2, .inr (5, [.ref a2, .int 6])), (t3, .inr (5, [.ref a3, .int 3])), (a1, .inl (cI, 240, .inl RA)), (a2, .inl (cI, 30, .inl RI)), (a3, .inl (cI, 36, .inl RC))] := hD
  refine W.eq (g2 := F0 m 13 ls [.int r_2]) rfl ?_
  exact endI hx hb hr hlk hP hK hD hS dX5_ofCell_13 r_2 rfl ⟨(bd1_e hk2).trans rfl, rfl⟩

/-- the value of X5_wantedIn, path by path -/
def fX5_wantedIn (RC : Nat → Int32) (area : Int32) (group : Int32) : Int32 :=
  bd1 ((area * 3) + group) (fun (y_1 : Int32) => bd1 (fX6_get 36 RC 3 y_1 0) (fun (r_3 : Int32) => bd1 (fX6_get 36 RC 3 y_1 1) (fun (r_5 : Int32) => bd1 (r_3 - r_5) (fun (y_6 : Int32) => (if y_6 ≤ 0 then 0 else y_6)))))

set_option maxHeartbeats 4000000 in
set_option maxRecDepth 100000 in
/-- X5_wantedIn -/
theorem mX5_wantedIn (l : Launch) (D : va_G) (cI cC cS : ClassId) (sz : Nat) (h : Nat) (t1 : Nat) (t2 : Nat) (t3 : Nat) (a1 : Nat) (a2 : Nat) (a3 : Nat) (RA : Nat → Int32) (RI : Nat → Int32) (RC : Nat → Int32) (na : Int32) (ni : Int32) (dy : Int32) (vl : Int32) (db : Int32) (area : Int32) (group : Int32)  : Met l yX5_wantedIn wsX5_wantedIn ({ frames := 1, cells := 0, slots := 0, locals := 23 } : Jvm.Room) (va_Pc [.ref h, .int area, .int group] (wPre D (TY cI cC cS) [(h, .inr (4, [.ref t1, .ref t2, .ref t3, .int na, .int ni, .int dy, .int vl, .int db])), (t1, .inr (5, [.ref a1, .int 10])), (t2, .inr (5, [.ref a2, .int 6])), (t3, .inr (5, [.ref a3, .int 3])), (a1, .inl (cI, 240, .inl RA)), (a2, .inl (cI, 30, .inl RI)), (a3, .inl (cI, 36, .inl RC))] sz wN)) (qI D (TY cI cC cS) (fun (r : Int32) (u : Int32) => fX5_wantedIn RC area group = u ∧ r = u) (fun u => [(h, .inr (4, [.ref t1, .ref t2, .ref t3, .int na, .int ni, .int dy, .int vl, .int db])), (t1, .inr (5, [.ref a1, .int 10])), (t2, .inr (5, [.ref a2, .int 6])), (t3, .inr (5, [.ref a3, .int 3])), (a1, .inl (cI, 240, .inl RA)), (a2, .inl (cI, 30, .inl RI)), (a3, .inl (cI, 36, .inl RC))]) (va_A [(h, .inr (4, [.ref t1, .ref t2, .ref t3, .int na, .int ni, .int dy, .int vl, .int db])), (t1, .inr (5, [.ref a1, .int 10])), (t2, .inr (5, [.ref a2, .int 6])), (t3, .inr (5, [.ref a3, .int 3])), (a1, .inl (cI, 240, .inl RA)), (a2, .inl (cI, 30, .inl RI)), (a3, .inl (cI, 36, .inl RC))] sz)) 0 0 (va_A [(h, .inr (4, [.ref t1, .ref t2, .ref t3, .int na, .int ni, .int dy, .int vl, .int db])), (t1, .inr (5, [.ref a1, .int 10])), (t2, .inr (5, [.ref a2, .int 6])), (t3, .inr (5, [.ref a3, .int 3])), (a1, .inl (cI, 240, .inl RA)), (a2, .inl (cI, 30, .inl RI)), (a3, .inl (cI, 36, .inl RC))] sz) := by
  refine mkM (fun Fr => qI D (TY cI cC cS) (fun (r : Int32) (u : Int32) => fX5_wantedIn RC area group = u ∧ r = u) (fun u => [(h, .inr (4, [.ref t1, .ref t2, .ref t3, .int na, .int ni, .int dy, .int vl, .int db])), (t1, .inr (5, [.ref a1, .int 10])), (t2, .inr (5, [.ref a2, .int 6])), (t3, .inr (5, [.ref a3, .int 3])), (a1, .inl (cI, 240, .inl RA)), (a2, .inl (cI, 30, .inl RI)), (a3, .inl (cI, 36, .inl RC))]) Fr) (cc := cX5_wantedIn) (maxL := 5) (ret := (some .int)) (own := RX5) (lv := [(0, .ref h), (1, .int area), (2, .int group)]) (by decide) rfl rfl (Nat.le_of_ble_eq_true rfl) rfl ?_
  intro p e s m below meth c Fr ls hx hb hr hts hown hml hlk hin hP hK hD hS hA hAe hsz hX hl
  have w_1 := hts (.fieldLink RX5 23 "FieldQuotas$Survey" "cellRows" "LFieldQuotas$Table;") (List.mem_of_getElem? (i := 1) rfl)
  have w_2 := sub_r (big := wsX5_wantedIn) (u_ws RX5 TX5 8) [9, 10, 11, 12, 13, 14, 15, 16] rfl
  refine lv_iload_n hx hb dX5_wantedIn_0 rfl (lv_at hl 1 rfl) ?_
  refine lv_iconst (v := 3) hx hb dX5_wantedIn_1 (by decide) ?_
  refine lv_imul hx hb dX5_wantedIn_2 ?_
  refine lv_iload_n hx hb dX5_wantedIn_3 rfl (lv_at hl 2 rfl) ?_
  refine lv_iadd hx hb dX5_wantedIn_4 ?_
  refine lv_topi (fun y_1 ey_1 => ?_)
  refine lv_istore_n (lv' := [(3, .int y_1), (0, .ref h), (1, .int area), (2, .int group)]) hx hb dX5_wantedIn_5 rfl hl (by decide) rfl (fun ls hl => ?_)
  refine lv_aload_n hx hb dX5_wantedIn_6 rfl (lv_at hl 1 rfl) ?_
  refine va_get (D := D) (ci := 4) (C := RX5) (T := TX5) (N := 8) hx hb hts w_2 hown hK hP 0 rfl rfl 2 (by decide) w_1 (fun _ h9 => h9) rfl dX5_wantedIn_7 ?_
  refine lv_iload_n hx hb dX5_wantedIn_10 rfl (lv_at hl 0 rfl) ?_
  refine lv_iconst (v := 0) hx hb dX5_wantedIn_11 (by decide) ?_
  refine callVi (As := [.int y_1, .int 0]) (rest := []) (mX6_get l D cI cC cS _ t3 a3 36 RC 3 y_1 0 (by decide)) ⟨hx, hb, hml, hown, hts⟩ (cwV 2 hts gX5_wantedIn_X6_get rfl rfl rfl (by decide +kernel) ⟨Nat.le_of_ble_eq_true rfl, Nat.le_of_ble_eq_true rfl⟩) X0_blind (fun _ _ _ => trivial) hP hK hD hS hA hl [3, 6] rfl rfl 0 5 rfl rfl rfl rfl rfl (Nat.le_of_ble_eq_true rfl) dX5_wantedIn_12 ⟨Nat.zero_le _, Nat.zero_le _⟩ (fun _ => rfl) (fun u_ H locs hk3 hP hD hS => ?_)
  obtain ⟨r_3, e_r_3⟩ : ∃ z, z = u_ := ⟨_, rfl⟩
  subst e_r_3
  have hP : va_P D vwCl [(h, .inr (4, [.ref t1, .ref t2, .ref t3, .int na, .int ni, .int dy, .int vl, .int db])), (t1, .inr (5, [.ref a1, .int 10])), (t2, .inr (5, [.ref a2, .int 6])), (t3, .inr (5, [.ref a3, .int 3])), (a1, .inl (cI, 240, .inl RA)), (a2, .inl (cI, 30, .inl RI)), (a3, .inl (cI, 36, .inl RC))] H := hP
  have hD : va_D Fr [(h, .inr (4, [.ref t1, .ref t2, .ref t3, .int na, .int ni, .int dy, .int vl, .int db])), (t1, .inr (5, [.ref a1, .int 10])), (t2, .inr (5, [.ref a2, .int 6])), (t3, .inr (5, [.ref a3, .int 3])), (a1, .inl (cI, 240, .inl RA)), (a2, .inl (cI, 30, .inl RI)), (a3, .inl (cI, 36, .inl RC))] := hD
  refine W.eq (g2 := F0 m 15 ls [.int r_3]) rfl ?_
  refine lv_aload_n hx hb dX5_wantedIn_15 rfl (lv_at hl 1 rfl) ?_
  refine va_get (D := D) (ci := 4) (C := RX5) (T := TX5) (N := 8) hx hb hts w_2 hown hK hP 0 rfl rfl 2 (by decide) w_1 (fun _ h9 => h9) rfl dX5_wantedIn_16 ?_
  refine lv_iload_n hx hb dX5_wantedIn_19 rfl (lv_at hl 0 rfl) ?_
  refine lv_iconst (v := 1) hx hb dX5_wantedIn_20 (by decide) ?_
  refine callVi (As := [.int y_1, .int 1]) (rest := [.int r_3]) (mX6_get l D cI cC cS _ t3 a3 36 RC 3 y_1 1 (by decide)) ⟨hx, hb, hml, hown, hts⟩ (cwV 2 hts gX5_wantedIn_X6_get rfl rfl rfl (by decide +kernel) ⟨Nat.le_of_ble_eq_true rfl, Nat.le_of_ble_eq_true rfl⟩) X0_blind (fun _ _ _ => trivial) hP hK hD hS hA hl [3, 6] rfl rfl 0 5 rfl rfl rfl rfl rfl (Nat.le_of_ble_eq_true rfl) dX5_wantedIn_21 ⟨Nat.zero_le _, Nat.zero_le _⟩ (fun _ => rfl) (fun u_ H locs hk5 hP hD hS => ?_)
  obtain ⟨r_5, e_r_5⟩ : ∃ z, z = u_ := ⟨_, rfl⟩
  subst e_r_5
  have hP : va_P D vwCl [(h, .inr (4, [.ref t1, .ref t2, .ref t3, .int na, .int ni, .int dy, .int vl, .int db])), (t1, .inr (5, [.ref a1, .int 10])), (t2, .inr (5, [.ref a2, .int 6])), (t3, .inr (5, [.ref a3, .int 3])), (a1, .inl (cI, 240, .inl RA)), (a2, .inl (cI, 30, .inl RI)), (a3, .inl (cI, 36, .inl RC))] H := hP
  have hD : va_D Fr [(h, .inr (4, [.ref t1, .ref t2, .ref t3, .int na, .int ni, .int dy, .int vl, .int db])), (t1, .inr (5, [.ref a1, .int 10])), (t2, .inr (5, [.ref a2, .int 6])), (t3, .inr (5, [.ref a3, .int 3])), (a1, .inl (cI, 240, .inl RA)), (a2, .inl (cI, 30, .inl RI)), (a3, .inl (cI, 36, .inl RC))] := hD
  refine W.eq (g2 := F0 m 24 ls [.int r_5, .int r_3]) rfl ?_
  refine lv_isub hx hb dX5_wantedIn_24 ?_
  refine lv_topi (fun y_6 ey_6 => ?_)
  refine lv_istore (lv' := [(4, .int y_6), (3, .int y_1), (0, .ref h), (1, .int area), (2, .int group)]) hx hb dX5_wantedIn_25 hl (by decide) rfl (fun ls hl => ?_)
  refine lv_iload hx hb dX5_wantedIn_27 (lv_at hl 0 rfl) ?_
  refine lv_if_le (tgt := 37) hx hb dX5_wantedIn_29 (by decide) (fun c29 => ?_) (fun c29 => ?_)
  · refine lv_iconst (v := 0) hx hb dX5_wantedIn_37 (by decide) ?_
    exact endI hx hb hr hlk hP hK hD hS dX5_wantedIn_38 0 rfl ⟨(bd1_n ey_1).trans ((bd1_e hk3).trans ((bd1_e hk5).trans ((bd1_n ey_6).trans ((if_pos c29).trans rfl)))), rfl⟩
  · refine lv_iload hx hb dX5_wantedIn_32 (lv_at hl 0 rfl) ?_
    refine lv_goto (tgt := 38) hx hb dX5_wantedIn_34 (by decide) ?_
    exact endI hx hb hr hlk hP hK hD hS dX5_wantedIn_38 y_6 rfl ⟨(bd1_n ey_1).trans ((bd1_e hk3).trans ((bd1_e hk5).trans ((bd1_n ey_6).trans ((if_neg c29).trans rfl)))), rfl⟩

/-- the value of X5_isOpen, path by path -/
def fX5_isOpen (RA : Nat → Int32) (address : Int32) : Bool :=
  bd1 (fX6_get 240 RA 10 address 1) (fun (r_2 : Int32) => (if r_2 = 0 then true else false))

set_option maxHeartbeats 4000000 in
set_option maxRecDepth 100000 in
/-- X5_isOpen -/
theorem mX5_isOpen (l : Launch) (D : va_G) (cI cC cS : ClassId) (sz : Nat) (h : Nat) (t1 : Nat) (t2 : Nat) (t3 : Nat) (a1 : Nat) (a2 : Nat) (a3 : Nat) (RA : Nat → Int32) (RI : Nat → Int32) (RC : Nat → Int32) (na : Int32) (ni : Int32) (dy : Int32) (vl : Int32) (db : Int32) (address : Int32)  : Met l yX5_isOpen wsX5_isOpen ({ frames := 1, cells := 0, slots := 0, locals := 23 } : Jvm.Room) (va_Pc [.ref h, .int address] (wPre D (TY cI cC cS) [(h, .inr (4, [.ref t1, .ref t2, .ref t3, .int na, .int ni, .int dy, .int vl, .int db])), (t1, .inr (5, [.ref a1, .int 10])), (t2, .inr (5, [.ref a2, .int 6])), (t3, .inr (5, [.ref a3, .int 3])), (a1, .inl (cI, 240, .inl RA)), (a2, .inl (cI, 30, .inl RI)), (a3, .inl (cI, 36, .inl RC))] sz wN)) (qI D (TY cI cC cS) (fun (r : Int32) (u : Bool) => fX5_isOpen RA address = u ∧ r = bi u) (fun u => [(h, .inr (4, [.ref t1, .ref t2, .ref t3, .int na, .int ni, .int dy, .int vl, .int db])), (t1, .inr (5, [.ref a1, .int 10])), (t2, .inr (5, [.ref a2, .int 6])), (t3, .inr (5, [.ref a3, .int 3])), (a1, .inl (cI, 240, .inl RA)), (a2, .inl (cI, 30, .inl RI)), (a3, .inl (cI, 36, .inl RC))]) (va_A [(h, .inr (4, [.ref t1, .ref t2, .ref t3, .int na, .int ni, .int dy, .int vl, .int db])), (t1, .inr (5, [.ref a1, .int 10])), (t2, .inr (5, [.ref a2, .int 6])), (t3, .inr (5, [.ref a3, .int 3])), (a1, .inl (cI, 240, .inl RA)), (a2, .inl (cI, 30, .inl RI)), (a3, .inl (cI, 36, .inl RC))] sz)) 0 0 (va_A [(h, .inr (4, [.ref t1, .ref t2, .ref t3, .int na, .int ni, .int dy, .int vl, .int db])), (t1, .inr (5, [.ref a1, .int 10])), (t2, .inr (5, [.ref a2, .int 6])), (t3, .inr (5, [.ref a3, .int 3])), (a1, .inl (cI, 240, .inl RA)), (a2, .inl (cI, 30, .inl RI)), (a3, .inl (cI, 36, .inl RC))] sz) := by
  refine mkM (fun Fr => qI D (TY cI cC cS) (fun (r : Int32) (u : Bool) => fX5_isOpen RA address = u ∧ r = bi u) (fun u => [(h, .inr (4, [.ref t1, .ref t2, .ref t3, .int na, .int ni, .int dy, .int vl, .int db])), (t1, .inr (5, [.ref a1, .int 10])), (t2, .inr (5, [.ref a2, .int 6])), (t3, .inr (5, [.ref a3, .int 3])), (a1, .inl (cI, 240, .inl RA)), (a2, .inl (cI, 30, .inl RI)), (a3, .inl (cI, 36, .inl RC))]) Fr) (cc := cX5_isOpen) (maxL := 2) (ret := (some .boolean)) (own := RX5) (lv := [(0, .ref h), (1, .int address)]) (by decide) rfl rfl (Nat.le_of_ble_eq_true rfl) rfl ?_
  intro p e s m below meth c Fr ls hx hb hr hts hown hml hlk hin hP hK hD hS hA hAe hsz hX hl
  have w_1 := hts (.fieldLink RX5 14 "FieldQuotas$Survey" "addressRows" "LFieldQuotas$Table;") (List.mem_of_getElem? (i := 1) rfl)
  have w_2 := sub_r (big := wsX5_isOpen) (u_ws RX5 TX5 8) [9, 10, 11, 12, 13, 14, 15, 16] rfl
  refine lv_aload_n hx hb dX5_isOpen_0 rfl (lv_at hl 0 rfl) ?_
  refine va_get (D := D) (ci := 4) (C := RX5) (T := TX5) (N := 8) hx hb hts w_2 hown hK hP 0 rfl rfl 0 (by decide) w_1 (fun _ h9 => h9) rfl dX5_isOpen_1 ?_
  refine lv_iload_n hx hb dX5_isOpen_4 rfl (lv_at hl 1 rfl) ?_
  refine lv_iconst (v := 1) hx hb dX5_isOpen_5 (by decide) ?_
  refine callVi (As := [.int address, .int 1]) (rest := []) (mX6_get l D cI cC cS _ t1 a1 240 RA 10 address 1 (by decide)) ⟨hx, hb, hml, hown, hts⟩ (cwV 2 hts gX5_isOpen_X6_get rfl rfl rfl (by decide +kernel) ⟨Nat.le_of_ble_eq_true rfl, Nat.le_of_ble_eq_true rfl⟩) X0_blind (fun _ _ _ => trivial) hP hK hD hS hA hl [1, 4] rfl rfl 0 5 rfl rfl rfl rfl rfl (Nat.le_of_ble_eq_true rfl) dX5_isOpen_6 ⟨Nat.zero_le _, Nat.zero_le _⟩ (fun _ => rfl) (fun u_ H locs hk2 hP hD hS => ?_)
  obtain ⟨r_2, e_r_2⟩ : ∃ z, z = u_ := ⟨_, rfl⟩
  subst e_r_2
  have hP : va_P D vwCl [(h, .inr (4, [.ref t1, .ref t2, .ref t3, .int na, .int ni, .int dy, .int vl, .int db])), (t1, .inr (5, [.ref a1, .int 10])), (t2, .inr (5, [.ref a2, .int 6])), (t3, .inr (5, [.ref a3, .int 3])), (a1, .inl (cI, 240, .inl RA)), (a2, .inl (cI, 30, .inl RI)), (a3, .inl (cI, 36, .inl RC))] H := hP
  have hD : va_D Fr [(h, .inr (4, [.ref t1, .ref t2, .ref t3, .int na, .int ni, .int dy, .int vl, .int db])), (t1, .inr (5, [.ref a1, .int 10])), (t2, .inr (5, [.ref a2, .int 6])), (t3, .inr (5, [.ref a3, .int 3])), (a1, .inl (cI, 240, .inl RA)), (a2, .inl (cI, 30, .inl RI)), (a3, .inl (cI, 36, .inl RC))] := hD
  refine W.eq (g2 := F0 m 9 ls [.int r_2]) rfl ?_
  refine lv_if_ne (tgt := 16) hx hb dX5_isOpen_9 (by decide) (fun c9 => ?_) (fun c9 => ?_)
  · refine lv_iconst (v := 0) hx hb dX5_isOpen_16 (by decide) ?_
    exact endZ hx hb hr hlk hP hK hD hS dX5_isOpen_17 rfl false rfl ⟨(bd1_e hk2).trans ((if_neg c9).trans rfl), rfl⟩
  · refine lv_iconst (v := 1) hx hb dX5_isOpen_12 (by decide) ?_
    refine lv_goto (tgt := 17) hx hb dX5_isOpen_13 (by decide) ?_
    exact endZ hx hb hr hlk hP hK hD hS dX5_isOpen_17 rfl true rfl ⟨(bd1_e hk2).trans ((if_pos c9).trans rfl), rfl⟩

/-- the value of X5_hasMeeting, path by path -/
def fX5_hasMeeting (RA : Nat → Int32) (address : Int32) : Bool :=
  bd1 (fX6_get 240 RA 10 address 6) (fun (r_2 : Int32) => (if r_2 = (-4) then false else true))

set_option maxHeartbeats 4000000 in
set_option maxRecDepth 100000 in
/-- X5_hasMeeting -/
theorem mX5_hasMeeting (l : Launch) (D : va_G) (cI cC cS : ClassId) (sz : Nat) (h : Nat) (t1 : Nat) (t2 : Nat) (t3 : Nat) (a1 : Nat) (a2 : Nat) (a3 : Nat) (RA : Nat → Int32) (RI : Nat → Int32) (RC : Nat → Int32) (na : Int32) (ni : Int32) (dy : Int32) (vl : Int32) (db : Int32) (address : Int32)  : Met l yX5_hasMeeting wsX5_hasMeeting ({ frames := 1, cells := 0, slots := 0, locals := 23 } : Jvm.Room) (va_Pc [.ref h, .int address] (wPre D (TY cI cC cS) [(h, .inr (4, [.ref t1, .ref t2, .ref t3, .int na, .int ni, .int dy, .int vl, .int db])), (t1, .inr (5, [.ref a1, .int 10])), (t2, .inr (5, [.ref a2, .int 6])), (t3, .inr (5, [.ref a3, .int 3])), (a1, .inl (cI, 240, .inl RA)), (a2, .inl (cI, 30, .inl RI)), (a3, .inl (cI, 36, .inl RC))] sz wN)) (qI D (TY cI cC cS) (fun (r : Int32) (u : Bool) => fX5_hasMeeting RA address = u ∧ r = bi u) (fun u => [(h, .inr (4, [.ref t1, .ref t2, .ref t3, .int na, .int ni, .int dy, .int vl, .int db])), (t1, .inr (5, [.ref a1, .int 10])), (t2, .inr (5, [.ref a2, .int 6])), (t3, .inr (5, [.ref a3, .int 3])), (a1, .inl (cI, 240, .inl RA)), (a2, .inl (cI, 30, .inl RI)), (a3, .inl (cI, 36, .inl RC))]) (va_A [(h, .inr (4, [.ref t1, .ref t2, .ref t3, .int na, .int ni, .int dy, .int vl, .int db])), (t1, .inr (5, [.ref a1, .int 10])), (t2, .inr (5, [.ref a2, .int 6])), (t3, .inr (5, [.ref a3, .int 3])), (a1, .inl (cI, 240, .inl RA)), (a2, .inl (cI, 30, .inl RI)), (a3, .inl (cI, 36, .inl RC))] sz)) 0 0 (va_A [(h, .inr (4, [.ref t1, .ref t2, .ref t3, .int na, .int ni, .int dy, .int vl, .int db])), (t1, .inr (5, [.ref a1, .int 10])), (t2, .inr (5, [.ref a2, .int 6])), (t3, .inr (5, [.ref a3, .int 3])), (a1, .inl (cI, 240, .inl RA)), (a2, .inl (cI, 30, .inl RI)), (a3, .inl (cI, 36, .inl RC))] sz) := by
  refine mkM (fun Fr => qI D (TY cI cC cS) (fun (r : Int32) (u : Bool) => fX5_hasMeeting RA address = u ∧ r = bi u) (fun u => [(h, .inr (4, [.ref t1, .ref t2, .ref t3, .int na, .int ni, .int dy, .int vl, .int db])), (t1, .inr (5, [.ref a1, .int 10])), (t2, .inr (5, [.ref a2, .int 6])), (t3, .inr (5, [.ref a3, .int 3])), (a1, .inl (cI, 240, .inl RA)), (a2, .inl (cI, 30, .inl RI)), (a3, .inl (cI, 36, .inl RC))]) Fr) (cc := cX5_hasMeeting) (maxL := 2) (ret := (some .boolean)) (own := RX5) (lv := [(0, .ref h), (1, .int address)]) (by decide) rfl rfl (Nat.le_of_ble_eq_true rfl) rfl ?_
  intro p e s m below meth c Fr ls hx hb hr hts hown hml hlk hin hP hK hD hS hA hAe hsz hX hl
  have w_1 := hts (.fieldLink RX5 14 "FieldQuotas$Survey" "addressRows" "LFieldQuotas$Table;") (List.mem_of_getElem? (i := 1) rfl)
  have w_2 := sub_r (big := wsX5_hasMeeting) (u_ws RX5 TX5 8) [9, 10, 11, 12, 13, 14, 15, 16] rfl
  refine lv_aload_n hx hb dX5_hasMeeting_0 rfl (lv_at hl 0 rfl) ?_
  refine va_get (D := D) (ci := 4) (C := RX5) (T := TX5) (N := 8) hx hb hts w_2 hown hK hP 0 rfl rfl 0 (by decide) w_1 (fun _ h9 => h9) rfl dX5_hasMeeting_1 ?_
  refine lv_iload_n hx hb dX5_hasMeeting_4 rfl (lv_at hl 1 rfl) ?_
  refine lv_bipush (v := 6) hx hb dX5_hasMeeting_5 (by decide) ?_
  refine callVi (As := [.int address, .int 6]) (rest := []) (mX6_get l D cI cC cS _ t1 a1 240 RA 10 address 6 (by decide)) ⟨hx, hb, hml, hown, hts⟩ (cwV 2 hts gX5_hasMeeting_X6_get rfl rfl rfl (by decide +kernel) ⟨Nat.le_of_ble_eq_true rfl, Nat.le_of_ble_eq_true rfl⟩) X0_blind (fun _ _ _ => trivial) hP hK hD hS hA hl [1, 4] rfl rfl 0 5 rfl rfl rfl rfl rfl (Nat.le_of_ble_eq_true rfl) dX5_hasMeeting_7 ⟨Nat.zero_le _, Nat.zero_le _⟩ (fun _ => rfl) (fun u_ H locs hk2 hP hD hS => ?_)
  obtain ⟨r_2, e_r_2⟩ : ∃ z, z = u_ := ⟨_, rfl⟩
  subst e_r_2
  have hP : va_P D vwCl [(h, .inr (4, [.ref t1, .ref t2, .ref t3, .int na, .int ni, .int dy, .int vl, .int db])), (t1, .inr (5, [.ref a1, .int 10])), (t2, .inr (5, [.ref a2, .int 6])), (t3, .inr (5, [.ref a3, .int 3])), (a1, .inl (cI, 240, .inl RA)), (a2, .inl (cI, 30, .inl RI)), (a3, .inl (cI, 36, .inl RC))] H := hP
  have hD : va_D Fr [(h, .inr (4, [.ref t1, .ref t2, .ref t3, .int na, .int ni, .int dy, .int vl, .int db])), (t1, .inr (5, [.ref a1, .int 10])), (t2, .inr (5, [.ref a2, .int 6])), (t3, .inr (5, [.ref a3, .int 3])), (a1, .inl (cI, 240, .inl RA)), (a2, .inl (cI, 30, .inl RI)), (a3, .inl (cI, 36, .inl RC))] := hD
  refine W.eq (g2 := F0 m 10 ls [.int r_2]) rfl ?_
  refine lv_bipush (v := (-4)) hx hb dX5_hasMeeting_10 (by decide) ?_
  refine lv_icmp_eq (tgt := 19) hx hb dX5_hasMeeting_12 (by decide) (fun c12 => ?_) (fun c12 => ?_)
  · refine lv_iconst (v := 0) hx hb dX5_hasMeeting_19 (by decide) ?_
    exact endZ hx hb hr hlk hP hK hD hS dX5_hasMeeting_20 rfl false rfl ⟨(bd1_e hk2).trans ((if_pos c12).trans rfl), rfl⟩
  · refine lv_iconst (v := 1) hx hb dX5_hasMeeting_15 (by decide) ?_
    refine lv_goto (tgt := 20) hx hb dX5_hasMeeting_16 (by decide) ?_
    exact endZ hx hb hr hlk hP hK hD hS dX5_hasMeeting_20 rfl true rfl ⟨(bd1_e hk2).trans ((if_neg c12).trans rfl), rfl⟩

/-- the value of X5_isMeetingOver, path by path -/
def fX5_isMeetingOver (RA : Nat → Int32) (dy : Int32) (address : Int32) : Bool :=
  bd1 (fX6_get 240 RA 10 address 6) (fun (r_2 : Int32) => (if r_2 = (-4) then false else (if dy ≤ r_2 then false else true)))

set_option maxHeartbeats 4000000 in
set_option maxRecDepth 100000 in
/-- X5_isMeetingOver -/
theorem mX5_isMeetingOver (l : Launch) (D : va_G) (cI cC cS : ClassId) (sz : Nat) (h : Nat) (t1 : Nat) (t2 : Nat) (t3 : Nat) (a1 : Nat) (a2 : Nat) (a3 : Nat) (RA : Nat → Int32) (RI : Nat → Int32) (RC : Nat → Int32) (na : Int32) (ni : Int32) (dy : Int32) (vl : Int32) (db : Int32) (address : Int32)  : Met l yX5_isMeetingOver wsX5_isMeetingOver ({ frames := 1, cells := 0, slots := 0, locals := 23 } : Jvm.Room) (va_Pc [.ref h, .int address] (wPre D (TY cI cC cS) [(h, .inr (4, [.ref t1, .ref t2, .ref t3, .int na, .int ni, .int dy, .int vl, .int db])), (t1, .inr (5, [.ref a1, .int 10])), (t2, .inr (5, [.ref a2, .int 6])), (t3, .inr (5, [.ref a3, .int 3])), (a1, .inl (cI, 240, .inl RA)), (a2, .inl (cI, 30, .inl RI)), (a3, .inl (cI, 36, .inl RC))] sz wN)) (qI D (TY cI cC cS) (fun (r : Int32) (u : Bool) => fX5_isMeetingOver RA dy address = u ∧ r = bi u) (fun u => [(h, .inr (4, [.ref t1, .ref t2, .ref t3, .int na, .int ni, .int dy, .int vl, .int db])), (t1, .inr (5, [.ref a1, .int 10])), (t2, .inr (5, [.ref a2, .int 6])), (t3, .inr (5, [.ref a3, .int 3])), (a1, .inl (cI, 240, .inl RA)), (a2, .inl (cI, 30, .inl RI)), (a3, .inl (cI, 36, .inl RC))]) (va_A [(h, .inr (4, [.ref t1, .ref t2, .ref t3, .int na, .int ni, .int dy, .int vl, .int db])), (t1, .inr (5, [.ref a1, .int 10])), (t2, .inr (5, [.ref a2, .int 6])), (t3, .inr (5, [.ref a3, .int 3])), (a1, .inl (cI, 240, .inl RA)), (a2, .inl (cI, 30, .inl RI)), (a3, .inl (cI, 36, .inl RC))] sz)) 0 0 (va_A [(h, .inr (4, [.ref t1, .ref t2, .ref t3, .int na, .int ni, .int dy, .int vl, .int db])), (t1, .inr (5, [.ref a1, .int 10])), (t2, .inr (5, [.ref a2, .int 6])), (t3, .inr (5, [.ref a3, .int 3])), (a1, .inl (cI, 240, .inl RA)), (a2, .inl (cI, 30, .inl RI)), (a3, .inl (cI, 36, .inl RC))] sz) := by
  refine mkM (fun Fr => qI D (TY cI cC cS) (fun (r : Int32) (u : Bool) => fX5_isMeetingOver RA dy address = u ∧ r = bi u) (fun u => [(h, .inr (4, [.ref t1, .ref t2, .ref t3, .int na, .int ni, .int dy, .int vl, .int db])), (t1, .inr (5, [.ref a1, .int 10])), (t2, .inr (5, [.ref a2, .int 6])), (t3, .inr (5, [.ref a3, .int 3])), (a1, .inl (cI, 240, .inl RA)), (a2, .inl (cI, 30, .inl RI)), (a3, .inl (cI, 36, .inl RC))]) Fr) (cc := cX5_isMeetingOver) (maxL := 3) (ret := (some .boolean)) (own := RX5) (lv := [(0, .ref h), (1, .int address)]) (by decide) rfl rfl (Nat.le_of_ble_eq_true rfl) rfl ?_
  intro p e s m below meth c Fr ls hx hb hr hts hown hml hlk hin hP hK hD hS hA hAe hsz hX hl
  have w_1 := hts (.fieldLink RX5 14 "FieldQuotas$Survey" "addressRows" "LFieldQuotas$Table;") (List.mem_of_getElem? (i := 1) rfl)
  have w_2 := sub_r (big := wsX5_isMeetingOver) (u_ws RX5 TX5 8) [10, 11, 12, 13, 14, 15, 16, 17] rfl
  have w_3 := hts (.fieldLink RX5 47 "FieldQuotas$Survey" "day" "I") (List.mem_of_getElem? (i := 2) rfl)
  refine lv_aload_n hx hb dX5_isMeetingOver_0 rfl (lv_at hl 0 rfl) ?_
  refine va_get (D := D) (ci := 4) (C := RX5) (T := TX5) (N := 8) hx hb hts w_2 hown hK hP 0 rfl rfl 0 (by decide) w_1 (fun _ h9 => h9) rfl dX5_isMeetingOver_1 ?_
  refine lv_iload_n hx hb dX5_isMeetingOver_4 rfl (lv_at hl 1 rfl) ?_
  refine lv_bipush (v := 6) hx hb dX5_isMeetingOver_5 (by decide) ?_
  refine callVi (As := [.int address, .int 6]) (rest := []) (mX6_get l D cI cC cS _ t1 a1 240 RA 10 address 6 (by decide)) ⟨hx, hb, hml, hown, hts⟩ (cwV 2 hts gX5_isMeetingOver_X6_get rfl rfl rfl (by decide +kernel) ⟨Nat.le_of_ble_eq_true rfl, Nat.le_of_ble_eq_true rfl⟩) X0_blind (fun _ _ _ => trivial) hP hK hD hS hA hl [1, 4] rfl rfl 0 5 rfl rfl rfl rfl rfl (Nat.le_of_ble_eq_true rfl) dX5_isMeetingOver_7 ⟨Nat.zero_le _, Nat.zero_le _⟩ (fun _ => rfl) (fun u_ H locs hk2 hP hD hS => ?_)
  obtain ⟨r_2, e_r_2⟩ : ∃ z, z = u_ := ⟨_, rfl⟩
  subst e_r_2
  have hP : va_P D vwCl [(h, .inr (4, [.ref t1, .ref t2, .ref t3, .int na, .int ni, .int dy, .int vl, .int db])), (t1, .inr (5, [.ref a1, .int 10])), (t2, .inr (5, [.ref a2, .int 6])), (t3, .inr (5, [.ref a3, .int 3])), (a1, .inl (cI, 240, .inl RA)), (a2, .inl (cI, 30, .inl RI)), (a3, .inl (cI, 36, .inl RC))] H := hP
  have hD : va_D Fr [(h, .inr (4, [.ref t1, .ref t2, .ref t3, .int na, .int ni, .int dy, .int vl, .int db])), (t1, .inr (5, [.ref a1, .int 10])), (t2, .inr (5, [.ref a2, .int 6])), (t3, .inr (5, [.ref a3, .int 3])), (a1, .inl (cI, 240, .inl RA)), (a2, .inl (cI, 30, .inl RI)), (a3, .inl (cI, 36, .inl RC))] := hD
  refine W.eq (g2 := F0 m 10 ls [.int r_2]) rfl ?_
  refine lv_istore_n (lv' := [(2, .int r_2), (0, .ref h), (1, .int address)]) hx hb dX5_isMeetingOver_10 rfl hl (by decide) rfl (fun ls hl => ?_)
  refine lv_iload_n hx hb dX5_isMeetingOver_11 rfl (lv_at hl 0 rfl) ?_
  refine lv_bipush (v := (-4)) hx hb dX5_isMeetingOver_12 (by decide) ?_
  refine lv_icmp_eq (tgt := 29) hx hb dX5_isMeetingOver_14 (by decide) (fun c14 => ?_) (fun c14 => ?_)
  · refine lv_iconst (v := 0) hx hb dX5_isMeetingOver_29 (by decide) ?_
    exact endZ hx hb hr hlk hP hK hD hS dX5_isMeetingOver_30 rfl false rfl ⟨(bd1_e hk2).trans ((if_pos c14).trans rfl), rfl⟩
  · refine lv_iload_n hx hb dX5_isMeetingOver_17 rfl (lv_at hl 0 rfl) ?_
    refine lv_aload_n hx hb dX5_isMeetingOver_18 rfl (lv_at hl 1 rfl) ?_
    refine va_get (D := D) (ci := 4) (C := RX5) (T := TX5) (N := 8) hx hb hts w_2 hown hK hP 0 rfl rfl 5 (by decide) w_3 (fun _ h9 => h9) rfl dX5_isMeetingOver_19 ?_
    refine lv_icmp_ge (tgt := 29) hx hb dX5_isMeetingOver_22 (by decide) (fun c22 => ?_) (fun c22 => ?_)
    · refine lv_iconst (v := 0) hx hb dX5_isMeetingOver_29 (by decide) ?_
      exact endZ hx hb hr hlk hP hK hD hS dX5_isMeetingOver_30 rfl false rfl ⟨(bd1_e hk2).trans ((if_neg c14).trans ((if_pos c22).trans rfl)), rfl⟩
    · refine lv_iconst (v := 1) hx hb dX5_isMeetingOver_25 (by decide) ?_
      refine lv_goto (tgt := 30) hx hb dX5_isMeetingOver_26 (by decide) ?_
      exact endZ hx hb hr hlk hP hK hD hS dX5_isMeetingOver_30 rfl true rfl ⟨(bd1_e hk2).trans ((if_neg c14).trans ((if_neg c22).trans rfl)), rfl⟩

/-- the value of X5_isTimely, path by path -/
def fX5_isTimely (RA : Nat → Int32) (dy : Int32) (db : Int32) (address : Int32) (time : Int32) : Bool :=
  bd1 (fX6_get 240 RA 10 address 6) (fun (r_2 : Int32) => (if r_2 = (-4) then bd1 (fX6_get 240 RA 10 address 2) (fun (r_4 : Int32) => (if r_4 = 0 then true else bd1 (fX6_get 240 RA 10 address 5) (fun (r_6 : Int32) => (if r_6 = time then false else bd1 (fX6_get 240 RA 10 address 4) (fun (r_8 : Int32) => (if dy - r_8 < db then false else true)))))) else bd1 (fX6_get 240 RA 10 address 7) (fun (r_10 : Int32) => (if r_10 = time then (if r_2 < dy then true else (if r_2 = dy then true else false)) else (if r_2 < dy then true else (if r_2 = dy then false else false))))))

set_option maxHeartbeats 4000000 in
set_option maxRecDepth 100000 in
/-- X5_isTimely -/
theorem mX5_isTimely (l : Launch) (D : va_G) (cI cC cS : ClassId) (sz : Nat) (h : Nat) (t1 : Nat) (t2 : Nat) (t3 : Nat) (a1 : Nat) (a2 : Nat) (a3 : Nat) (RA : Nat → Int32) (RI : Nat → Int32) (RC : Nat → Int32) (na : Int32) (ni : Int32) (dy : Int32) (vl : Int32) (db : Int32) (address : Int32) (time : Int32)  : Met l yX5_isTimely wsX5_isTimely ({ frames := 1, cells := 0, slots := 0, locals := 23 } : Jvm.Room) (va_Pc [.ref h, .int address, .int time] (wPre D (TY cI cC cS) [(h, .inr (4, [.ref t1, .ref t2, .ref t3, .int na, .int ni, .int dy, .int vl, .int db])), (t1, .inr (5, [.ref a1, .int 10])), (t2, .inr (5, [.ref a2, .int 6])), (t3, .inr (5, [.ref a3, .int 3])), (a1, .inl (cI, 240, .inl RA)), (a2, .inl (cI, 30, .inl RI)), (a3, .inl (cI, 36, .inl RC))] sz wN)) (qI D (TY cI cC cS) (fun (r : Int32) (u : Bool) => fX5_isTimely RA dy db address time = u ∧ r = bi u) (fun u => [(h, .inr (4, [.ref t1, .ref t2, .ref t3, .int na, .int ni, .int dy, .int vl, .int db])), (t1, .inr (5, [.ref a1, .int 10])), (t2, .inr (5, [.ref a2, .int 6])), (t3, .inr (5, [.ref a3, .int 3])), (a1, .inl (cI, 240, .inl RA)), (a2, .inl (cI, 30, .inl RI)), (a3, .inl (cI, 36, .inl RC))]) (va_A [(h, .inr (4, [.ref t1, .ref t2, .ref t3, .int na, .int ni, .int dy, .int vl, .int db])), (t1, .inr (5, [.ref a1, .int 10])), (t2, .inr (5, [.ref a2, .int 6])), (t3, .inr (5, [.ref a3, .int 3])), (a1, .inl (cI, 240, .inl RA)), (a2, .inl (cI, 30, .inl RI)), (a3, .inl (cI, 36, .inl RC))] sz)) 0 0 (va_A [(h, .inr (4, [.ref t1, .ref t2, .ref t3, .int na, .int ni, .int dy, .int vl, .int db])), (t1, .inr (5, [.ref a1, .int 10])), (t2, .inr (5, [.ref a2, .int 6])), (t3, .inr (5, [.ref a3, .int 3])), (a1, .inl (cI, 240, .inl RA)), (a2, .inl (cI, 30, .inl RI)), (a3, .inl (cI, 36, .inl RC))] sz) := by
  refine mkM (fun Fr => qI D (TY cI cC cS) (fun (r : Int32) (u : Bool) => fX5_isTimely RA dy db address time = u ∧ r = bi u) (fun u => [(h, .inr (4, [.ref t1, .ref t2, .ref t3, .int na, .int ni, .int dy, .int vl, .int db])), (t1, .inr (5, [.ref a1, .int 10])), (t2, .inr (5, [.ref a2, .int 6])), (t3, .inr (5, [.ref a3, .int 3])), (a1, .inl (cI, 240, .inl RA)), (a2, .inl (cI, 30, .inl RI)), (a3, .inl (cI, 36, .inl RC))]) Fr) (cc := cX5_isTimely) (maxL := 5) (ret := (some .boolean)) (own := RX5) (lv := [(0, .ref h), (1, .int address), (2, .int time)]) (by decide) rfl rfl (Nat.le_of_ble_eq_true rfl) rfl ?_
  intro p e s m below meth c Fr ls hx hb hr hts hown hml hlk hin hP hK hD hS hA hAe hsz hX hl
  have w_1 := hts (.fieldLink RX5 14 "FieldQuotas$Survey" "addressRows" "LFieldQuotas$Table;") (List.mem_of_getElem? (i := 1) rfl)
  have w_2 := sub_r (big := wsX5_isTimely) (u_ws RX5 TX5 8) [11, 12, 13, 14, 15, 16, 17, 18] rfl
  have w_3 := hts (.fieldLink RX5 47 "FieldQuotas$Survey" "day" "I") (List.mem_of_getElem? (i := 2) rfl)
  have w_4 := hts (.fieldLink RX5 30 "FieldQuotas$Survey" "daysBetween" "I") (List.mem_of_getElem? (i := 3) rfl)
  refine lv_aload_n hx hb dX5_isTimely_0 rfl (lv_at hl 0 rfl) ?_
  refine va_get (D := D) (ci := 4) (C := RX5) (T := TX5) (N := 8) hx hb hts w_2 hown hK hP 0 rfl rfl 0 (by decide) w_1 (fun _ h9 => h9) rfl dX5_isTimely_1 ?_
  refine lv_iload_n hx hb dX5_isTimely_4 rfl (lv_at hl 1 rfl) ?_
  refine lv_bipush (v := 6) hx hb dX5_isTimely_5 (by decide) ?_
  refine callVi (As := [.int address, .int 6]) (rest := []) (mX6_get l D cI cC cS _ t1 a1 240 RA 10 address 6 (by decide)) ⟨hx, hb, hml, hown, hts⟩ (cwV 2 hts gX5_isTimely_X6_get rfl rfl rfl (by decide +kernel) ⟨Nat.le_of_ble_eq_true rfl, Nat.le_of_ble_eq_true rfl⟩) X0_blind (fun _ _ _ => trivial) hP hK hD hS hA hl [1, 4] rfl rfl 0 5 rfl rfl rfl rfl rfl (Nat.le_of_ble_eq_true rfl) dX5_isTimely_7 ⟨Nat.zero_le _, Nat.zero_le _⟩ (fun _ => rfl) (fun u_ H locs hk2 hP hD hS => ?_)
  obtain ⟨r_2, e_r_2⟩ : ∃ z, z = u_ := ⟨_, rfl⟩
  subst e_r_2
  have hP : va_P D vwCl [(h, .inr (4, [.ref t1, .ref t2, .ref t3, .int na, .int ni, .int dy, .int vl, .int db])), (t1, .inr (5, [.ref a1, .int 10])), (t2, .inr (5, [.ref a2, .int 6])), (t3, .inr (5, [.ref a3, .int 3])), (a1, .inl (cI, 240, .inl RA)), (a2, .inl (cI, 30, .inl RI)), (a3, .inl (cI, 36, .inl RC))] H := hP
  have hD : va_D Fr [(h, .inr (4, [.ref t1, .ref t2, .ref t3, .int na, .int ni, .int dy, .int vl, .int db])), (t1, .inr (5, [.ref a1, .int 10])), (t2, .inr (5, [.ref a2, .int 6])), (t3, .inr (5, [.ref a3, .int 3])), (a1, .inl (cI, 240, .inl RA)), (a2, .inl (cI, 30, .inl RI)), (a3, .inl (cI, 36, .inl RC))] := hD
  refine W.eq (g2 := F0 m 10 ls [.int r_2]) rfl ?_
  refine lv_istore_n (lv' := [(3, .int r_2), (0, .ref h), (1, .int address), (2, .int time)]) hx hb dX5_isTimely_10 rfl hl (by decide) rfl (fun ls hl => ?_)
  refine lv_iload_n hx hb dX5_isTimely_11 rfl (lv_at hl 0 rfl) ?_
  refine lv_bipush (v := (-4)) hx hb dX5_isTimely_12 (by decide) ?_
  refine lv_icmp_eq (tgt := 65) hx hb dX5_isTimely_14 (by decide) (fun c14 => ?_) (fun c14 => ?_)
  · refine lv_aload_n hx hb dX5_isTimely_65 rfl (lv_at hl 1 rfl) ?_
    refine va_get (D := D) (ci := 4) (C := RX5) (T := TX5) (N := 8) hx hb hts w_2 hown hK hP 0 rfl rfl 0 (by decide) w_1 (fun _ h9 => h9) rfl dX5_isTimely_66 ?_
    refine lv_iload_n hx hb dX5_isTimely_69 rfl (lv_at hl 2 rfl) ?_
    refine lv_iconst (v := 2) hx hb dX5_isTimely_70 (by decide) ?_
    refine callVi (As := [.int address, .int 2]) (rest := []) (mX6_get l D cI cC cS _ t1 a1 240 RA 10 address 2 (by decide)) ⟨hx, hb, hml, hown, hts⟩ (cwV 2 hts gX5_isTimely_X6_get rfl rfl rfl (by decide +kernel) ⟨Nat.le_of_ble_eq_true rfl, Nat.le_of_ble_eq_true rfl⟩) X0_blind (fun _ _ _ => trivial) hP hK hD hS hA hl [1, 4] rfl rfl 0 5 rfl rfl rfl rfl rfl (Nat.le_of_ble_eq_true rfl) dX5_isTimely_71 ⟨Nat.zero_le _, Nat.zero_le _⟩ (fun _ => rfl) (fun u_ H locs hk4 hP hD hS => ?_)
    obtain ⟨r_4, e_r_4⟩ : ∃ z, z = u_ := ⟨_, rfl⟩
    subst e_r_4
    have hP : va_P D vwCl [(h, .inr (4, [.ref t1, .ref t2, .ref t3, .int na, .int ni, .int dy, .int vl, .int db])), (t1, .inr (5, [.ref a1, .int 10])), (t2, .inr (5, [.ref a2, .int 6])), (t3, .inr (5, [.ref a3, .int 3])), (a1, .inl (cI, 240, .inl RA)), (a2, .inl (cI, 30, .inl RI)), (a3, .inl (cI, 36, .inl RC))] H := hP
    have hD : va_D Fr [(h, .inr (4, [.ref t1, .ref t2, .ref t3, .int na, .int ni, .int dy, .int vl, .int db])), (t1, .inr (5, [.ref a1, .int 10])), (t2, .inr (5, [.ref a2, .int 6])), (t3, .inr (5, [.ref a3, .int 3])), (a1, .inl (cI, 240, .inl RA)), (a2, .inl (cI, 30, .inl RI)), (a3, .inl (cI, 36, .inl RC))] := hD
    refine W.eq (g2 := F0 m 74 ls [.int r_4]) rfl ?_
    refine lv_if_ne (tgt := 79) hx hb dX5_isTimely_74 (by decide) (fun c74 => ?_) (fun c74 => ?_)
    · refine lv_aload_n hx hb dX5_isTimely_79 rfl (lv_at hl 1 rfl) ?_
      refine va_get (D := D) (ci := 4) (C := RX5) (T := TX5) (N := 8) hx hb hts w_2 hown hK hP 0 rfl rfl 0 (by decide) w_1 (fun _ h9 => h9) rfl dX5_isTimely_80 ?_
      refine lv_iload_n hx hb dX5_isTimely_83 rfl (lv_at hl 2 rfl) ?_
      refine lv_iconst (v := 5) hx hb dX5_isTimely_84 (by decide) ?_
      refine callVi (As := [.int address, .int 5]) (rest := []) (mX6_get l D cI cC cS _ t1 a1 240 RA 10 address 5 (by decide)) ⟨hx, hb, hml, hown, hts⟩ (cwV 2 hts gX5_isTimely_X6_get rfl rfl rfl (by decide +kernel) ⟨Nat.le_of_ble_eq_true rfl, Nat.le_of_ble_eq_true rfl⟩) X0_blind (fun _ _ _ => trivial) hP hK hD hS hA hl [1, 4] rfl rfl 0 5 rfl rfl rfl rfl rfl (Nat.le_of_ble_eq_true rfl) dX5_isTimely_85 ⟨Nat.zero_le _, Nat.zero_le _⟩ (fun _ => rfl) (fun u_ H locs hk6 hP hD hS => ?_)
      obtain ⟨r_6, e_r_6⟩ : ∃ z, z = u_ := ⟨_, rfl⟩
      subst e_r_6
      have hP : va_P D vwCl [(h, .inr (4, [.ref t1, .ref t2, .ref t3, .int na, .int ni, .int dy, .int vl, .int db])), (t1, .inr (5, [.ref a1, .int 10])), (t2, .inr (5, [.ref a2, .int 6])), (t3, .inr (5, [.ref a3, .int 3])), (a1, .inl (cI, 240, .inl RA)), (a2, .inl (cI, 30, .inl RI)), (a3, .inl (cI, 36, .inl RC))] H := hP
      have hD : va_D Fr [(h, .inr (4, [.ref t1, .ref t2, .ref t3, .int na, .int ni, .int dy, .int vl, .int db])), (t1, .inr (5, [.ref a1, .int 10])), (t2, .inr (5, [.ref a2, .int 6])), (t3, .inr (5, [.ref a3, .int 3])), (a1, .inl (cI, 240, .inl RA)), (a2, .inl (cI, 30, .inl RI)), (a3, .inl (cI, 36, .inl RC))] := hD
      refine W.eq (g2 := F0 m 88 ls [.int r_6]) rfl ?_
      refine lv_iload_n hx hb dX5_isTimely_88 rfl (lv_at hl 3 rfl) ?_
      refine lv_icmp_eq (tgt := 117) hx hb dX5_isTimely_89 (by decide) (fun c89 => ?_) (fun c89 => ?_)
      · refine lv_iconst (v := 0) hx hb dX5_isTimely_117 (by decide) ?_
        exact endZ hx hb hr hlk hP hK hD hS dX5_isTimely_118 rfl false rfl ⟨(bd1_e hk2).trans ((if_pos c14).trans ((bd1_e hk4).trans ((if_neg c74).trans ((bd1_e hk6).trans ((if_pos c89).trans rfl))))), rfl⟩
      · refine lv_aload_n hx hb dX5_isTimely_92 rfl (lv_at hl 1 rfl) ?_
        refine va_get (D := D) (ci := 4) (C := RX5) (T := TX5) (N := 8) hx hb hts w_2 hown hK hP 0 rfl rfl 5 (by decide) w_3 (fun _ h9 => h9) rfl dX5_isTimely_93 ?_
        refine lv_aload_n hx hb dX5_isTimely_96 rfl (lv_at hl 1 rfl) ?_
        refine va_get (D := D) (ci := 4) (C := RX5) (T := TX5) (N := 8) hx hb hts w_2 hown hK hP 0 rfl rfl 0 (by decide) w_1 (fun _ h9 => h9) rfl dX5_isTimely_97 ?_
        refine lv_iload_n hx hb dX5_isTimely_100 rfl (lv_at hl 2 rfl) ?_
        refine lv_iconst (v := 4) hx hb dX5_isTimely_101 (by decide) ?_
        refine callVi (As := [.int address, .int 4]) (rest := [.int dy]) (mX6_get l D cI cC cS _ t1 a1 240 RA 10 address 4 (by decide)) ⟨hx, hb, hml, hown, hts⟩ (cwV 2 hts gX5_isTimely_X6_get rfl rfl rfl (by decide +kernel) ⟨Nat.le_of_ble_eq_true rfl, Nat.le_of_ble_eq_true rfl⟩) X0_blind (fun _ _ _ => trivial) hP hK hD hS hA hl [1, 4] rfl rfl 0 5 rfl rfl rfl rfl rfl (Nat.le_of_ble_eq_true rfl) dX5_isTimely_102 ⟨Nat.zero_le _, Nat.zero_le _⟩ (fun _ => rfl) (fun u_ H locs hk8 hP hD hS => ?_)
        obtain ⟨r_8, e_r_8⟩ : ∃ z, z = u_ := ⟨_, rfl⟩
        subst e_r_8
        have hP : va_P D vwCl [(h, .inr (4, [.ref t1, .ref t2, .ref t3, .int na, .int ni, .int dy, .int vl, .int db])), (t1, .inr (5, [.ref a1, .int 10])), (t2, .inr (5, [.ref a2, .int 6])), (t3, .inr (5, [.ref a3, .int 3])), (a1, .inl (cI, 240, .inl RA)), (a2, .inl (cI, 30, .inl RI)), (a3, .inl (cI, 36, .inl RC))] H := hP
        have hD : va_D Fr [(h, .inr (4, [.ref t1, .ref t2, .ref t3, .int na, .int ni, .int dy, .int vl, .int db])), (t1, .inr (5, [.ref a1, .int 10])), (t2, .inr (5, [.ref a2, .int 6])), (t3, .inr (5, [.ref a3, .int 3])), (a1, .inl (cI, 240, .inl RA)), (a2, .inl (cI, 30, .inl RI)), (a3, .inl (cI, 36, .inl RC))] := hD
        refine W.eq (g2 := F0 m 105 ls [.int r_8, .int dy]) rfl ?_
        refine lv_isub hx hb dX5_isTimely_105 ?_
        refine lv_aload_n hx hb dX5_isTimely_106 rfl (lv_at hl 1 rfl) ?_
        refine va_get (D := D) (ci := 4) (C := RX5) (T := TX5) (N := 8) hx hb hts w_2 hown hK hP 0 rfl rfl 7 (by decide) w_4 (fun _ h9 => h9) rfl dX5_isTimely_107 ?_
        refine lv_icmp_lt (tgt := 117) hx hb dX5_isTimely_110 (by decide) (fun c110 => ?_) (fun c110 => ?_)
        · refine lv_iconst (v := 0) hx hb dX5_isTimely_117 (by decide) ?_
          exact endZ hx hb hr hlk hP hK hD hS dX5_isTimely_118 rfl false rfl ⟨(bd1_e hk2).trans ((if_pos c14).trans ((bd1_e hk4).trans ((if_neg c74).trans ((bd1_e hk6).trans ((if_neg c89).trans ((bd1_e hk8).trans ((if_pos c110).trans rfl))))))), rfl⟩
        · refine lv_iconst (v := 1) hx hb dX5_isTimely_113 (by decide) ?_
          refine lv_goto (tgt := 118) hx hb dX5_isTimely_114 (by decide) ?_
          exact endZ hx hb hr hlk hP hK hD hS dX5_isTimely_118 rfl true rfl ⟨(bd1_e hk2).trans ((if_pos c14).trans ((bd1_e hk4).trans ((if_neg c74).trans ((bd1_e hk6).trans ((if_neg c89).trans ((bd1_e hk8).trans ((if_neg c110).trans rfl))))))), rfl⟩
    · refine lv_iconst (v := 1) hx hb dX5_isTimely_77 (by decide) ?_
      exact endZ hx hb hr hlk hP hK hD hS dX5_isTimely_78 rfl true rfl ⟨(bd1_e hk2).trans ((if_pos c14).trans ((bd1_e hk4).trans ((if_pos c74).trans rfl))), rfl⟩
  · refine lv_aload_n hx hb dX5_isTimely_17 rfl (lv_at hl 1 rfl) ?_
    refine va_get (D := D) (ci := 4) (C := RX5) (T := TX5) (N := 8) hx hb hts w_2 hown hK hP 0 rfl rfl 0 (by decide) w_1 (fun _ h9 => h9) rfl dX5_isTimely_18 ?_
    refine lv_iload_n hx hb dX5_isTimely_21 rfl (lv_at hl 2 rfl) ?_
    refine lv_bipush (v := 7) hx hb dX5_isTimely_22 (by decide) ?_
    refine callVi (As := [.int address, .int 7]) (rest := []) (mX6_get l D cI cC cS _ t1 a1 240 RA 10 address 7 (by decide)) ⟨hx, hb, hml, hown, hts⟩ (cwV 2 hts gX5_isTimely_X6_get rfl rfl rfl (by decide +kernel) ⟨Nat.le_of_ble_eq_true rfl, Nat.le_of_ble_eq_true rfl⟩) X0_blind (fun _ _ _ => trivial) hP hK hD hS hA hl [1, 4] rfl rfl 0 5 rfl rfl rfl rfl rfl (Nat.le_of_ble_eq_true rfl) dX5_isTimely_24 ⟨Nat.zero_le _, Nat.zero_le _⟩ (fun _ => rfl) (fun u_ H locs hk10 hP hD hS => ?_)
    obtain ⟨r_10, e_r_10⟩ : ∃ z, z = u_ := ⟨_, rfl⟩
    subst e_r_10
    have hP : va_P D vwCl [(h, .inr (4, [.ref t1, .ref t2, .ref t3, .int na, .int ni, .int dy, .int vl, .int db])), (t1, .inr (5, [.ref a1, .int 10])), (t2, .inr (5, [.ref a2, .int 6])), (t3, .inr (5, [.ref a3, .int 3])), (a1, .inl (cI, 240, .inl RA)), (a2, .inl (cI, 30, .inl RI)), (a3, .inl (cI, 36, .inl RC))] H := hP
    have hD : va_D Fr [(h, .inr (4, [.ref t1, .ref t2, .ref t3, .int na, .int ni, .int dy, .int vl, .int db])), (t1, .inr (5, [.ref a1, .int 10])), (t2, .inr (5, [.ref a2, .int 6])), (t3, .inr (5, [.ref a3, .int 3])), (a1, .inl (cI, 240, .inl RA)), (a2, .inl (cI, 30, .inl RI)), (a3, .inl (cI, 36, .inl RC))] := hD
    refine W.eq (g2 := F0 m 27 ls [.int r_10]) rfl ?_
    refine lv_iload_n hx hb dX5_isTimely_27 rfl (lv_at hl 3 rfl) ?_
    refine lv_icmp_ne (tgt := 35) hx hb dX5_isTimely_28 (by decide) (fun c28 => ?_) (fun c28 => ?_)
    · refine lv_iconst (v := 0) hx hb dX5_isTimely_35 (by decide) ?_
      refine lv_istore (lv' := [(4, .int 0), (3, .int r_2), (0, .ref h), (1, .int address), (2, .int time)]) hx hb dX5_isTimely_36 hl (by decide) rfl (fun ls hl => ?_)
      refine lv_iload_n hx hb dX5_isTimely_38 rfl (lv_at hl 1 rfl) ?_
      refine lv_aload_n hx hb dX5_isTimely_39 rfl (lv_at hl 2 rfl) ?_
      refine va_get (D := D) (ci := 4) (C := RX5) (T := TX5) (N := 8) hx hb hts w_2 hown hK hP 0 rfl rfl 5 (by decide) w_3 (fun _ h9 => h9) rfl dX5_isTimely_40 ?_
      refine lv_icmp_lt (tgt := 59) hx hb dX5_isTimely_43 (by decide) (fun c43 => ?_) (fun c43 => ?_)
      · refine lv_iconst (v := 1) hx hb dX5_isTimely_59 (by decide) ?_
        refine lv_goto (tgt := 64) hx hb dX5_isTimely_60 (by decide) ?_
        exact endZ hx hb hr hlk hP hK hD hS dX5_isTimely_64 rfl true rfl ⟨(bd1_e hk2).trans ((if_neg c14).trans ((bd1_e hk10).trans ((if_neg c28).trans ((if_pos c43).trans rfl)))), rfl⟩
      · refine lv_iload_n hx hb dX5_isTimely_46 rfl (lv_at hl 1 rfl) ?_
        refine lv_aload_n hx hb dX5_isTimely_47 rfl (lv_at hl 2 rfl) ?_
        refine va_get (D := D) (ci := 4) (C := RX5) (T := TX5) (N := 8) hx hb hts w_2 hown hK hP 0 rfl rfl 5 (by decide) w_3 (fun _ h9 => h9) rfl dX5_isTimely_48 ?_
        refine lv_icmp_ne (tgt := 63) hx hb dX5_isTimely_51 (by decide) (fun c51 => ?_) (fun c51 => ?_)
        · refine lv_iconst (v := 0) hx hb dX5_isTimely_63 (by decide) ?_
          exact endZ hx hb hr hlk hP hK hD hS dX5_isTimely_64 rfl false rfl ⟨(bd1_e hk2).trans ((if_neg c14).trans ((bd1_e hk10).trans ((if_neg c28).trans ((if_neg c43).trans ((if_neg c51).trans rfl))))), rfl⟩
        · refine lv_iload hx hb dX5_isTimely_54 (lv_at hl 0 rfl) ?_
          refine lv_if_eq (tgt := 63) hx hb dX5_isTimely_56 (by decide) (fun _ => ?_) (fun h => absurd (by decide) h)
          refine lv_iconst (v := 0) hx hb dX5_isTimely_63 (by decide) ?_
          exact endZ hx hb hr hlk hP hK hD hS dX5_isTimely_64 rfl false rfl ⟨(bd1_e hk2).trans ((if_neg c14).trans ((bd1_e hk10).trans ((if_neg c28).trans ((if_neg c43).trans ((if_pos c51).trans rfl))))), rfl⟩
    · refine lv_iconst (v := 1) hx hb dX5_isTimely_31 (by decide) ?_
      refine lv_goto (tgt := 36) hx hb dX5_isTimely_32 (by decide) ?_
      refine lv_istore (lv' := [(4, .int 1), (3, .int r_2), (0, .ref h), (1, .int address), (2, .int time)]) hx hb dX5_isTimely_36 hl (by decide) rfl (fun ls hl => ?_)
      refine lv_iload_n hx hb dX5_isTimely_38 rfl (lv_at hl 1 rfl) ?_
      refine lv_aload_n hx hb dX5_isTimely_39 rfl (lv_at hl 2 rfl) ?_
      refine va_get (D := D) (ci := 4) (C := RX5) (T := TX5) (N := 8) hx hb hts w_2 hown hK hP 0 rfl rfl 5 (by decide) w_3 (fun _ h9 => h9) rfl dX5_isTimely_40 ?_
      refine lv_icmp_lt (tgt := 59) hx hb dX5_isTimely_43 (by decide) (fun c43 => ?_) (fun c43 => ?_)
      · refine lv_iconst (v := 1) hx hb dX5_isTimely_59 (by decide) ?_
        refine lv_goto (tgt := 64) hx hb dX5_isTimely_60 (by decide) ?_
        exact endZ hx hb hr hlk hP hK hD hS dX5_isTimely_64 rfl true rfl ⟨(bd1_e hk2).trans ((if_neg c14).trans ((bd1_e hk10).trans ((if_pos c28).trans ((if_pos c43).trans rfl)))), rfl⟩
      · refine lv_iload_n hx hb dX5_isTimely_46 rfl (lv_at hl 1 rfl) ?_
        refine lv_aload_n hx hb dX5_isTimely_47 rfl (lv_at hl 2 rfl) ?_
        refine va_get (D := D) (ci := 4) (C := RX5) (T := TX5) (N := 8) hx hb hts w_2 hown hK hP 0 rfl rfl 5 (by decide) w_3 (fun _ h9 => h9) rfl dX5_isTimely_48 ?_
        refine lv_icmp_ne (tgt := 63) hx hb dX5_isTimely_51 (by decide) (fun c51 => ?_) (fun c51 => ?_)
        · refine lv_iconst (v := 0) hx hb dX5_isTimely_63 (by decide) ?_
          exact endZ hx hb hr hlk hP hK hD hS dX5_isTimely_64 rfl false rfl ⟨(bd1_e hk2).trans ((if_neg c14).trans ((bd1_e hk10).trans ((if_pos c28).trans ((if_neg c43).trans ((if_neg c51).trans rfl))))), rfl⟩
        · refine lv_iload hx hb dX5_isTimely_54 (lv_at hl 0 rfl) ?_
          refine lv_if_eq (tgt := 63) hx hb dX5_isTimely_56 (by decide) (fun h => absurd h (by decide)) (fun _ => ?_)
          refine lv_iconst (v := 1) hx hb dX5_isTimely_59 (by decide) ?_
          refine lv_goto (tgt := 64) hx hb dX5_isTimely_60 (by decide) ?_
          exact endZ hx hb hr hlk hP hK hD hS dX5_isTimely_64 rfl true rfl ⟨(bd1_e hk2).trans ((if_neg c14).trans ((bd1_e hk10).trans ((if_pos c28).trans ((if_neg c43).trans ((if_pos c51).trans rfl))))), rfl⟩

/-- the value of X5_isPossible, path by path -/
def fX5_isPossible (RA : Nat → Int32) (RI : Nat → Int32) (dy : Int32) (db : Int32) (interviewer : Int32) (address : Int32) (time : Int32) : Bool :=
  bd1 (fX6_get 30 RI 6 interviewer 2) (fun (r_2 : Int32) => bd1 (fX5_isOpen RA address) (fun (r_4 : Bool) => (if r_4 = true then bd1 (fX6_get 30 RI 6 interviewer 1) (fun (r_6 : Int32) => (if r_6 ≤ r_2 then false else bd1 (fX5_isTimely RA dy db address time) (fun (r_8 : Bool) => (if r_8 = true then true else false)))) else false)))

set_option maxHeartbeats 4000000 in
set_option maxRecDepth 100000 in
/-- X5_isPossible -/
theorem mX5_isPossible (l : Launch) (D : va_G) (cI cC cS : ClassId) (sz : Nat) (h : Nat) (t1 : Nat) (t2 : Nat) (t3 : Nat) (a1 : Nat) (a2 : Nat) (a3 : Nat) (RA : Nat → Int32) (RI : Nat → Int32) (RC : Nat → Int32) (na : Int32) (ni : Int32) (dy : Int32) (vl : Int32) (db : Int32) (interviewer : Int32) (address : Int32) (time : Int32)  : Met l yX5_isPossible wsX5_isPossible ({ frames := 2, cells := 0, slots := 0, locals := 47 } : Jvm.Room) (va_Pc [.ref h, .int interviewer, .int address, .int time] (wPre D (TY cI cC cS) [(h, .inr (4, [.ref t1, .ref t2, .ref t3, .int na, .int ni, .int dy, .int vl, .int db])), (t1, .inr (5, [.ref a1, .int 10])), (t2, .inr (5, [.ref a2, .int 6])), (t3, .inr (5, [.ref a3, .int 3])), (a1, .inl (cI, 240, .inl RA)), (a2, .inl (cI, 30, .inl RI)), (a3, .inl (cI, 36, .inl RC))] sz wN)) (qI D (TY cI cC cS) (fun (r : Int32) (u : Bool) => fX5_isPossible RA RI dy db interviewer address time = u ∧ r = bi u) (fun u => [(h, .inr (4, [.ref t1, .ref t2, .ref t3, .int na, .int ni, .int dy, .int vl, .int db])), (t1, .inr (5, [.ref a1, .int 10])), (t2, .inr (5, [.ref a2, .int 6])), (t3, .inr (5, [.ref a3, .int 3])), (a1, .inl (cI, 240, .inl RA)), (a2, .inl (cI, 30, .inl RI)), (a3, .inl (cI, 36, .inl RC))]) (va_A [(h, .inr (4, [.ref t1, .ref t2, .ref t3, .int na, .int ni, .int dy, .int vl, .int db])), (t1, .inr (5, [.ref a1, .int 10])), (t2, .inr (5, [.ref a2, .int 6])), (t3, .inr (5, [.ref a3, .int 3])), (a1, .inl (cI, 240, .inl RA)), (a2, .inl (cI, 30, .inl RI)), (a3, .inl (cI, 36, .inl RC))] sz)) 0 0 (va_A [(h, .inr (4, [.ref t1, .ref t2, .ref t3, .int na, .int ni, .int dy, .int vl, .int db])), (t1, .inr (5, [.ref a1, .int 10])), (t2, .inr (5, [.ref a2, .int 6])), (t3, .inr (5, [.ref a3, .int 3])), (a1, .inl (cI, 240, .inl RA)), (a2, .inl (cI, 30, .inl RI)), (a3, .inl (cI, 36, .inl RC))] sz) := by
  refine mkM (fun Fr => qI D (TY cI cC cS) (fun (r : Int32) (u : Bool) => fX5_isPossible RA RI dy db interviewer address time = u ∧ r = bi u) (fun u => [(h, .inr (4, [.ref t1, .ref t2, .ref t3, .int na, .int ni, .int dy, .int vl, .int db])), (t1, .inr (5, [.ref a1, .int 10])), (t2, .inr (5, [.ref a2, .int 6])), (t3, .inr (5, [.ref a3, .int 3])), (a1, .inl (cI, 240, .inl RA)), (a2, .inl (cI, 30, .inl RI)), (a3, .inl (cI, 36, .inl RC))]) Fr) (cc := cX5_isPossible) (maxL := 5) (ret := (some .boolean)) (own := RX5) (lv := [(0, .ref h), (1, .int interviewer), (2, .int address), (3, .int time)]) (by decide) rfl rfl (Nat.le_of_ble_eq_true rfl) rfl ?_
  intro p e s m below meth c Fr ls hx hb hr hts hown hml hlk hin hP hK hD hS hA hAe hsz hX hl
  have w_1 := hts (.fieldLink RX5 20 "FieldQuotas$Survey" "interviewerRows" "LFieldQuotas$Table;") (List.mem_of_getElem? (i := 1) rfl)
  have w_2 := sub_r (big := wsX5_isPossible) (u_ws RX5 TX5 8) [21, 22, 23, 24, 25, 26, 27, 28] rfl
  refine lv_aload_n hx hb dX5_isPossible_0 rfl (lv_at hl 0 rfl) ?_
  refine va_get (D := D) (ci := 4) (C := RX5) (T := TX5) (N := 8) hx hb hts w_2 hown hK hP 0 rfl rfl 1 (by decide) w_1 (fun _ h9 => h9) rfl dX5_isPossible_1 ?_
  refine lv_iload_n hx hb dX5_isPossible_4 rfl (lv_at hl 1 rfl) ?_
  refine lv_iconst (v := 2) hx hb dX5_isPossible_5 (by decide) ?_
  refine callVi (As := [.int interviewer, .int 2]) (rest := []) (mX6_get l D cI cC cS _ t2 a2 30 RI 6 interviewer 2 (by decide)) ⟨hx, hb, hml, hown, hts⟩ (cwV 2 hts gX5_isPossible_X6_get rfl rfl rfl (by decide +kernel) ⟨Nat.le_of_ble_eq_true rfl, Nat.le_of_ble_eq_true rfl⟩) X0_blind (fun _ _ _ => trivial) hP hK hD hS hA hl [2, 5] rfl rfl 0 5 rfl rfl rfl rfl rfl (Nat.le_of_ble_eq_true rfl) dX5_isPossible_6 ⟨Nat.zero_le _, Nat.zero_le _⟩ (fun _ => rfl) (fun u_ H locs hk2 hP hD hS => ?_)
  obtain ⟨r_2, e_r_2⟩ : ∃ z, z = u_ := ⟨_, rfl⟩
  subst e_r_2
  have hP : va_P D vwCl [(h, .inr (4, [.ref t1, .ref t2, .ref t3, .int na, .int ni, .int dy, .int vl, .int db])), (t1, .inr (5, [.ref a1, .int 10])), (t2, .inr (5, [.ref a2, .int 6])), (t3, .inr (5, [.ref a3, .int 3])), (a1, .inl (cI, 240, .inl RA)), (a2, .inl (cI, 30, .inl RI)), (a3, .inl (cI, 36, .inl RC))] H := hP
  have hD : va_D Fr [(h, .inr (4, [.ref t1, .ref t2, .ref t3, .int na, .int ni, .int dy, .int vl, .int db])), (t1, .inr (5, [.ref a1, .int 10])), (t2, .inr (5, [.ref a2, .int 6])), (t3, .inr (5, [.ref a3, .int 3])), (a1, .inl (cI, 240, .inl RA)), (a2, .inl (cI, 30, .inl RI)), (a3, .inl (cI, 36, .inl RC))] := hD
  refine W.eq (g2 := F0 m 9 ls [.int r_2]) rfl ?_
  refine lv_istore (lv' := [(4, .int r_2), (0, .ref h), (1, .int interviewer), (2, .int address), (3, .int time)]) hx hb dX5_isPossible_9 hl (by decide) rfl (fun ls hl => ?_)
  refine lv_aload_n hx hb dX5_isPossible_11 rfl (lv_at hl 1 rfl) ?_
  refine lv_iload_n hx hb dX5_isPossible_12 rfl (lv_at hl 3 rfl) ?_
  refine callVi (As := [.int address]) (rest := []) (mX5_isOpen l D cI cC cS _ h t1 t2 t3 a1 a2 a3 RA RI RC na ni dy vl db address) ⟨hx, hb, hml, hown, hts⟩ (cwV 1 hts gX5_isPossible_X5_isOpen rfl rfl rfl (by decide +kernel) ⟨Nat.le_of_ble_eq_true rfl, Nat.le_of_ble_eq_true rfl⟩) wN_blind (fun _ _ hW => wN_warm hW hX) hP hK hD hS hA hl [0, 1, 2, 3, 4, 5, 6] rfl rfl 0 4 rfl rfl rfl rfl rfl (Nat.le_of_ble_eq_true rfl) dX5_isPossible_13 ⟨Nat.zero_le _, Nat.zero_le _⟩ (fun _ => rfl) (fun u_ H locs hk4 hP hD hS => ?_)
  obtain ⟨r_4, e_r_4⟩ : ∃ z, z = u_ := ⟨_, rfl⟩
  subst e_r_4
  have hP : va_P D vwCl [(h, .inr (4, [.ref t1, .ref t2, .ref t3, .int na, .int ni, .int dy, .int vl, .int db])), (t1, .inr (5, [.ref a1, .int 10])), (t2, .inr (5, [.ref a2, .int 6])), (t3, .inr (5, [.ref a3, .int 3])), (a1, .inl (cI, 240, .inl RA)), (a2, .inl (cI, 30, .inl RI)), (a3, .inl (cI, 36, .inl RC))] H := hP
  have hD : va_D Fr [(h, .inr (4, [.ref t1, .ref t2, .ref t3, .int na, .int ni, .int dy, .int vl, .int db])), (t1, .inr (5, [.ref a1, .int 10])), (t2, .inr (5, [.ref a2, .int 6])), (t3, .inr (5, [.ref a3, .int 3])), (a1, .inl (cI, 240, .inl RA)), (a2, .inl (cI, 30, .inl RI)), (a3, .inl (cI, 36, .inl RC))] := hD
  refine W.eq (g2 := F0 m 16 ls [.int (bi r_4)]) rfl ?_
  refine lv_if_eq (tgt := 46) hx hb dX5_isPossible_16 (by decide) (fun c16 => ?_) (fun c16 => ?_)
  · refine lv_iconst (v := 0) hx hb dX5_isPossible_46 (by decide) ?_
    exact endZ hx hb hr hlk hP hK hD hS dX5_isPossible_47 rfl false rfl ⟨(bd1_e hk2).trans ((bd1_e hk4).trans ((if_neg (bi_z c16)).trans rfl)), rfl⟩
  · refine lv_iload hx hb dX5_isPossible_19 (lv_at hl 0 rfl) ?_
    refine lv_aload_n hx hb dX5_isPossible_21 rfl (lv_at hl 1 rfl) ?_
    refine va_get (D := D) (ci := 4) (C := RX5) (T := TX5) (N := 8) hx hb hts w_2 hown hK hP 0 rfl rfl 1 (by decide) w_1 (fun _ h9 => h9) rfl dX5_isPossible_22 ?_
    refine lv_iload_n hx hb dX5_isPossible_25 rfl (lv_at hl 2 rfl) ?_
    refine lv_iconst (v := 1) hx hb dX5_isPossible_26 (by decide) ?_
    refine callVi (As := [.int interviewer, .int 1]) (rest := [.int r_2]) (mX6_get l D cI cC cS _ t2 a2 30 RI 6 interviewer 1 (by decide)) ⟨hx, hb, hml, hown, hts⟩ (cwV 2 hts gX5_isPossible_X6_get rfl rfl rfl (by decide +kernel) ⟨Nat.le_of_ble_eq_true rfl, Nat.le_of_ble_eq_true rfl⟩) X0_blind (fun _ _ _ => trivial) hP hK hD hS hA hl [2, 5] rfl rfl 0 5 rfl rfl rfl rfl rfl (Nat.le_of_ble_eq_true rfl) dX5_isPossible_27 ⟨Nat.zero_le _, Nat.zero_le _⟩ (fun _ => rfl) (fun u_ H locs hk6 hP hD hS => ?_)
    obtain ⟨r_6, e_r_6⟩ : ∃ z, z = u_ := ⟨_, rfl⟩
    subst e_r_6
    have hP : va_P D vwCl [(h, .inr (4, [.ref t1, .ref t2, .ref t3, .int na, .int ni, .int dy, .int vl, .int db])), (t1, .inr (5, [.ref a1, .int 10])), (t2, .inr (5, [.ref a2, .int 6])), (t3, .inr (5, [.ref a3, .int 3])), (a1, .inl (cI, 240, .inl RA)), (a2, .inl (cI, 30, .inl RI)), (a3, .inl (cI, 36, .inl RC))] H := hP
    have hD : va_D Fr [(h, .inr (4, [.ref t1, .ref t2, .ref t3, .int na, .int ni, .int dy, .int vl, .int db])), (t1, .inr (5, [.ref a1, .int 10])), (t2, .inr (5, [.ref a2, .int 6])), (t3, .inr (5, [.ref a3, .int 3])), (a1, .inl (cI, 240, .inl RA)), (a2, .inl (cI, 30, .inl RI)), (a3, .inl (cI, 36, .inl RC))] := hD
    refine W.eq (g2 := F0 m 30 ls [.int r_6, .int r_2]) rfl ?_
    refine lv_icmp_ge (tgt := 46) hx hb dX5_isPossible_30 (by decide) (fun c30 => ?_) (fun c30 => ?_)
    · refine lv_iconst (v := 0) hx hb dX5_isPossible_46 (by decide) ?_
      exact endZ hx hb hr hlk hP hK hD hS dX5_isPossible_47 rfl false rfl ⟨(bd1_e hk2).trans ((bd1_e hk4).trans ((if_pos (bi_o c16)).trans ((bd1_e hk6).trans ((if_pos c30).trans rfl)))), rfl⟩
    · refine lv_aload_n hx hb dX5_isPossible_33 rfl (lv_at hl 1 rfl) ?_
      refine lv_iload_n hx hb dX5_isPossible_34 rfl (lv_at hl 3 rfl) ?_
      refine lv_iload_n hx hb dX5_isPossible_35 rfl (lv_at hl 4 rfl) ?_
      refine callVi (As := [.int address, .int time]) (rest := []) (mX5_isTimely l D cI cC cS _ h t1 t2 t3 a1 a2 a3 RA RI RC na ni dy vl db address time) ⟨hx, hb, hml, hown, hts⟩ (cwV 2 hts gX5_isPossible_X5_isTimely rfl rfl rfl (by decide +kernel) ⟨Nat.le_of_ble_eq_true rfl, Nat.le_of_ble_eq_true rfl⟩) wN_blind (fun _ _ hW => wN_warm hW hX) hP hK hD hS hA hl [0, 1, 2, 3, 4, 5, 6] rfl rfl 0 4 rfl rfl rfl rfl rfl (Nat.le_of_ble_eq_true rfl) dX5_isPossible_36 ⟨Nat.zero_le _, Nat.zero_le _⟩ (fun _ => rfl) (fun u_ H locs hk8 hP hD hS => ?_)
      obtain ⟨r_8, e_r_8⟩ : ∃ z, z = u_ := ⟨_, rfl⟩
      subst e_r_8
      have hP : va_P D vwCl [(h, .inr (4, [.ref t1, .ref t2, .ref t3, .int na, .int ni, .int dy, .int vl, .int db])), (t1, .inr (5, [.ref a1, .int 10])), (t2, .inr (5, [.ref a2, .int 6])), (t3, .inr (5, [.ref a3, .int 3])), (a1, .inl (cI, 240, .inl RA)), (a2, .inl (cI, 30, .inl RI)), (a3, .inl (cI, 36, .inl RC))] H := hP
      have hD : va_D Fr [(h, .inr (4, [.ref t1, .ref t2, .ref t3, .int na, .int ni, .int dy, .int vl, .int db])), (t1, .inr (5, [.ref a1, .int 10])), (t2, .inr (5, [.ref a2, .int 6])), (t3, .inr (5, [.ref a3, .int 3])), (a1, .inl (cI, 240, .inl RA)), (a2, .inl (cI, 30, .inl RI)), (a3, .inl (cI, 36, .inl RC))] := hD
      refine W.eq (g2 := F0 m 39 ls [.int (bi r_8)]) rfl ?_
      refine lv_if_eq (tgt := 46) hx hb dX5_isPossible_39 (by decide) (fun c39 => ?_) (fun c39 => ?_)
      · refine lv_iconst (v := 0) hx hb dX5_isPossible_46 (by decide) ?_
        exact endZ hx hb hr hlk hP hK hD hS dX5_isPossible_47 rfl false rfl ⟨(bd1_e hk2).trans ((bd1_e hk4).trans ((if_pos (bi_o c16)).trans ((bd1_e hk6).trans ((if_neg c30).trans ((bd1_e hk8).trans ((if_neg (bi_z c39)).trans rfl)))))), rfl⟩
      · refine lv_iconst (v := 1) hx hb dX5_isPossible_42 (by decide) ?_
        refine lv_goto (tgt := 47) hx hb dX5_isPossible_43 (by decide) ?_
        exact endZ hx hb hr hlk hP hK hD hS dX5_isPossible_47 rfl true rfl ⟨(bd1_e hk2).trans ((bd1_e hk4).trans ((if_pos (bi_o c16)).trans ((bd1_e hk6).trans ((if_neg c30).trans ((bd1_e hk8).trans ((if_pos (bi_o c39)).trans rfl)))))), rfl⟩

/-- the loop of X5_addAddress at 50 -/
def fX5_addAddress_50 (RA : Nat → Int32) (na : Int32) (area : Int32) : Nat → Int32 → (Nat → Int32) → Int32 × (Nat → Int32) × Int32
  | 0, _, _ => default
  | fu + 1, x3, QA =>
    (if (10 : Int32) ≤ x3 then (na, QA, na + 1) else bd1 (fX6_put 240 QA 10 na x3 (-4)) (fun (u_8 : Nat → Int32) => fX5_addAddress_50 RA na area fu (x3 + 1) u_8))
theorem fX5_addAddress_50_s (RA : Nat → Int32) (na : Int32) (area : Int32) (fu : Nat) (x3 : Int32) (QA : Nat → Int32) : fX5_addAddress_50 RA na area (fu + 1) x3 QA =
    (if (10 : Int32) ≤ x3 then (na, QA, na + 1) else bd1 (fX6_put 240 QA 10 na x3 (-4)) (fun (u_8 : Nat → Int32) => fX5_addAddress_50 RA na area fu (x3 + 1) u_8)) := rfl

/-- the value of X5_addAddress, path by path -/
def fX5_addAddress (RA : Nat → Int32) (na : Int32) (area : Int32) : Int32 × (Nat → Int32) × Int32 :=
  bd1 (fX8_isWithin area 0 3) (fun (r_2 : Bool) => (if r_2 = true then (if na < 24 then bd1 (fX6_put 240 RA 10 na 0 area) (fun (u_5 : Nat → Int32) => fX5_addAddress_50 RA na area (((10 : Int32).toInt - (4 : Int32).toInt).toNat + 1) 4 u_5) else ((-3), RA, na)) else ((-1), RA, na)))

set_option maxHeartbeats 4000000 in
set_option maxRecDepth 100000 in
/-- X5_addAddress -/
theorem mX5_addAddress (l : Launch) (D : va_G) (cI cC cS : ClassId) (sz : Nat) (h : Nat) (t1 : Nat) (t2 : Nat) (t3 : Nat) (a1 : Nat) (a2 : Nat) (a3 : Nat) (RA : Nat → Int32) (RI : Nat → Int32) (RC : Nat → Int32) (na : Int32) (ni : Int32) (dy : Int32) (vl : Int32) (db : Int32) (area : Int32)  : Met l yX5_addAddress wsX5_addAddress ({ frames := 1, cells := 0, slots := 0, locals := 24 } : Jvm.Room) (va_Pc [.ref h, .int area] (wPre D (TY cI cC cS) [(h, .inr (4, [.ref t1, .ref t2, .ref t3, .int na, .int ni, .int dy, .int vl, .int db])), (t1, .inr (5, [.ref a1, .int 10])), (t2, .inr (5, [.ref a2, .int 6])), (t3, .inr (5, [.ref a3, .int 3])), (a1, .inl (cI, 240, .inl RA)), (a2, .inl (cI, 30, .inl RI)), (a3, .inl (cI, 36, .inl RC))] sz wN)) (qI D (TY cI cC cS) (fun (r : Int32) (u : Int32 × (Nat → Int32) × Int32) => fX5_addAddress RA na area = u ∧ r = u.1) (fun u => [(h, .inr (4, [.ref t1, .ref t2, .ref t3, .int u.2.2, .int ni, .int dy, .int vl, .int db])), (t1, .inr (5, [.ref a1, .int 10])), (t2, .inr (5, [.ref a2, .int 6])), (t3, .inr (5, [.ref a3, .int 3])), (a1, .inl (cI, 240, .inl u.2.1)), (a2, .inl (cI, 30, .inl RI)), (a3, .inl (cI, 36, .inl RC))]) (va_A [(h, .inr (4, [.ref t1, .ref t2, .ref t3, .int na, .int ni, .int dy, .int vl, .int db])), (t1, .inr (5, [.ref a1, .int 10])), (t2, .inr (5, [.ref a2, .int 6])), (t3, .inr (5, [.ref a3, .int 3])), (a1, .inl (cI, 240, .inl RA)), (a2, .inl (cI, 30, .inl RI)), (a3, .inl (cI, 36, .inl RC))] sz)) 0 0 (va_A [(h, .inr (4, [.ref t1, .ref t2, .ref t3, .int na, .int ni, .int dy, .int vl, .int db])), (t1, .inr (5, [.ref a1, .int 10])), (t2, .inr (5, [.ref a2, .int 6])), (t3, .inr (5, [.ref a3, .int 3])), (a1, .inl (cI, 240, .inl RA)), (a2, .inl (cI, 30, .inl RI)), (a3, .inl (cI, 36, .inl RC))] sz) := by
  refine mkM (fun Fr => qI D (TY cI cC cS) (fun (r : Int32) (u : Int32 × (Nat → Int32) × Int32) => fX5_addAddress RA na area = u ∧ r = u.1) (fun u => [(h, .inr (4, [.ref t1, .ref t2, .ref t3, .int u.2.2, .int ni, .int dy, .int vl, .int db])), (t1, .inr (5, [.ref a1, .int 10])), (t2, .inr (5, [.ref a2, .int 6])), (t3, .inr (5, [.ref a3, .int 3])), (a1, .inl (cI, 240, .inl u.2.1)), (a2, .inl (cI, 30, .inl RI)), (a3, .inl (cI, 36, .inl RC))]) Fr) (cc := cX5_addAddress) (maxL := 4) (ret := (some .int)) (own := RX5) (lv := [(0, .ref h), (1, .int area)]) (by decide) rfl rfl (Nat.le_of_ble_eq_true rfl) rfl ?_
  intro p e s m below meth c Fr ls hx hb hr hts hown hml hlk hin hP hK hD hS hA hAe hsz hX hl
  have w_1 := hts (.fieldLink RX5 41 "FieldQuotas$Survey" "addressCount" "I") (List.mem_of_getElem? (i := 1) rfl)
  have w_2 := sub_r (big := wsX5_addAddress) (u_ws RX5 TX5 8) [13, 14, 15, 16, 17, 18, 19, 20] rfl
  have w_3 := hts (.fieldLink RX5 14 "FieldQuotas$Survey" "addressRows" "LFieldQuotas$Table;") (List.mem_of_getElem? (i := 2) rfl)
  refine lv_iload_n hx hb dX5_addAddress_0 rfl (lv_at hl 1 rfl) ?_
  refine lv_iconst (v := 0) hx hb dX5_addAddress_1 (by decide) ?_
  refine lv_iconst (v := 3) hx hb dX5_addAddress_2 (by decide) ?_
  refine callNi (As := [.int area, .int 0, .int 3]) (rest := []) (mX8_isWithin l D cI cC cS _ area 0 3) ⟨hx, hb, hml, hown, hts⟩ (⟨va_cnB 3 hts gX5_addAddress_X8_isWithin_n50 rfl rfl rfl hX.2.1 (hts (.initialized RX8) (List.mem_of_getElem? (i := 4) rfl)) (by decide +kernel) ⟨Nat.le_of_ble_eq_true rfl, Nat.le_of_ble_eq_true rfl⟩, hts (.static yX8_isWithin) (List.mem_of_getElem? (i := 3) rfl), trivial⟩) hP hK hD hS hA hl rfl rfl (Nat.le_of_ble_eq_true rfl) dX5_addAddress_3 ⟨Nat.zero_le _, Nat.zero_le _⟩ (fun u_ H locs hk2 hP hS => ?_)
  obtain ⟨r_2, e_r_2⟩ : ∃ z, z = u_ := ⟨_, rfl⟩
  subst e_r_2
  refine W.eq (g2 := F0 m 6 ls [.int (bi r_2)]) rfl ?_
  refine lv_if_ne (tgt := 11) hx hb dX5_addAddress_6 (by decide) (fun c6 => ?_) (fun c6 => ?_)
  · refine lv_aload_n hx hb dX5_addAddress_11 rfl (lv_at hl 0 rfl) ?_
    refine va_get (D := D) (ci := 4) (C := RX5) (T := TX5) (N := 8) hx hb hts w_2 hown hK hP 0 rfl rfl 3 (by decide) w_1 (fun _ h9 => h9) rfl dX5_addAddress_12 ?_
    refine lv_bipush (v := 24) hx hb dX5_addAddress_15 (by decide) ?_
    refine lv_icmp_lt (tgt := 23) hx hb dX5_addAddress_17 (by decide) (fun c17 => ?_) (fun c17 => ?_)
    · refine lv_aload_n hx hb dX5_addAddress_23 rfl (lv_at hl 0 rfl) ?_
      refine va_get (D := D) (ci := 4) (C := RX5) (T := TX5) (N := 8) hx hb hts w_2 hown hK hP 0 rfl rfl 3 (by decide) w_1 (fun _ h9 => h9) rfl dX5_addAddress_24 ?_
      refine lv_istore_n (lv' := [(2, .int na), (0, .ref h), (1, .int area)]) hx hb dX5_addAddress_27 rfl hl (by decide) rfl (fun ls hl => ?_)
      refine lv_aload_n hx hb dX5_addAddress_28 rfl (lv_at hl 1 rfl) ?_
      refine lv_dup hx hb dX5_addAddress_29 rfl ?_
      refine va_get (D := D) (ci := 4) (C := RX5) (T := TX5) (N := 8) hx hb hts w_2 hown hK hP 0 rfl rfl 3 (by decide) w_1 (fun _ h9 => h9) rfl dX5_addAddress_30 ?_
      refine lv_iconst (v := 1) hx hb dX5_addAddress_33 (by decide) ?_
      refine lv_iadd hx hb dX5_addAddress_34 ?_
      refine va_put (D := D) (ci := 4) (v := .int (na + 1)) (ty := .int) (C := RX5) (T := TX5) (N := 8) hx hb hts w_2 tyX5 tyX5_ok nmX5 hown hK hP hD hS 0 rfl rfl 3 (by decide) w_1 (fun _ h9 => h9) rfl (by decide +kernel) rfl rfl (Nat.le_of_ble_eq_true rfl) dX5_addAddress_35 (fun H locs hP hD hS => ?_)
      have hP : va_P D vwCl [(h, .inr (4, [.ref t1, .ref t2, .ref t3, .int (na + 1), .int ni, .int dy, .int vl, .int db])), (t1, .inr (5, [.ref a1, .int 10])), (t2, .inr (5, [.ref a2, .int 6])), (t3, .inr (5, [.ref a3, .int 3])), (a1, .inl (cI, 240, .inl RA)), (a2, .inl (cI, 30, .inl RI)), (a3, .inl (cI, 36, .inl RC))] H := hP
      have hD : va_D Fr [(h, .inr (4, [.ref t1, .ref t2, .ref t3, .int (na + 1), .int ni, .int dy, .int vl, .int db])), (t1, .inr (5, [.ref a1, .int 10])), (t2, .inr (5, [.ref a2, .int 6])), (t3, .inr (5, [.ref a3, .int 3])), (a1, .inl (cI, 240, .inl RA)), (a2, .inl (cI, 30, .inl RI)), (a3, .inl (cI, 36, .inl RC))] := hD
      refine lv_aload_n hx hb dX5_addAddress_38 rfl (lv_at hl 1 rfl) ?_
      refine va_get (D := D) (ci := 4) (C := RX5) (T := TX5) (N := 8) hx hb hts w_2 hown hK hP 0 rfl rfl 0 (by decide) w_3 (fun _ h9 => h9) rfl dX5_addAddress_39 ?_
      refine lv_iload_n hx hb dX5_addAddress_42 rfl (lv_at hl 0 rfl) ?_
      refine lv_iconst (v := 0) hx hb dX5_addAddress_43 (by decide) ?_
      refine lv_iload_n hx hb dX5_addAddress_44 rfl (lv_at hl 2 rfl) ?_
      refine callVv (As := [.int na, .int 0, .int area]) (rest := []) (mX6_put l D cI cC cS _ t1 a1 240 RA 10 na 0 area (by decide)) ⟨hx, hb, hml, hown, hts⟩ (cwV 3 hts gX5_addAddress_X6_put rfl rfl rfl (by decide +kernel) ⟨Nat.le_of_ble_eq_true rfl, Nat.le_of_ble_eq_true rfl⟩) X0_blind (fun _ _ _ => trivial) hP hK hD hS hA hl [1, 4] rfl rfl 0 5 rfl rfl rfl rfl rfl (Nat.le_of_ble_eq_true rfl) dX5_addAddress_45 ⟨Nat.zero_le _, Nat.zero_le _⟩ (fun _ => rfl) (fun u_ H locs hk5 hP hD hS => ?_)
      obtain ⟨u_5, e_u_5⟩ : ∃ z, z = u_ := ⟨_, rfl⟩
      subst e_u_5
      have hP : va_P D vwCl [(h, .inr (4, [.ref t1, .ref t2, .ref t3, .int (na + 1), .int ni, .int dy, .int vl, .int db])), (t1, .inr (5, [.ref a1, .int 10])), (t2, .inr (5, [.ref a2, .int 6])), (t3, .inr (5, [.ref a3, .int 3])), (a1, .inl (cI, 240, .inl u_5)), (a2, .inl (cI, 30, .inl RI)), (a3, .inl (cI, 36, .inl RC))] H := hP
      have hD : va_D Fr [(h, .inr (4, [.ref t1, .ref t2, .ref t3, .int (na + 1), .int ni, .int dy, .int vl, .int db])), (t1, .inr (5, [.ref a1, .int 10])), (t2, .inr (5, [.ref a2, .int 6])), (t3, .inr (5, [.ref a3, .int 3])), (a1, .inl (cI, 240, .inl u_5)), (a2, .inl (cI, 30, .inl RI)), (a3, .inl (cI, 36, .inl RC))] := hD
      refine W.eq (g2 := F0 m 48 ls []) rfl ?_
      refine lv_iconst (v := 4) hx hb dX5_addAddress_48 (by decide) ?_
      refine lv_istore_n (lv' := [(3, .int 4), (2, .int na), (0, .ref h), (1, .int area)]) hx hb dX5_addAddress_49 rfl hl (by decide) rfl (fun ls hl => ?_)
      have K_50 : ∀ (fu : Nat) (x3 : Int32) (QA : Nat → Int32) (H : Heap) (locs : List Loc) (ls : Array Slot), va_P D vwCl [(h, .inr (4, [.ref t1, .ref t2, .ref t3, .int (na + 1), .int ni, .int dy, .int vl, .int db])), (t1, .inr (5, [.ref a1, .int 10])), (t2, .inr (5, [.ref a2, .int 6])), (t3, .inr (5, [.ref a3, .int 3])), (a1, .inl (cI, 240, .inl QA)), (a2, .inl (cI, 30, .inl RI)), (a3, .inl (cI, 36, .inl RC))] H → va_D Fr [(h, .inr (4, [.ref t1, .ref t2, .ref t3, .int (na + 1), .int ni, .int dy, .int vl, .int db])), (t1, .inr (5, [.ref a1, .int 10])), (t2, .inr (5, [.ref a2, .int 6])), (t3, .inr (5, [.ref a3, .int 3])), (a1, .inl (cI, 240, .inl QA)), (a2, .inl (cI, 30, .inl RI)), (a3, .inl (cI, 36, .inl RC))] → va_S Fr s.heap H locs → lv_has ls 4 [(0, .ref h), (1, .int area), (2, .int na), (3, .int x3)] → ((10 : Int32).toInt - x3.toInt).toNat < fu → fX5_addAddress RA na area = fX5_addAddress_50 RA na area fu x3 QA → W p l e (headSpec wsX5_addAddress ({ frames := 1, cells := 0, slots := 0, locals := 24 } : Jvm.Room)).room s m ([.ref h, .int area] : List Value).toArray below meth c H locs 0 0 (MQ below (qI D (TY cI cC cS) (fun (r : Int32) (u : Int32 × (Nat → Int32) × Int32) => fX5_addAddress RA na area = u ∧ r = u.1) (fun u => [(h, .inr (4, [.ref t1, .ref t2, .ref t3, .int u.2.2, .int ni, .int dy, .int vl, .int db])), (t1, .inr (5, [.ref a1, .int 10])), (t2, .inr (5, [.ref a2, .int 6])), (t3, .inr (5, [.ref a3, .int 3])), (a1, .inl (cI, 240, .inl u.2.1)), (a2, .inl (cI, 30, .inl RI)), (a3, .inl (cI, 36, .inl RC))]) Fr) ([.ref h, .int area] : List Value).toArray s 0 0 Fr) (F0 m 50 ls []) := by
        intro fu
        induction fu with
        | zero => intros; exact absurd (by assumption) (Nat.not_lt_zero _)
        | succ fu ih_50 =>
          intro x3 QA H locs ls hP hD hS hl  hm_50 E_50
          refine lv_iload_n hx hb dX5_addAddress_50 rfl (lv_at hl 3 rfl) ?_
          refine lv_bipush (v := 10) hx hb dX5_addAddress_51 (by decide) ?_
          refine lv_icmp_ge (tgt := 73) hx hb dX5_addAddress_53 (by decide) (fun c53 => ?_) (fun c53 => ?_)
          · refine lv_iload_n hx hb dX5_addAddress_73 rfl (lv_at hl 2 rfl) ?_
            exact endI hx hb hr hlk hP hK hD hS dX5_addAddress_74 (na, QA, na + 1) rfl ⟨(E_50).trans ((fX5_addAddress_50_s RA na area fu x3 QA).trans ((if_pos c53).trans rfl)), rfl⟩
          · refine lv_aload_n hx hb dX5_addAddress_56 rfl (lv_at hl 0 rfl) ?_
            refine va_get (D := D) (ci := 4) (C := RX5) (T := TX5) (N := 8) hx hb hts w_2 hown hK hP 0 rfl rfl 0 (by decide) w_3 (fun _ h9 => h9) rfl dX5_addAddress_57 ?_
            refine lv_iload_n hx hb dX5_addAddress_60 rfl (lv_at hl 2 rfl) ?_
            refine lv_iload_n hx hb dX5_addAddress_61 rfl (lv_at hl 3 rfl) ?_
            refine lv_bipush (v := (-4)) hx hb dX5_addAddress_62 (by decide) ?_
            refine callVv (As := [.int na, .int x3, .int (-4)]) (rest := []) (mX6_put l D cI cC cS _ t1 a1 240 QA 10 na x3 (-4) (by decide)) ⟨hx, hb, hml, hown, hts⟩ (cwV 3 hts gX5_addAddress_X6_put rfl rfl rfl (by decide +kernel) ⟨Nat.le_of_ble_eq_true rfl, Nat.le_of_ble_eq_true rfl⟩) X0_blind (fun _ _ _ => trivial) hP hK hD hS hA hl [1, 4] rfl rfl 0 5 rfl rfl rfl rfl rfl (Nat.le_of_ble_eq_true rfl) dX5_addAddress_64 ⟨Nat.zero_le _, Nat.zero_le _⟩ (fun _ => rfl) (fun u_ H locs hk8 hP hD hS => ?_)
            obtain ⟨u_8, e_u_8⟩ : ∃ z, z = u_ := ⟨_, rfl⟩
            subst e_u_8
            have hP : va_P D vwCl [(h, .inr (4, [.ref t1, .ref t2, .ref t3, .int (na + 1), .int ni, .int dy, .int vl, .int db])), (t1, .inr (5, [.ref a1, .int 10])), (t2, .inr (5, [.ref a2, .int 6])), (t3, .inr (5, [.ref a3, .int 3])), (a1, .inl (cI, 240, .inl u_8)), (a2, .inl (cI, 30, .inl RI)), (a3, .inl (cI, 36, .inl RC))] H := hP
            have hD : va_D Fr [(h, .inr (4, [.ref t1, .ref t2, .ref t3, .int (na + 1), .int ni, .int dy, .int vl, .int db])), (t1, .inr (5, [.ref a1, .int 10])), (t2, .inr (5, [.ref a2, .int 6])), (t3, .inr (5, [.ref a3, .int 3])), (a1, .inl (cI, 240, .inl u_8)), (a2, .inl (cI, 30, .inl RI)), (a3, .inl (cI, 36, .inl RC))] := hD
            refine W.eq (g2 := F0 m 67 ls []) rfl ?_
            refine lv_iinc (v := x3 + 1) (lv' := [(3, .int (x3 + 1)), (0, .ref h), (1, .int area), (2, .int na)]) hx hb dX5_addAddress_67 hl (k := 3) rfl (by rfl) (by decide) rfl (fun ls hl => ?_)
            refine lv_goto (tgt := 50) hx hb dX5_addAddress_70 (by decide) ?_
            exact ih_50 (x3 + 1) u_8 _ _ ls hP hD hS (lv_sub hl [1, 2, 3, 0] rfl) (Nat.lt_of_lt_of_le (lp_dec c53) (Nat.le_of_lt_succ hm_50)) ((E_50).trans ((fX5_addAddress_50_s RA na area fu x3 QA).trans ((if_neg c53).trans ((bd1_e hk8).trans rfl))))
      exact K_50 (((10 : Int32).toInt - (4 : Int32).toInt).toNat + 1) 4 u_5 _ _ ls hP hD hS (lv_sub hl [2, 3, 1, 0] rfl) (Nat.lt_succ_self _) ((bd1_e hk2).trans ((if_pos (bi_o c6)).trans ((if_pos c17).trans ((bd1_e hk5).trans rfl))))
    · refine lv_bipush (v := (-3)) hx hb dX5_addAddress_20 (by decide) ?_
      exact endI hx hb hr hlk hP hK hD hS dX5_addAddress_22 ((-3), RA, na) rfl ⟨(bd1_e hk2).trans ((if_pos (bi_o c6)).trans ((if_neg c17).trans rfl)), rfl⟩
  · refine lv_iconst (v := (-1)) hx hb dX5_addAddress_9 (by decide) ?_
    exact endI hx hb hr hlk hP hK hD hS dX5_addAddress_10 ((-1), RA, na) rfl ⟨(bd1_e hk2).trans ((if_neg (bi_z c6)).trans rfl), rfl⟩

/-- the value of X5_addInterviewer, path by path -/
def fX5_addInterviewer (RI : Nat → Int32) (ni : Int32) (area : Int32) (load : Int32) : Int32 × (Nat → Int32) × Int32 :=
  bd1 (fX8_isWithin area 0 3) (fun (r_2 : Bool) => (if r_2 = true then bd1 (fX8_isWithin load 1 9) (fun (r_4 : Bool) => (if r_4 = true then (if ni < 5 then bd1 (fX6_put 30 RI 6 ni 0 area) (fun (u_7 : Nat → Int32) => bd1 (fX6_put 30 u_7 6 ni 1 load) (fun (u_10 : Nat → Int32) => (ni, u_10, ni + 1))) else ((-3), RI, ni)) else ((-1), RI, ni))) else ((-1), RI, ni)))

set_option maxHeartbeats 4000000 in
set_option maxRecDepth 100000 in
/-- X5_addInterviewer -/
theorem mX5_addInterviewer (l : Launch) (D : va_G) (cI cC cS : ClassId) (sz : Nat) (h : Nat) (t1 : Nat) (t2 : Nat) (t3 : Nat) (a1 : Nat) (a2 : Nat) (a3 : Nat) (RA : Nat → Int32) (RI : Nat → Int32) (RC : Nat → Int32) (na : Int32) (ni : Int32) (dy : Int32) (vl : Int32) (db : Int32) (area : Int32) (load : Int32)  : Met l yX5_addInterviewer wsX5_addInterviewer ({ frames := 1, cells := 0, slots := 0, locals := 24 } : Jvm.Room) (va_Pc [.ref h, .int area, .int load] (wPre D (TY cI cC cS) [(h, .inr (4, [.ref t1, .ref t2, .ref t3, .int na, .int ni, .int dy, .int vl, .int db])), (t1, .inr (5, [.ref a1, .int 10])), (t2, .inr (5, [.ref a2, .int 6])), (t3, .inr (5, [.ref a3, .int 3])), (a1, .inl (cI, 240, .inl RA)), (a2, .inl (cI, 30, .inl RI)), (a3, .inl (cI, 36, .inl RC))] sz wN)) (qI D (TY cI cC cS) (fun (r : Int32) (u : Int32 × (Nat → Int32) × Int32) => fX5_addInterviewer RI ni area load = u ∧ r = u.1) (fun u => [(h, .inr (4, [.ref t1, .ref t2, .ref t3, .int na, .int u.2.2, .int dy, .int vl, .int db])), (t1, .inr (5, [.ref a1, .int 10])), (t2, .inr (5, [.ref a2, .int 6])), (t3, .inr (5, [.ref a3, .int 3])), (a1, .inl (cI, 240, .inl RA)), (a2, .inl (cI, 30, .inl u.2.1)), (a3, .inl (cI, 36, .inl RC))]) (va_A [(h, .inr (4, [.ref t1, .ref t2, .ref t3, .int na, .int ni, .int dy, .int vl, .int db])), (t1, .inr (5, [.ref a1, .int 10])), (t2, .inr (5, [.ref a2, .int 6])), (t3, .inr (5, [.ref a3, .int 3])), (a1, .inl (cI, 240, .inl RA)), (a2, .inl (cI, 30, .inl RI)), (a3, .inl (cI, 36, .inl RC))] sz)) 0 0 (va_A [(h, .inr (4, [.ref t1, .ref t2, .ref t3, .int na, .int ni, .int dy, .int vl, .int db])), (t1, .inr (5, [.ref a1, .int 10])), (t2, .inr (5, [.ref a2, .int 6])), (t3, .inr (5, [.ref a3, .int 3])), (a1, .inl (cI, 240, .inl RA)), (a2, .inl (cI, 30, .inl RI)), (a3, .inl (cI, 36, .inl RC))] sz) := by
  refine mkM (fun Fr => qI D (TY cI cC cS) (fun (r : Int32) (u : Int32 × (Nat → Int32) × Int32) => fX5_addInterviewer RI ni area load = u ∧ r = u.1) (fun u => [(h, .inr (4, [.ref t1, .ref t2, .ref t3, .int na, .int u.2.2, .int dy, .int vl, .int db])), (t1, .inr (5, [.ref a1, .int 10])), (t2, .inr (5, [.ref a2, .int 6])), (t3, .inr (5, [.ref a3, .int 3])), (a1, .inl (cI, 240, .inl RA)), (a2, .inl (cI, 30, .inl u.2.1)), (a3, .inl (cI, 36, .inl RC))]) Fr) (cc := cX5_addInterviewer) (maxL := 4) (ret := (some .int)) (own := RX5) (lv := [(0, .ref h), (1, .int area), (2, .int load)]) (by decide) rfl rfl (Nat.le_of_ble_eq_true rfl) rfl ?_
  intro p e s m below meth c Fr ls hx hb hr hts hown hml hlk hin hP hK hD hS hA hAe hsz hX hl
  have w_1 := hts (.fieldLink RX5 44 "FieldQuotas$Survey" "interviewerCount" "I") (List.mem_of_getElem? (i := 1) rfl)
  have w_2 := sub_r (big := wsX5_addInterviewer) (u_ws RX5 TX5 8) [13, 14, 15, 16, 17, 18, 19, 20] rfl
  have w_3 := hts (.fieldLink RX5 20 "FieldQuotas$Survey" "interviewerRows" "LFieldQuotas$Table;") (List.mem_of_getElem? (i := 2) rfl)
  refine lv_iload_n hx hb dX5_addInterviewer_0 rfl (lv_at hl 1 rfl) ?_
  refine lv_iconst (v := 0) hx hb dX5_addInterviewer_1 (by decide) ?_
  refine lv_iconst (v := 3) hx hb dX5_addInterviewer_2 (by decide) ?_
  refine callNi (As := [.int area, .int 0, .int 3]) (rest := []) (mX8_isWithin l D cI cC cS _ area 0 3) ⟨hx, hb, hml, hown, hts⟩ (⟨va_cnB 3 hts gX5_addInterviewer_X8_isWithin_n50 rfl rfl rfl hX.2.1 (hts (.initialized RX8) (List.mem_of_getElem? (i := 4) rfl)) (by decide +kernel) ⟨Nat.le_of_ble_eq_true rfl, Nat.le_of_ble_eq_true rfl⟩, hts (.static yX8_isWithin) (List.mem_of_getElem? (i := 3) rfl), trivial⟩) hP hK hD hS hA hl rfl rfl (Nat.le_of_ble_eq_true rfl) dX5_addInterviewer_3 ⟨Nat.zero_le _, Nat.zero_le _⟩ (fun u_ H locs hk2 hP hS => ?_)
  obtain ⟨r_2, e_r_2⟩ : ∃ z, z = u_ := ⟨_, rfl⟩
  subst e_r_2
  refine W.eq (g2 := F0 m 6 ls [.int (bi r_2)]) rfl ?_
  refine lv_if_eq (tgt := 19) hx hb dX5_addInterviewer_6 (by decide) (fun c6 => ?_) (fun c6 => ?_)
  · refine lv_iconst (v := (-1)) hx hb dX5_addInterviewer_19 (by decide) ?_
    exact endI hx hb hr hlk hP hK hD hS dX5_addInterviewer_20 ((-1), RI, ni) rfl ⟨(bd1_e hk2).trans ((if_neg (bi_z c6)).trans rfl), rfl⟩
  · refine lv_iload_n hx hb dX5_addInterviewer_9 rfl (lv_at hl 2 rfl) ?_
    refine lv_iconst (v := 1) hx hb dX5_addInterviewer_10 (by decide) ?_
    refine lv_bipush (v := 9) hx hb dX5_addInterviewer_11 (by decide) ?_
    refine callNi (As := [.int load, .int 1, .int 9]) (rest := []) (mX8_isWithin l D cI cC cS _ load 1 9) ⟨hx, hb, hml, hown, hts⟩ (⟨va_cnB 3 hts gX5_addInterviewer_X8_isWithin_n50 rfl rfl rfl hX.2.1 (hts (.initialized RX8) (List.mem_of_getElem? (i := 4) rfl)) (by decide +kernel) ⟨Nat.le_of_ble_eq_true rfl, Nat.le_of_ble_eq_true rfl⟩, hts (.static yX8_isWithin) (List.mem_of_getElem? (i := 3) rfl), trivial⟩) hP hK hD hS hA hl rfl rfl (Nat.le_of_ble_eq_true rfl) dX5_addInterviewer_13 ⟨Nat.zero_le _, Nat.zero_le _⟩ (fun u_ H locs hk4 hP hS => ?_)
    obtain ⟨r_4, e_r_4⟩ : ∃ z, z = u_ := ⟨_, rfl⟩
    subst e_r_4
    refine W.eq (g2 := F0 m 16 ls [.int (bi r_4)]) rfl ?_
    refine lv_if_ne (tgt := 21) hx hb dX5_addInterviewer_16 (by decide) (fun c16 => ?_) (fun c16 => ?_)
    · refine lv_aload_n hx hb dX5_addInterviewer_21 rfl (lv_at hl 0 rfl) ?_
      refine va_get (D := D) (ci := 4) (C := RX5) (T := TX5) (N := 8) hx hb hts w_2 hown hK hP 0 rfl rfl 4 (by decide) w_1 (fun _ h9 => h9) rfl dX5_addInterviewer_22 ?_
      refine lv_iconst (v := 5) hx hb dX5_addInterviewer_25 (by decide) ?_
      refine lv_icmp_lt (tgt := 32) hx hb dX5_addInterviewer_26 (by decide) (fun c26 => ?_) (fun c26 => ?_)
      · refine lv_aload_n hx hb dX5_addInterviewer_32 rfl (lv_at hl 0 rfl) ?_
        refine va_get (D := D) (ci := 4) (C := RX5) (T := TX5) (N := 8) hx hb hts w_2 hown hK hP 0 rfl rfl 4 (by decide) w_1 (fun _ h9 => h9) rfl dX5_addInterviewer_33 ?_
        refine lv_istore_n (lv' := [(3, .int ni), (0, .ref h), (1, .int area), (2, .int load)]) hx hb dX5_addInterviewer_36 rfl hl (by decide) rfl (fun ls hl => ?_)
        refine lv_aload_n hx hb dX5_addInterviewer_37 rfl (lv_at hl 1 rfl) ?_
        refine lv_dup hx hb dX5_addInterviewer_38 rfl ?_
        refine va_get (D := D) (ci := 4) (C := RX5) (T := TX5) (N := 8) hx hb hts w_2 hown hK hP 0 rfl rfl 4 (by decide) w_1 (fun _ h9 => h9) rfl dX5_addInterviewer_39 ?_
        refine lv_iconst (v := 1) hx hb dX5_addInterviewer_42 (by decide) ?_
        refine lv_iadd hx hb dX5_addInterviewer_43 ?_
        refine va_put (D := D) (ci := 4) (v := .int (ni + 1)) (ty := .int) (C := RX5) (T := TX5) (N := 8) hx hb hts w_2 tyX5 tyX5_ok nmX5 hown hK hP hD hS 0 rfl rfl 4 (by decide) w_1 (fun _ h9 => h9) rfl (by decide +kernel) rfl rfl (Nat.le_of_ble_eq_true rfl) dX5_addInterviewer_44 (fun H locs hP hD hS => ?_)
        have hP : va_P D vwCl [(h, .inr (4, [.ref t1, .ref t2, .ref t3, .int na, .int (ni + 1), .int dy, .int vl, .int db])), (t1, .inr (5, [.ref a1, .int 10])), (t2, .inr (5, [.ref a2, .int 6])), (t3, .inr (5, [.ref a3, .int 3])), (a1, .inl (cI, 240, .inl RA)), (a2, .inl (cI, 30, .inl RI)), (a3, .inl (cI, 36, .inl RC))] H := hP
        have hD : va_D Fr [(h, .inr (4, [.ref t1, .ref t2, .ref t3, .int na, .int (ni + 1), .int dy, .int vl, .int db])), (t1, .inr (5, [.ref a1, .int 10])), (t2, .inr (5, [.ref a2, .int 6])), (t3, .inr (5, [.ref a3, .int 3])), (a1, .inl (cI, 240, .inl RA)), (a2, .inl (cI, 30, .inl RI)), (a3, .inl (cI, 36, .inl RC))] := hD
        refine lv_aload_n hx hb dX5_addInterviewer_47 rfl (lv_at hl 1 rfl) ?_
        refine va_get (D := D) (ci := 4) (C := RX5) (T := TX5) (N := 8) hx hb hts w_2 hown hK hP 0 rfl rfl 1 (by decide) w_3 (fun _ h9 => h9) rfl dX5_addInterviewer_48 ?_
        refine lv_iload_n hx hb dX5_addInterviewer_51 rfl (lv_at hl 0 rfl) ?_
        refine lv_iconst (v := 0) hx hb dX5_addInterviewer_52 (by decide) ?_
        refine lv_iload_n hx hb dX5_addInterviewer_53 rfl (lv_at hl 2 rfl) ?_
        refine callVv (As := [.int ni, .int 0, .int area]) (rest := []) (mX6_put l D cI cC cS _ t2 a2 30 RI 6 ni 0 area (by decide)) ⟨hx, hb, hml, hown, hts⟩ (cwV 3 hts gX5_addInterviewer_X6_put rfl rfl rfl (by decide +kernel) ⟨Nat.le_of_ble_eq_true rfl, Nat.le_of_ble_eq_true rfl⟩) X0_blind (fun _ _ _ => trivial) hP hK hD hS hA hl [2, 5] rfl rfl 0 5 rfl rfl rfl rfl rfl (Nat.le_of_ble_eq_true rfl) dX5_addInterviewer_54 ⟨Nat.zero_le _, Nat.zero_le _⟩ (fun _ => rfl) (fun u_ H locs hk7 hP hD hS => ?_)
        obtain ⟨u_7, e_u_7⟩ : ∃ z, z = u_ := ⟨_, rfl⟩
        subst e_u_7
        have hP : va_P D vwCl [(h, .inr (4, [.ref t1, .ref t2, .ref t3, .int na, .int (ni + 1), .int dy, .int vl, .int db])), (t1, .inr (5, [.ref a1, .int 10])), (t2, .inr (5, [.ref a2, .int 6])), (t3, .inr (5, [.ref a3, .int 3])), (a1, .inl (cI, 240, .inl RA)), (a2, .inl (cI, 30, .inl u_7)), (a3, .inl (cI, 36, .inl RC))] H := hP
        have hD : va_D Fr [(h, .inr (4, [.ref t1, .ref t2, .ref t3, .int na, .int (ni + 1), .int dy, .int vl, .int db])), (t1, .inr (5, [.ref a1, .int 10])), (t2, .inr (5, [.ref a2, .int 6])), (t3, .inr (5, [.ref a3, .int 3])), (a1, .inl (cI, 240, .inl RA)), (a2, .inl (cI, 30, .inl u_7)), (a3, .inl (cI, 36, .inl RC))] := hD
        refine W.eq (g2 := F0 m 57 ls []) rfl ?_
        refine lv_aload_n hx hb dX5_addInterviewer_57 rfl (lv_at hl 1 rfl) ?_
        refine va_get (D := D) (ci := 4) (C := RX5) (T := TX5) (N := 8) hx hb hts w_2 hown hK hP 0 rfl rfl 1 (by decide) w_3 (fun _ h9 => h9) rfl dX5_addInterviewer_58 ?_
        refine lv_iload_n hx hb dX5_addInterviewer_61 rfl (lv_at hl 0 rfl) ?_
        refine lv_iconst (v := 1) hx hb dX5_addInterviewer_62 (by decide) ?_
        refine lv_iload_n hx hb dX5_addInterviewer_63 rfl (lv_at hl 3 rfl) ?_
        refine callVv (As := [.int ni, .int 1, .int load]) (rest := []) (mX6_put l D cI cC cS _ t2 a2 30 u_7 6 ni 1 load (by decide)) ⟨hx, hb, hml, hown, hts⟩ (cwV 3 hts gX5_addInterviewer_X6_put rfl rfl rfl (by decide +kernel) ⟨Nat.le_of_ble_eq_true rfl, Nat.le_of_ble_eq_true rfl⟩) X0_blind (fun _ _ _ => trivial) hP hK hD hS hA hl [2, 5] rfl rfl 0 5 rfl rfl rfl rfl rfl (Nat.le_of_ble_eq_true rfl) dX5_addInterviewer_64 ⟨Nat.zero_le _, Nat.zero_le _⟩ (fun _ => rfl) (fun u_ H locs hk10 hP hD hS => ?_)
        obtain ⟨u_10, e_u_10⟩ : ∃ z, z = u_ := ⟨_, rfl⟩
        subst e_u_10
        have hP : va_P D vwCl [(h, .inr (4, [.ref t1, .ref t2, .ref t3, .int na, .int (ni + 1), .int dy, .int vl, .int db])), (t1, .inr (5, [.ref a1, .int 10])), (t2, .inr (5, [.ref a2, .int 6])), (t3, .inr (5, [.ref a3, .int 3])), (a1, .inl (cI, 240, .inl RA)), (a2, .inl (cI, 30, .inl u_10)), (a3, .inl (cI, 36, .inl RC))] H := hP
        have hD : va_D Fr [(h, .inr (4, [.ref t1, .ref t2, .ref t3, .int na, .int (ni + 1), .int dy, .int vl, .int db])), (t1, .inr (5, [.ref a1, .int 10])), (t2, .inr (5, [.ref a2, .int 6])), (t3, .inr (5, [.ref a3, .int 3])), (a1, .inl (cI, 240, .inl RA)), (a2, .inl (cI, 30, .inl u_10)), (a3, .inl (cI, 36, .inl RC))] := hD
        refine W.eq (g2 := F0 m 67 ls []) rfl ?_
        refine lv_iload_n hx hb dX5_addInterviewer_67 rfl (lv_at hl 0 rfl) ?_
        exact endI hx hb hr hlk hP hK hD hS dX5_addInterviewer_68 (ni, u_10, ni + 1) rfl ⟨(bd1_e hk2).trans ((if_pos (bi_o c6)).trans ((bd1_e hk4).trans ((if_pos (bi_o c16)).trans ((if_pos c26).trans ((bd1_e hk7).trans ((bd1_e hk10).trans rfl)))))), rfl⟩
      · refine lv_bipush (v := (-3)) hx hb dX5_addInterviewer_29 (by decide) ?_
        exact endI hx hb hr hlk hP hK hD hS dX5_addInterviewer_31 ((-3), RI, ni) rfl ⟨(bd1_e hk2).trans ((if_pos (bi_o c6)).trans ((bd1_e hk4).trans ((if_pos (bi_o c16)).trans ((if_neg c26).trans rfl)))), rfl⟩
    · refine lv_iconst (v := (-1)) hx hb dX5_addInterviewer_19 (by decide) ?_
      exact endI hx hb hr hlk hP hK hD hS dX5_addInterviewer_20 ((-1), RI, ni) rfl ⟨(bd1_e hk2).trans ((if_pos (bi_o c6)).trans ((bd1_e hk4).trans ((if_neg (bi_z c16)).trans rfl))), rfl⟩

/-- the value of X5_changeCell, path by path -/
def fX5_changeCell (RC : Nat → Int32) (area : Int32) (group : Int32) (column : Int32) (number : Int32) : Int32 × (Nat → Int32) :=
  bd1 ((area * 3) + group) (fun (y_1 : Int32) => bd1 (fX6_get 36 RC 3 y_1 column) (fun (r_3 : Int32) => bd1 (fX6_put 36 RC 3 y_1 column number) (fun (u_6 : Nat → Int32) => (r_3, u_6))))

set_option maxHeartbeats 4000000 in
set_option maxRecDepth 100000 in
/-- X5_changeCell -/
theorem mX5_changeCell (l : Launch) (D : va_G) (cI cC cS : ClassId) (sz : Nat) (h : Nat) (t1 : Nat) (t2 : Nat) (t3 : Nat) (a1 : Nat) (a2 : Nat) (a3 : Nat) (RA : Nat → Int32) (RI : Nat → Int32) (RC : Nat → Int32) (na : Int32) (ni : Int32) (dy : Int32) (vl : Int32) (db : Int32) (area : Int32) (group : Int32) (column : Int32) (number : Int32)  : Met l yX5_changeCell wsX5_changeCell ({ frames := 1, cells := 0, slots := 0, locals := 24 } : Jvm.Room) (va_Pc [.ref h, .int area, .int group, .int column, .int number] (wPre D (TY cI cC cS) [(h, .inr (4, [.ref t1, .ref t2, .ref t3, .int na, .int ni, .int dy, .int vl, .int db])), (t1, .inr (5, [.ref a1, .int 10])), (t2, .inr (5, [.ref a2, .int 6])), (t3, .inr (5, [.ref a3, .int 3])), (a1, .inl (cI, 240, .inl RA)), (a2, .inl (cI, 30, .inl RI)), (a3, .inl (cI, 36, .inl RC))] sz wN)) (qI D (TY cI cC cS) (fun (r : Int32) (u : Int32 × (Nat → Int32)) => fX5_changeCell RC area group column number = u ∧ r = u.1) (fun u => [(h, .inr (4, [.ref t1, .ref t2, .ref t3, .int na, .int ni, .int dy, .int vl, .int db])), (t1, .inr (5, [.ref a1, .int 10])), (t2, .inr (5, [.ref a2, .int 6])), (t3, .inr (5, [.ref a3, .int 3])), (a1, .inl (cI, 240, .inl RA)), (a2, .inl (cI, 30, .inl RI)), (a3, .inl (cI, 36, .inl u.2))]) (va_A [(h, .inr (4, [.ref t1, .ref t2, .ref t3, .int na, .int ni, .int dy, .int vl, .int db])), (t1, .inr (5, [.ref a1, .int 10])), (t2, .inr (5, [.ref a2, .int 6])), (t3, .inr (5, [.ref a3, .int 3])), (a1, .inl (cI, 240, .inl RA)), (a2, .inl (cI, 30, .inl RI)), (a3, .inl (cI, 36, .inl RC))] sz)) 0 0 (va_A [(h, .inr (4, [.ref t1, .ref t2, .ref t3, .int na, .int ni, .int dy, .int vl, .int db])), (t1, .inr (5, [.ref a1, .int 10])), (t2, .inr (5, [.ref a2, .int 6])), (t3, .inr (5, [.ref a3, .int 3])), (a1, .inl (cI, 240, .inl RA)), (a2, .inl (cI, 30, .inl RI)), (a3, .inl (cI, 36, .inl RC))] sz) := by
  refine mkM (fun Fr => qI D (TY cI cC cS) (fun (r : Int32) (u : Int32 × (Nat → Int32)) => fX5_changeCell RC area group column number = u ∧ r = u.1) (fun u => [(h, .inr (4, [.ref t1, .ref t2, .ref t3, .int na, .int ni, .int dy, .int vl, .int db])), (t1, .inr (5, [.ref a1, .int 10])), (t2, .inr (5, [.ref a2, .int 6])), (t3, .inr (5, [.ref a3, .int 3])), (a1, .inl (cI, 240, .inl RA)), (a2, .inl (cI, 30, .inl RI)), (a3, .inl (cI, 36, .inl u.2))]) Fr) (cc := cX5_changeCell) (maxL := 7) (ret := (some .int)) (own := RX5) (lv := [(0, .ref h), (1, .int area), (2, .int group), (3, .int column), (4, .int number)]) (by decide) rfl rfl (Nat.le_of_ble_eq_true rfl) rfl ?_
  intro p e s m below meth c Fr ls hx hb hr hts hown hml hlk hin hP hK hD hS hA hAe hsz hX hl
  have w_1 := hts (.fieldLink RX5 23 "FieldQuotas$Survey" "cellRows" "LFieldQuotas$Table;") (List.mem_of_getElem? (i := 1) rfl)
  have w_2 := sub_r (big := wsX5_changeCell) (u_ws RX5 TX5 8) [13, 14, 15, 16, 17, 18, 19, 20] rfl
  refine lv_iload_n hx hb dX5_changeCell_0 rfl (lv_at hl 1 rfl) ?_
  refine lv_iconst (v := 3) hx hb dX5_changeCell_1 (by decide) ?_
  refine lv_imul hx hb dX5_changeCell_2 ?_
  refine lv_iload_n hx hb dX5_changeCell_3 rfl (lv_at hl 2 rfl) ?_
  refine lv_iadd hx hb dX5_changeCell_4 ?_
  refine lv_topi (fun y_1 ey_1 => ?_)
  refine lv_istore (lv' := [(5, .int y_1), (0, .ref h), (1, .int area), (2, .int group), (3, .int column), (4, .int number)]) hx hb dX5_changeCell_5 hl (by decide) rfl (fun ls hl => ?_)
  refine lv_aload_n hx hb dX5_changeCell_7 rfl (lv_at hl 1 rfl) ?_
  refine va_get (D := D) (ci := 4) (C := RX5) (T := TX5) (N := 8) hx hb hts w_2 hown hK hP 0 rfl rfl 2 (by decide) w_1 (fun _ h9 => h9) rfl dX5_changeCell_8 ?_
  refine lv_iload hx hb dX5_changeCell_11 (lv_at hl 0 rfl) ?_
  refine lv_iload_n hx hb dX5_changeCell_13 rfl (lv_at hl 4 rfl) ?_
  refine callVi (As := [.int y_1, .int column]) (rest := []) (mX6_get l D cI cC cS _ t3 a3 36 RC 3 y_1 column (by decide)) ⟨hx, hb, hml, hown, hts⟩ (cwV 2 hts gX5_changeCell_X6_get rfl rfl rfl (by decide +kernel) ⟨Nat.le_of_ble_eq_true rfl, Nat.le_of_ble_eq_true rfl⟩) X0_blind (fun _ _ _ => trivial) hP hK hD hS hA hl [3, 6] rfl rfl 0 5 rfl rfl rfl rfl rfl (Nat.le_of_ble_eq_true rfl) dX5_changeCell_14 ⟨Nat.zero_le _, Nat.zero_le _⟩ (fun _ => rfl) (fun u_ H locs hk3 hP hD hS => ?_)
  obtain ⟨r_3, e_r_3⟩ : ∃ z, z = u_ := ⟨_, rfl⟩
  subst e_r_3
  have hP : va_P D vwCl [(h, .inr (4, [.ref t1, .ref t2, .ref t3, .int na, .int ni, .int dy, .int vl, .int db])), (t1, .inr (5, [.ref a1, .int 10])), (t2, .inr (5, [.ref a2, .int 6])), (t3, .inr (5, [.ref a3, .int 3])), (a1, .inl (cI, 240, .inl RA)), (a2, .inl (cI, 30, .inl RI)), (a3, .inl (cI, 36, .inl RC))] H := hP
  have hD : va_D Fr [(h, .inr (4, [.ref t1, .ref t2, .ref t3, .int na, .int ni, .int dy, .int vl, .int db])), (t1, .inr (5, [.ref a1, .int 10])), (t2, .inr (5, [.ref a2, .int 6])), (t3, .inr (5, [.ref a3, .int 3])), (a1, .inl (cI, 240, .inl RA)), (a2, .inl (cI, 30, .inl RI)), (a3, .inl (cI, 36, .inl RC))] := hD
  refine W.eq (g2 := F0 m 17 ls [.int r_3]) rfl ?_
  refine lv_istore (lv' := [(6, .int r_3), (5, .int y_1), (0, .ref h), (1, .int area), (2, .int group), (3, .int column), (4, .int number)]) hx hb dX5_changeCell_17 hl (by decide) rfl (fun ls hl => ?_)
  refine lv_aload_n hx hb dX5_changeCell_19 rfl (lv_at hl 2 rfl) ?_
  refine va_get (D := D) (ci := 4) (C := RX5) (T := TX5) (N := 8) hx hb hts w_2 hown hK hP 0 rfl rfl 2 (by decide) w_1 (fun _ h9 => h9) rfl dX5_changeCell_20 ?_
  refine lv_iload hx hb dX5_changeCell_23 (lv_at hl 1 rfl) ?_
  refine lv_iload_n hx hb dX5_changeCell_25 rfl (lv_at hl 5 rfl) ?_
  refine lv_iload hx hb dX5_changeCell_26 (lv_at hl 6 rfl) ?_
  refine callVv (As := [.int y_1, .int column, .int number]) (rest := []) (mX6_put l D cI cC cS _ t3 a3 36 RC 3 y_1 column number (by decide)) ⟨hx, hb, hml, hown, hts⟩ (cwV 3 hts gX5_changeCell_X6_put rfl rfl rfl (by decide +kernel) ⟨Nat.le_of_ble_eq_true rfl, Nat.le_of_ble_eq_true rfl⟩) X0_blind (fun _ _ _ => trivial) hP hK hD hS hA hl [3, 6] rfl rfl 0 5 rfl rfl rfl rfl rfl (Nat.le_of_ble_eq_true rfl) dX5_changeCell_28 ⟨Nat.zero_le _, Nat.zero_le _⟩ (fun _ => rfl) (fun u_ H locs hk6 hP hD hS => ?_)
  obtain ⟨u_6, e_u_6⟩ : ∃ z, z = u_ := ⟨_, rfl⟩
  subst e_u_6
  have hP : va_P D vwCl [(h, .inr (4, [.ref t1, .ref t2, .ref t3, .int na, .int ni, .int dy, .int vl, .int db])), (t1, .inr (5, [.ref a1, .int 10])), (t2, .inr (5, [.ref a2, .int 6])), (t3, .inr (5, [.ref a3, .int 3])), (a1, .inl (cI, 240, .inl RA)), (a2, .inl (cI, 30, .inl RI)), (a3, .inl (cI, 36, .inl u_6))] H := hP
  have hD : va_D Fr [(h, .inr (4, [.ref t1, .ref t2, .ref t3, .int na, .int ni, .int dy, .int vl, .int db])), (t1, .inr (5, [.ref a1, .int 10])), (t2, .inr (5, [.ref a2, .int 6])), (t3, .inr (5, [.ref a3, .int 3])), (a1, .inl (cI, 240, .inl RA)), (a2, .inl (cI, 30, .inl RI)), (a3, .inl (cI, 36, .inl u_6))] := hD
  refine W.eq (g2 := F0 m 31 ls []) rfl ?_
  refine lv_iload hx hb dX5_changeCell_31 (lv_at hl 0 rfl) ?_
  exact endI hx hb hr hlk hP hK hD hS dX5_changeCell_33 (r_3, u_6) rfl ⟨(bd1_n ey_1).trans ((bd1_e hk3).trans ((bd1_e hk6).trans rfl)), rfl⟩

/-- the value of X5_changeQuota, path by path -/
def fX5_changeQuota (RC : Nat → Int32) (area : Int32) (group : Int32) (many : Int32) : Int32 × (Nat → Int32) :=
  bd1 (fX8_isCell area group) (fun (r_2 : Bool) => (if r_2 = true then bd1 (fX8_isWithin many 0 20) (fun (r_4 : Bool) => (if r_4 = true then bd2 (fX5_changeCell RC area group 0 many) (fun (r_6 : Int32) (u_7 : Nat → Int32) => (r_6, u_7)) else ((-1), RC))) else ((-1), RC)))

set_option maxHeartbeats 4000000 in
set_option maxRecDepth 100000 in
/-- X5_changeQuota -/
theorem mX5_changeQuota (l : Launch) (D : va_G) (cI cC cS : ClassId) (sz : Nat) (h : Nat) (t1 : Nat) (t2 : Nat) (t3 : Nat) (a1 : Nat) (a2 : Nat) (a3 : Nat) (RA : Nat → Int32) (RI : Nat → Int32) (RC : Nat → Int32) (na : Int32) (ni : Int32) (dy : Int32) (vl : Int32) (db : Int32) (area : Int32) (group : Int32) (many : Int32)  : Met l yX5_changeQuota wsX5_changeQuota ({ frames := 2, cells := 0, slots := 0, locals := 50 } : Jvm.Room) (va_Pc [.ref h, .int area, .int group, .int many] (wPre D (TY cI cC cS) [(h, .inr (4, [.ref t1, .ref t2, .ref t3, .int na, .int ni, .int dy, .int vl, .int db])), (t1, .inr (5, [.ref a1, .int 10])), (t2, .inr (5, [.ref a2, .int 6])), (t3, .inr (5, [.ref a3, .int 3])), (a1, .inl (cI, 240, .inl RA)), (a2, .inl (cI, 30, .inl RI)), (a3, .inl (cI, 36, .inl RC))] sz wN)) (qI D (TY cI cC cS) (fun (r : Int32) (u : Int32 × (Nat → Int32)) => fX5_changeQuota RC area group many = u ∧ r = u.1) (fun u => [(h, .inr (4, [.ref t1, .ref t2, .ref t3, .int na, .int ni, .int dy, .int vl, .int db])), (t1, .inr (5, [.ref a1, .int 10])), (t2, .inr (5, [.ref a2, .int 6])), (t3, .inr (5, [.ref a3, .int 3])), (a1, .inl (cI, 240, .inl RA)), (a2, .inl (cI, 30, .inl RI)), (a3, .inl (cI, 36, .inl u.2))]) (va_A [(h, .inr (4, [.ref t1, .ref t2, .ref t3, .int na, .int ni, .int dy, .int vl, .int db])), (t1, .inr (5, [.ref a1, .int 10])), (t2, .inr (5, [.ref a2, .int 6])), (t3, .inr (5, [.ref a3, .int 3])), (a1, .inl (cI, 240, .inl RA)), (a2, .inl (cI, 30, .inl RI)), (a3, .inl (cI, 36, .inl RC))] sz)) 0 0 (va_A [(h, .inr (4, [.ref t1, .ref t2, .ref t3, .int na, .int ni, .int dy, .int vl, .int db])), (t1, .inr (5, [.ref a1, .int 10])), (t2, .inr (5, [.ref a2, .int 6])), (t3, .inr (5, [.ref a3, .int 3])), (a1, .inl (cI, 240, .inl RA)), (a2, .inl (cI, 30, .inl RI)), (a3, .inl (cI, 36, .inl RC))] sz) := by
  refine mkM (fun Fr => qI D (TY cI cC cS) (fun (r : Int32) (u : Int32 × (Nat → Int32)) => fX5_changeQuota RC area group many = u ∧ r = u.1) (fun u => [(h, .inr (4, [.ref t1, .ref t2, .ref t3, .int na, .int ni, .int dy, .int vl, .int db])), (t1, .inr (5, [.ref a1, .int 10])), (t2, .inr (5, [.ref a2, .int 6])), (t3, .inr (5, [.ref a3, .int 3])), (a1, .inl (cI, 240, .inl RA)), (a2, .inl (cI, 30, .inl RI)), (a3, .inl (cI, 36, .inl u.2))]) Fr) (cc := cX5_changeQuota) (maxL := 4) (ret := (some .int)) (own := RX5) (lv := [(0, .ref h), (1, .int area), (2, .int group), (3, .int many)]) (by decide) rfl rfl (Nat.le_of_ble_eq_true rfl) rfl ?_
  intro p e s m below meth c Fr ls hx hb hr hts hown hml hlk hin hP hK hD hS hA hAe hsz hX hl
  refine lv_iload_n hx hb dX5_changeQuota_0 rfl (lv_at hl 1 rfl) ?_
  refine lv_iload_n hx hb dX5_changeQuota_1 rfl (lv_at hl 2 rfl) ?_
  refine callNi (As := [.int area, .int group]) (rest := []) (mX8_isCell l D cI cC cS _ area group) ⟨hx, hb, hml, hown, hts⟩ (⟨va_cnB 2 hts gX5_changeQuota_X8_isCell_n66 rfl rfl rfl hX.2.2.1 (hts (.initialized RX8) (List.mem_of_getElem? (i := 2) rfl)) (by decide +kernel) ⟨Nat.le_of_ble_eq_true rfl, Nat.le_of_ble_eq_true rfl⟩, hts (.static yX8_isCell) (List.mem_of_getElem? (i := 1) rfl), trivial⟩) hP hK hD hS hA hl rfl rfl (Nat.le_of_ble_eq_true rfl) dX5_changeQuota_2 ⟨Nat.zero_le _, Nat.zero_le _⟩ (fun u_ H locs hk2 hP hS => ?_)
  obtain ⟨r_2, e_r_2⟩ : ∃ z, z = u_ := ⟨_, rfl⟩
  subst e_r_2
  refine W.eq (g2 := F0 m 5 ls [.int (bi r_2)]) rfl ?_
  refine lv_if_eq (tgt := 18) hx hb dX5_changeQuota_5 (by decide) (fun c5 => ?_) (fun c5 => ?_)
  · refine lv_iconst (v := (-1)) hx hb dX5_changeQuota_18 (by decide) ?_
    exact endI hx hb hr hlk hP hK hD hS dX5_changeQuota_19 ((-1), RC) rfl ⟨(bd1_e hk2).trans ((if_neg (bi_z c5)).trans rfl), rfl⟩
  · refine lv_iload_n hx hb dX5_changeQuota_8 rfl (lv_at hl 3 rfl) ?_
    refine lv_iconst (v := 0) hx hb dX5_changeQuota_9 (by decide) ?_
    refine lv_bipush (v := 20) hx hb dX5_changeQuota_10 (by decide) ?_
    refine callNi (As := [.int many, .int 0, .int 20]) (rest := []) (mX8_isWithin l D cI cC cS _ many 0 20) ⟨hx, hb, hml, hown, hts⟩ (⟨va_cnB 3 hts gX5_changeQuota_X8_isWithin_n50 rfl rfl rfl hX.2.1 (hts (.initialized RX8) (List.mem_of_getElem? (i := 2) rfl)) (by decide +kernel) ⟨Nat.le_of_ble_eq_true rfl, Nat.le_of_ble_eq_true rfl⟩, hts (.static yX8_isWithin) (List.mem_of_getElem? (i := 5) rfl), trivial⟩) hP hK hD hS hA hl rfl rfl (Nat.le_of_ble_eq_true rfl) dX5_changeQuota_12 ⟨Nat.zero_le _, Nat.zero_le _⟩ (fun u_ H locs hk4 hP hS => ?_)
    obtain ⟨r_4, e_r_4⟩ : ∃ z, z = u_ := ⟨_, rfl⟩
    subst e_r_4
    refine W.eq (g2 := F0 m 15 ls [.int (bi r_4)]) rfl ?_
    refine lv_if_ne (tgt := 20) hx hb dX5_changeQuota_15 (by decide) (fun c15 => ?_) (fun c15 => ?_)
    · refine lv_aload_n hx hb dX5_changeQuota_20 rfl (lv_at hl 0 rfl) ?_
      refine lv_iload_n hx hb dX5_changeQuota_21 rfl (lv_at hl 1 rfl) ?_
      refine lv_iload_n hx hb dX5_changeQuota_22 rfl (lv_at hl 2 rfl) ?_
      refine lv_iconst (v := 0) hx hb dX5_changeQuota_23 (by decide) ?_
      refine lv_iload_n hx hb dX5_changeQuota_24 rfl (lv_at hl 3 rfl) ?_
      refine callVi (As := [.int area, .int group, .int 0, .int many]) (rest := []) (mX5_changeCell l D cI cC cS _ h t1 t2 t3 a1 a2 a3 RA RI RC na ni dy vl db area group 0 many) ⟨hx, hb, hml, hown, hts⟩ (cwV 4 hts gX5_changeQuota_X5_changeCell rfl rfl rfl (by decide +kernel) ⟨Nat.le_of_ble_eq_true rfl, Nat.le_of_ble_eq_true rfl⟩) wN_blind (fun _ _ hW => wN_warm hW hX) hP hK hD hS hA hl [0, 1, 2, 3, 4, 5, 6] rfl rfl 0 4 rfl rfl rfl rfl rfl (Nat.le_of_ble_eq_true rfl) dX5_changeQuota_25 ⟨Nat.zero_le _, Nat.zero_le _⟩ (fun _ => rfl) (fun u_ H locs hk7 hP hD hS => ?_)
      obtain ⟨r_6, u_7⟩ := u_
      have hP : va_P D vwCl [(h, .inr (4, [.ref t1, .ref t2, .ref t3, .int na, .int ni, .int dy, .int vl, .int db])), (t1, .inr (5, [.ref a1, .int 10])), (t2, .inr (5, [.ref a2, .int 6])), (t3, .inr (5, [.ref a3, .int 3])), (a1, .inl (cI, 240, .inl RA)), (a2, .inl (cI, 30, .inl RI)), (a3, .inl (cI, 36, .inl u_7))] H := hP
      have hD : va_D Fr [(h, .inr (4, [.ref t1, .ref t2, .ref t3, .int na, .int ni, .int dy, .int vl, .int db])), (t1, .inr (5, [.ref a1, .int 10])), (t2, .inr (5, [.ref a2, .int 6])), (t3, .inr (5, [.ref a3, .int 3])), (a1, .inl (cI, 240, .inl RA)), (a2, .inl (cI, 30, .inl RI)), (a3, .inl (cI, 36, .inl u_7))] := hD
      refine W.eq (g2 := F0 m 28 ls [.int r_6]) rfl ?_
      exact endI hx hb hr hlk hP hK hD hS dX5_changeQuota_28 (r_6, u_7) rfl ⟨(bd1_e hk2).trans ((if_pos (bi_o c5)).trans ((bd1_e hk4).trans ((if_pos (bi_o c15)).trans ((bd2_e hk7).trans rfl)))), rfl⟩
    · refine lv_iconst (v := (-1)) hx hb dX5_changeQuota_18 (by decide) ?_
      exact endI hx hb hr hlk hP hK hD hS dX5_changeQuota_19 ((-1), RC) rfl ⟨(bd1_e hk2).trans ((if_pos (bi_o c5)).trans ((bd1_e hk4).trans ((if_neg (bi_z c15)).trans rfl))), rfl⟩

/-- the value of X5_changePopulation, path by path -/
def fX5_changePopulation (RC : Nat → Int32) (area : Int32) (group : Int32) (people : Int32) : Int32 × (Nat → Int32) :=
  bd1 (fX8_isCell area group) (fun (r_2 : Bool) => (if r_2 = true then bd1 (fX8_isWithin people 0 9999) (fun (r_4 : Bool) => (if r_4 = true then bd2 (fX5_changeCell RC area group 2 people) (fun (r_6 : Int32) (u_7 : Nat → Int32) => (r_6, u_7)) else ((-1), RC))) else ((-1), RC)))

set_option maxHeartbeats 4000000 in
set_option maxRecDepth 100000 in
/-- X5_changePopulation -/
theorem mX5_changePopulation (l : Launch) (D : va_G) (cI cC cS : ClassId) (sz : Nat) (h : Nat) (t1 : Nat) (t2 : Nat) (t3 : Nat) (a1 : Nat) (a2 : Nat) (a3 : Nat) (RA : Nat → Int32) (RI : Nat → Int32) (RC : Nat → Int32) (na : Int32) (ni : Int32) (dy : Int32) (vl : Int32) (db : Int32) (area : Int32) (group : Int32) (people : Int32)  : Met l yX5_changePopulation wsX5_changePopulation ({ frames := 2, cells := 0, slots := 0, locals := 50 } : Jvm.Room) (va_Pc [.ref h, .int area, .int group, .int people] (wPre D (TY cI cC cS) [(h, .inr (4, [.ref t1, .ref t2, .ref t3, .int na, .int ni, .int dy, .int vl, .int db])), (t1, .inr (5, [.ref a1, .int 10])), (t2, .inr (5, [.ref a2, .int 6])), (t3, .inr (5, [.ref a3, .int 3])), (a1, .inl (cI, 240, .inl RA)), (a2, .inl (cI, 30, .inl RI)), (a3, .inl (cI, 36, .inl RC))] sz wN)) (qI D (TY cI cC cS) (fun (r : Int32) (u : Int32 × (Nat → Int32)) => fX5_changePopulation RC area group people = u ∧ r = u.1) (fun u => [(h, .inr (4, [.ref t1, .ref t2, .ref t3, .int na, .int ni, .int dy, .int vl, .int db])), (t1, .inr (5, [.ref a1, .int 10])), (t2, .inr (5, [.ref a2, .int 6])), (t3, .inr (5, [.ref a3, .int 3])), (a1, .inl (cI, 240, .inl RA)), (a2, .inl (cI, 30, .inl RI)), (a3, .inl (cI, 36, .inl u.2))]) (va_A [(h, .inr (4, [.ref t1, .ref t2, .ref t3, .int na, .int ni, .int dy, .int vl, .int db])), (t1, .inr (5, [.ref a1, .int 10])), (t2, .inr (5, [.ref a2, .int 6])), (t3, .inr (5, [.ref a3, .int 3])), (a1, .inl (cI, 240, .inl RA)), (a2, .inl (cI, 30, .inl RI)), (a3, .inl (cI, 36, .inl RC))] sz)) 0 0 (va_A [(h, .inr (4, [.ref t1, .ref t2, .ref t3, .int na, .int ni, .int dy, .int vl, .int db])), (t1, .inr (5, [.ref a1, .int 10])), (t2, .inr (5, [.ref a2, .int 6])), (t3, .inr (5, [.ref a3, .int 3])), (a1, .inl (cI, 240, .inl RA)), (a2, .inl (cI, 30, .inl RI)), (a3, .inl (cI, 36, .inl RC))] sz) := by
  refine mkM (fun Fr => qI D (TY cI cC cS) (fun (r : Int32) (u : Int32 × (Nat → Int32)) => fX5_changePopulation RC area group people = u ∧ r = u.1) (fun u => [(h, .inr (4, [.ref t1, .ref t2, .ref t3, .int na, .int ni, .int dy, .int vl, .int db])), (t1, .inr (5, [.ref a1, .int 10])), (t2, .inr (5, [.ref a2, .int 6])), (t3, .inr (5, [.ref a3, .int 3])), (a1, .inl (cI, 240, .inl RA)), (a2, .inl (cI, 30, .inl RI)), (a3, .inl (cI, 36, .inl u.2))]) Fr) (cc := cX5_changePopulation) (maxL := 4) (ret := (some .int)) (own := RX5) (lv := [(0, .ref h), (1, .int area), (2, .int group), (3, .int people)]) (by decide) rfl rfl (Nat.le_of_ble_eq_true rfl) rfl ?_
  intro p e s m below meth c Fr ls hx hb hr hts hown hml hlk hin hP hK hD hS hA hAe hsz hX hl
  refine lv_iload_n hx hb dX5_changePopulation_0 rfl (lv_at hl 1 rfl) ?_
  refine lv_iload_n hx hb dX5_changePopulation_1 rfl (lv_at hl 2 rfl) ?_
  refine callNi (As := [.int area, .int group]) (rest := []) (mX8_isCell l D cI cC cS _ area group) ⟨hx, hb, hml, hown, hts⟩ (⟨va_cnB 2 hts gX5_changePopulation_X8_isCell_n66 rfl rfl rfl hX.2.2.1 (hts (.initialized RX8) (List.mem_of_getElem? (i := 2) rfl)) (by decide +kernel) ⟨Nat.le_of_ble_eq_true rfl, Nat.le_of_ble_eq_true rfl⟩, hts (.static yX8_isCell) (List.mem_of_getElem? (i := 1) rfl), trivial⟩) hP hK hD hS hA hl rfl rfl (Nat.le_of_ble_eq_true rfl) dX5_changePopulation_2 ⟨Nat.zero_le _, Nat.zero_le _⟩ (fun u_ H locs hk2 hP hS => ?_)
  obtain ⟨r_2, e_r_2⟩ : ∃ z, z = u_ := ⟨_, rfl⟩
  subst e_r_2
  refine W.eq (g2 := F0 m 5 ls [.int (bi r_2)]) rfl ?_
  refine lv_if_eq (tgt := 19) hx hb dX5_changePopulation_5 (by decide) (fun c5 => ?_) (fun c5 => ?_)
  · refine lv_iconst (v := (-1)) hx hb dX5_changePopulation_19 (by decide) ?_
    exact endI hx hb hr hlk hP hK hD hS dX5_changePopulation_20 ((-1), RC) rfl ⟨(bd1_e hk2).trans ((if_neg (bi_z c5)).trans rfl), rfl⟩
  · refine lv_iload_n hx hb dX5_changePopulation_8 rfl (lv_at hl 3 rfl) ?_
    refine lv_iconst (v := 0) hx hb dX5_changePopulation_9 (by decide) ?_
    refine lv_sipush (v := 9999) hx hb dX5_changePopulation_10 (by decide) ?_
    refine callNi (As := [.int people, .int 0, .int 9999]) (rest := []) (mX8_isWithin l D cI cC cS _ people 0 9999) ⟨hx, hb, hml, hown, hts⟩ (⟨va_cnB 3 hts gX5_changePopulation_X8_isWithin_n50 rfl rfl rfl hX.2.1 (hts (.initialized RX8) (List.mem_of_getElem? (i := 2) rfl)) (by decide +kernel) ⟨Nat.le_of_ble_eq_true rfl, Nat.le_of_ble_eq_true rfl⟩, hts (.static yX8_isWithin) (List.mem_of_getElem? (i := 5) rfl), trivial⟩) hP hK hD hS hA hl rfl rfl (Nat.le_of_ble_eq_true rfl) dX5_changePopulation_13 ⟨Nat.zero_le _, Nat.zero_le _⟩ (fun u_ H locs hk4 hP hS => ?_)
    obtain ⟨r_4, e_r_4⟩ : ∃ z, z = u_ := ⟨_, rfl⟩
    subst e_r_4
    refine W.eq (g2 := F0 m 16 ls [.int (bi r_4)]) rfl ?_
    refine lv_if_ne (tgt := 21) hx hb dX5_changePopulation_16 (by decide) (fun c16 => ?_) (fun c16 => ?_)
    · refine lv_aload_n hx hb dX5_changePopulation_21 rfl (lv_at hl 0 rfl) ?_
      refine lv_iload_n hx hb dX5_changePopulation_22 rfl (lv_at hl 1 rfl) ?_
      refine lv_iload_n hx hb dX5_changePopulation_23 rfl (lv_at hl 2 rfl) ?_
      refine lv_iconst (v := 2) hx hb dX5_changePopulation_24 (by decide) ?_
      refine lv_iload_n hx hb dX5_changePopulation_25 rfl (lv_at hl 3 rfl) ?_
      refine callVi (As := [.int area, .int group, .int 2, .int people]) (rest := []) (mX5_changeCell l D cI cC cS _ h t1 t2 t3 a1 a2 a3 RA RI RC na ni dy vl db area group 2 people) ⟨hx, hb, hml, hown, hts⟩ (cwV 4 hts gX5_changePopulation_X5_changeCell rfl rfl rfl (by decide +kernel) ⟨Nat.le_of_ble_eq_true rfl, Nat.le_of_ble_eq_true rfl⟩) wN_blind (fun _ _ hW => wN_warm hW hX) hP hK hD hS hA hl [0, 1, 2, 3, 4, 5, 6] rfl rfl 0 4 rfl rfl rfl rfl rfl (Nat.le_of_ble_eq_true rfl) dX5_changePopulation_26 ⟨Nat.zero_le _, Nat.zero_le _⟩ (fun _ => rfl) (fun u_ H locs hk7 hP hD hS => ?_)
      obtain ⟨r_6, u_7⟩ := u_
      have hP : va_P D vwCl [(h, .inr (4, [.ref t1, .ref t2, .ref t3, .int na, .int ni, .int dy, .int vl, .int db])), (t1, .inr (5, [.ref a1, .int 10])), (t2, .inr (5, [.ref a2, .int 6])), (t3, .inr (5, [.ref a3, .int 3])), (a1, .inl (cI, 240, .inl RA)), (a2, .inl (cI, 30, .inl RI)), (a3, .inl (cI, 36, .inl u_7))] H := hP
      have hD : va_D Fr [(h, .inr (4, [.ref t1, .ref t2, .ref t3, .int na, .int ni, .int dy, .int vl, .int db])), (t1, .inr (5, [.ref a1, .int 10])), (t2, .inr (5, [.ref a2, .int 6])), (t3, .inr (5, [.ref a3, .int 3])), (a1, .inl (cI, 240, .inl RA)), (a2, .inl (cI, 30, .inl RI)), (a3, .inl (cI, 36, .inl u_7))] := hD
      refine W.eq (g2 := F0 m 29 ls [.int r_6]) rfl ?_
      exact endI hx hb hr hlk hP hK hD hS dX5_changePopulation_29 (r_6, u_7) rfl ⟨(bd1_e hk2).trans ((if_pos (bi_o c5)).trans ((bd1_e hk4).trans ((if_pos (bi_o c16)).trans ((bd2_e hk7).trans rfl)))), rfl⟩
    · refine lv_iconst (v := (-1)) hx hb dX5_changePopulation_19 (by decide) ?_
      exact endI hx hb hr hlk hP hK hD hS dX5_changePopulation_20 ((-1), RC) rfl ⟨(bd1_e hk2).trans ((if_pos (bi_o c5)).trans ((bd1_e hk4).trans ((if_neg (bi_z c16)).trans rfl))), rfl⟩

/-- the value of X5_changeSetting, path by path -/
def fX5_changeSetting (vl : Int32) (db : Int32) (what : Int32) (value : Int32) : Int32 × Int32 × Int32 :=
  (if what = 0 then bd1 (fX8_isWithin value 1 9) (fun (r_4 : Bool) => (if r_4 = true then (vl, value, db) else (if what = 1 then bd1 (fX8_isWithin value 0 9) (fun (r_6 : Bool) => (if r_6 = true then (db, vl, value) else ((-1), vl, db))) else ((-1), vl, db)))) else (if what = 1 then bd1 (fX8_isWithin value 0 9) (fun (r_2 : Bool) => (if r_2 = true then (db, vl, value) else ((-1), vl, db))) else ((-1), vl, db)))

set_option maxHeartbeats 4000000 in
set_option maxRecDepth 100000 in
/-- X5_changeSetting -/
theorem mX5_changeSetting (l : Launch) (D : va_G) (cI cC cS : ClassId) (sz : Nat) (h : Nat) (t1 : Nat) (t2 : Nat) (t3 : Nat) (a1 : Nat) (a2 : Nat) (a3 : Nat) (RA : Nat → Int32) (RI : Nat → Int32) (RC : Nat → Int32) (na : Int32) (ni : Int32) (dy : Int32) (vl : Int32) (db : Int32) (what : Int32) (value : Int32)  : Met l yX5_changeSetting wsX5_changeSetting ({ frames := 1, cells := 0, slots := 0, locals := 22 } : Jvm.Room) (va_Pc [.ref h, .int what, .int value] (wPre D (TY cI cC cS) [(h, .inr (4, [.ref t1, .ref t2, .ref t3, .int na, .int ni, .int dy, .int vl, .int db])), (t1, .inr (5, [.ref a1, .int 10])), (t2, .inr (5, [.ref a2, .int 6])), (t3, .inr (5, [.ref a3, .int 3])), (a1, .inl (cI, 240, .inl RA)), (a2, .inl (cI, 30, .inl RI)), (a3, .inl (cI, 36, .inl RC))] sz wN)) (qI D (TY cI cC cS) (fun (r : Int32) (u : Int32 × Int32 × Int32) => fX5_changeSetting vl db what value = u ∧ r = u.1) (fun u => [(h, .inr (4, [.ref t1, .ref t2, .ref t3, .int na, .int ni, .int dy, .int u.2.1, .int u.2.2])), (t1, .inr (5, [.ref a1, .int 10])), (t2, .inr (5, [.ref a2, .int 6])), (t3, .inr (5, [.ref a3, .int 3])), (a1, .inl (cI, 240, .inl RA)), (a2, .inl (cI, 30, .inl RI)), (a3, .inl (cI, 36, .inl RC))]) (va_A [(h, .inr (4, [.ref t1, .ref t2, .ref t3, .int na, .int ni, .int dy, .int vl, .int db])), (t1, .inr (5, [.ref a1, .int 10])), (t2, .inr (5, [.ref a2, .int 6])), (t3, .inr (5, [.ref a3, .int 3])), (a1, .inl (cI, 240, .inl RA)), (a2, .inl (cI, 30, .inl RI)), (a3, .inl (cI, 36, .inl RC))] sz)) 0 0 (va_A [(h, .inr (4, [.ref t1, .ref t2, .ref t3, .int na, .int ni, .int dy, .int vl, .int db])), (t1, .inr (5, [.ref a1, .int 10])), (t2, .inr (5, [.ref a2, .int 6])), (t3, .inr (5, [.ref a3, .int 3])), (a1, .inl (cI, 240, .inl RA)), (a2, .inl (cI, 30, .inl RI)), (a3, .inl (cI, 36, .inl RC))] sz) := by
  refine mkM (fun Fr => qI D (TY cI cC cS) (fun (r : Int32) (u : Int32 × Int32 × Int32) => fX5_changeSetting vl db what value = u ∧ r = u.1) (fun u => [(h, .inr (4, [.ref t1, .ref t2, .ref t3, .int na, .int ni, .int dy, .int u.2.1, .int u.2.2])), (t1, .inr (5, [.ref a1, .int 10])), (t2, .inr (5, [.ref a2, .int 6])), (t3, .inr (5, [.ref a3, .int 3])), (a1, .inl (cI, 240, .inl RA)), (a2, .inl (cI, 30, .inl RI)), (a3, .inl (cI, 36, .inl RC))]) Fr) (cc := cX5_changeSetting) (maxL := 4) (ret := (some .int)) (own := RX5) (lv := [(0, .ref h), (1, .int what), (2, .int value)]) (by decide) rfl rfl (Nat.le_of_ble_eq_true rfl) rfl ?_
  intro p e s m below meth c Fr ls hx hb hr hts hown hml hlk hin hP hK hD hS hA hAe hsz hX hl
  have w_1 := hts (.fieldLink RX5 30 "FieldQuotas$Survey" "daysBetween" "I") (List.mem_of_getElem? (i := 2) rfl)
  have w_2 := sub_r (big := wsX5_changeSetting) (u_ws RX5 TX5 8) [6, 7, 8, 9, 10, 11, 12, 13] rfl
  have w_3 := hts (.fieldLink RX5 26 "FieldQuotas$Survey" "vainLimit" "I") (List.mem_of_getElem? (i := 1) rfl)
  refine lv_iload_n hx hb dX5_changeSetting_0 rfl (lv_at hl 1 rfl) ?_
  refine lv_if_ne (tgt := 26) hx hb dX5_changeSetting_1 (by decide) (fun c1 => ?_) (fun c1 => ?_)
  · refine lv_iload_n hx hb dX5_changeSetting_26 rfl (lv_at hl 1 rfl) ?_
    refine lv_iconst (v := 1) hx hb dX5_changeSetting_27 (by decide) ?_
    refine lv_icmp_ne (tgt := 53) hx hb dX5_changeSetting_28 (by decide) (fun c28 => ?_) (fun c28 => ?_)
    · refine lv_iconst (v := (-1)) hx hb dX5_changeSetting_53 (by decide) ?_
      exact endI hx hb hr hlk hP hK hD hS dX5_changeSetting_54 ((-1), vl, db) rfl ⟨(if_neg c1).trans ((if_neg c28).trans rfl), rfl⟩
    · refine lv_iload_n hx hb dX5_changeSetting_31 rfl (lv_at hl 2 rfl) ?_
      refine lv_iconst (v := 0) hx hb dX5_changeSetting_32 (by decide) ?_
      refine lv_bipush (v := 9) hx hb dX5_changeSetting_33 (by decide) ?_
      refine callNi (As := [.int value, .int 0, .int 9]) (rest := []) (mX8_isWithin l D cI cC cS _ value 0 9) ⟨hx, hb, hml, hown, hts⟩ (⟨va_cnB 3 hts gX5_changeSetting_X8_isWithin_n50 rfl rfl rfl hX.2.1 (hts (.initialized RX8) (List.mem_of_getElem? (i := 4) rfl)) (by decide +kernel) ⟨Nat.le_of_ble_eq_true rfl, Nat.le_of_ble_eq_true rfl⟩, hts (.static yX8_isWithin) (List.mem_of_getElem? (i := 3) rfl), trivial⟩) hP hK hD hS hA hl rfl rfl (Nat.le_of_ble_eq_true rfl) dX5_changeSetting_35 ⟨Nat.zero_le _, Nat.zero_le _⟩ (fun u_ H locs hk2 hP hS => ?_)
      obtain ⟨r_2, e_r_2⟩ : ∃ z, z = u_ := ⟨_, rfl⟩
      subst e_r_2
      refine W.eq (g2 := F0 m 38 ls [.int (bi r_2)]) rfl ?_
      refine lv_if_eq (tgt := 53) hx hb dX5_changeSetting_38 (by decide) (fun c38 => ?_) (fun c38 => ?_)
      · refine lv_iconst (v := (-1)) hx hb dX5_changeSetting_53 (by decide) ?_
        exact endI hx hb hr hlk hP hK hD hS dX5_changeSetting_54 ((-1), vl, db) rfl ⟨(if_neg c1).trans ((if_pos c28).trans ((bd1_e hk2).trans ((if_neg (bi_z c38)).trans rfl))), rfl⟩
      · refine lv_aload_n hx hb dX5_changeSetting_41 rfl (lv_at hl 0 rfl) ?_
        refine va_get (D := D) (ci := 4) (C := RX5) (T := TX5) (N := 8) hx hb hts w_2 hown hK hP 0 rfl rfl 7 (by decide) w_1 (fun _ h9 => h9) rfl dX5_changeSetting_42 ?_
        refine lv_istore_n (lv' := [(3, .int db), (0, .ref h), (1, .int what), (2, .int value)]) hx hb dX5_changeSetting_45 rfl hl (by decide) rfl (fun ls hl => ?_)
        refine lv_aload_n hx hb dX5_changeSetting_46 rfl (lv_at hl 1 rfl) ?_
        refine lv_iload_n hx hb dX5_changeSetting_47 rfl (lv_at hl 3 rfl) ?_
        refine va_put (D := D) (ci := 4) (v := .int value) (ty := .int) (C := RX5) (T := TX5) (N := 8) hx hb hts w_2 tyX5 tyX5_ok nmX5 hown hK hP hD hS 0 rfl rfl 7 (by decide) w_1 (fun _ h9 => h9) rfl (by decide +kernel) rfl rfl (Nat.le_of_ble_eq_true rfl) dX5_changeSetting_48 (fun H locs hP hD hS => ?_)
        have hP : va_P D vwCl [(h, .inr (4, [.ref t1, .ref t2, .ref t3, .int na, .int ni, .int dy, .int vl, .int value])), (t1, .inr (5, [.ref a1, .int 10])), (t2, .inr (5, [.ref a2, .int 6])), (t3, .inr (5, [.ref a3, .int 3])), (a1, .inl (cI, 240, .inl RA)), (a2, .inl (cI, 30, .inl RI)), (a3, .inl (cI, 36, .inl RC))] H := hP
        have hD : va_D Fr [(h, .inr (4, [.ref t1, .ref t2, .ref t3, .int na, .int ni, .int dy, .int vl, .int value])), (t1, .inr (5, [.ref a1, .int 10])), (t2, .inr (5, [.ref a2, .int 6])), (t3, .inr (5, [.ref a3, .int 3])), (a1, .inl (cI, 240, .inl RA)), (a2, .inl (cI, 30, .inl RI)), (a3, .inl (cI, 36, .inl RC))] := hD
        refine lv_iload_n hx hb dX5_changeSetting_51 rfl (lv_at hl 0 rfl) ?_
        exact endI hx hb hr hlk hP hK hD hS dX5_changeSetting_52 (db, vl, value) rfl ⟨(if_neg c1).trans ((if_pos c28).trans ((bd1_e hk2).trans ((if_pos (bi_o c38)).trans rfl))), rfl⟩
  · refine lv_iload_n hx hb dX5_changeSetting_4 rfl (lv_at hl 2 rfl) ?_
    refine lv_iconst (v := 1) hx hb dX5_changeSetting_5 (by decide) ?_
    refine lv_bipush (v := 9) hx hb dX5_changeSetting_6 (by decide) ?_
    refine callNi (As := [.int value, .int 1, .int 9]) (rest := []) (mX8_isWithin l D cI cC cS _ value 1 9) ⟨hx, hb, hml, hown, hts⟩ (⟨va_cnB 3 hts gX5_changeSetting_X8_isWithin_n50 rfl rfl rfl hX.2.1 (hts (.initialized RX8) (List.mem_of_getElem? (i := 4) rfl)) (by decide +kernel) ⟨Nat.le_of_ble_eq_true rfl, Nat.le_of_ble_eq_true rfl⟩, hts (.static yX8_isWithin) (List.mem_of_getElem? (i := 3) rfl), trivial⟩) hP hK hD hS hA hl rfl rfl (Nat.le_of_ble_eq_true rfl) dX5_changeSetting_8 ⟨Nat.zero_le _, Nat.zero_le _⟩ (fun u_ H locs hk4 hP hS => ?_)
    obtain ⟨r_4, e_r_4⟩ : ∃ z, z = u_ := ⟨_, rfl⟩
    subst e_r_4
    refine W.eq (g2 := F0 m 11 ls [.int (bi r_4)]) rfl ?_
    refine lv_if_eq (tgt := 26) hx hb dX5_changeSetting_11 (by decide) (fun c11 => ?_) (fun c11 => ?_)
    · refine lv_iload_n hx hb dX5_changeSetting_26 rfl (lv_at hl 1 rfl) ?_
      refine lv_iconst (v := 1) hx hb dX5_changeSetting_27 (by decide) ?_
      refine lv_icmp_ne (tgt := 53) hx hb dX5_changeSetting_28 (by decide) (fun c28 => ?_) (fun c28 => ?_)
      · refine lv_iconst (v := (-1)) hx hb dX5_changeSetting_53 (by decide) ?_
        exact endI hx hb hr hlk hP hK hD hS dX5_changeSetting_54 ((-1), vl, db) rfl ⟨(if_pos c1).trans ((bd1_e hk4).trans ((if_neg (bi_z c11)).trans ((if_neg c28).trans rfl))), rfl⟩
      · refine lv_iload_n hx hb dX5_changeSetting_31 rfl (lv_at hl 2 rfl) ?_
        refine lv_iconst (v := 0) hx hb dX5_changeSetting_32 (by decide) ?_
        refine lv_bipush (v := 9) hx hb dX5_changeSetting_33 (by decide) ?_
        refine callNi (As := [.int value, .int 0, .int 9]) (rest := []) (mX8_isWithin l D cI cC cS _ value 0 9) ⟨hx, hb, hml, hown, hts⟩ (⟨va_cnB 3 hts gX5_changeSetting_X8_isWithin_n50 rfl rfl rfl hX.2.1 (hts (.initialized RX8) (List.mem_of_getElem? (i := 4) rfl)) (by decide +kernel) ⟨Nat.le_of_ble_eq_true rfl, Nat.le_of_ble_eq_true rfl⟩, hts (.static yX8_isWithin) (List.mem_of_getElem? (i := 3) rfl), trivial⟩) hP hK hD hS hA hl rfl rfl (Nat.le_of_ble_eq_true rfl) dX5_changeSetting_35 ⟨Nat.zero_le _, Nat.zero_le _⟩ (fun u_ H locs hk6 hP hS => ?_)
        obtain ⟨r_6, e_r_6⟩ : ∃ z, z = u_ := ⟨_, rfl⟩
        subst e_r_6
        refine W.eq (g2 := F0 m 38 ls [.int (bi r_6)]) rfl ?_
        refine lv_if_eq (tgt := 53) hx hb dX5_changeSetting_38 (by decide) (fun c38 => ?_) (fun c38 => ?_)
        · refine lv_iconst (v := (-1)) hx hb dX5_changeSetting_53 (by decide) ?_
          exact endI hx hb hr hlk hP hK hD hS dX5_changeSetting_54 ((-1), vl, db) rfl ⟨(if_pos c1).trans ((bd1_e hk4).trans ((if_neg (bi_z c11)).trans ((if_pos c28).trans ((bd1_e hk6).trans ((if_neg (bi_z c38)).trans rfl))))), rfl⟩
        · refine lv_aload_n hx hb dX5_changeSetting_41 rfl (lv_at hl 0 rfl) ?_
          refine va_get (D := D) (ci := 4) (C := RX5) (T := TX5) (N := 8) hx hb hts w_2 hown hK hP 0 rfl rfl 7 (by decide) w_1 (fun _ h9 => h9) rfl dX5_changeSetting_42 ?_
          refine lv_istore_n (lv' := [(3, .int db), (0, .ref h), (1, .int what), (2, .int value)]) hx hb dX5_changeSetting_45 rfl hl (by decide) rfl (fun ls hl => ?_)
          refine lv_aload_n hx hb dX5_changeSetting_46 rfl (lv_at hl 1 rfl) ?_
          refine lv_iload_n hx hb dX5_changeSetting_47 rfl (lv_at hl 3 rfl) ?_
          refine va_put (D := D) (ci := 4) (v := .int value) (ty := .int) (C := RX5) (T := TX5) (N := 8) hx hb hts w_2 tyX5 tyX5_ok nmX5 hown hK hP hD hS 0 rfl rfl 7 (by decide) w_1 (fun _ h9 => h9) rfl (by decide +kernel) rfl rfl (Nat.le_of_ble_eq_true rfl) dX5_changeSetting_48 (fun H locs hP hD hS => ?_)
          have hP : va_P D vwCl [(h, .inr (4, [.ref t1, .ref t2, .ref t3, .int na, .int ni, .int dy, .int vl, .int value])), (t1, .inr (5, [.ref a1, .int 10])), (t2, .inr (5, [.ref a2, .int 6])), (t3, .inr (5, [.ref a3, .int 3])), (a1, .inl (cI, 240, .inl RA)), (a2, .inl (cI, 30, .inl RI)), (a3, .inl (cI, 36, .inl RC))] H := hP
          have hD : va_D Fr [(h, .inr (4, [.ref t1, .ref t2, .ref t3, .int na, .int ni, .int dy, .int vl, .int value])), (t1, .inr (5, [.ref a1, .int 10])), (t2, .inr (5, [.ref a2, .int 6])), (t3, .inr (5, [.ref a3, .int 3])), (a1, .inl (cI, 240, .inl RA)), (a2, .inl (cI, 30, .inl RI)), (a3, .inl (cI, 36, .inl RC))] := hD
          refine lv_iload_n hx hb dX5_changeSetting_51 rfl (lv_at hl 0 rfl) ?_
          exact endI hx hb hr hlk hP hK hD hS dX5_changeSetting_52 (db, vl, value) rfl ⟨(if_pos c1).trans ((bd1_e hk4).trans ((if_neg (bi_z c11)).trans ((if_pos c28).trans ((bd1_e hk6).trans ((if_pos (bi_o c38)).trans rfl))))), rfl⟩
    · refine lv_aload_n hx hb dX5_changeSetting_14 rfl (lv_at hl 0 rfl) ?_
      refine va_get (D := D) (ci := 4) (C := RX5) (T := TX5) (N := 8) hx hb hts w_2 hown hK hP 0 rfl rfl 6 (by decide) w_3 (fun _ h9 => h9) rfl dX5_changeSetting_15 ?_
      refine lv_istore_n (lv' := [(3, .int vl), (0, .ref h), (1, .int what), (2, .int value)]) hx hb dX5_changeSetting_18 rfl hl (by decide) rfl (fun ls hl => ?_)
      refine lv_aload_n hx hb dX5_changeSetting_19 rfl (lv_at hl 1 rfl) ?_
      refine lv_iload_n hx hb dX5_changeSetting_20 rfl (lv_at hl 3 rfl) ?_
      refine va_put (D := D) (ci := 4) (v := .int value) (ty := .int) (C := RX5) (T := TX5) (N := 8) hx hb hts w_2 tyX5 tyX5_ok nmX5 hown hK hP hD hS 0 rfl rfl 6 (by decide) w_3 (fun _ h9 => h9) rfl (by decide +kernel) rfl rfl (Nat.le_of_ble_eq_true rfl) dX5_changeSetting_21 (fun H locs hP hD hS => ?_)
      have hP : va_P D vwCl [(h, .inr (4, [.ref t1, .ref t2, .ref t3, .int na, .int ni, .int dy, .int value, .int db])), (t1, .inr (5, [.ref a1, .int 10])), (t2, .inr (5, [.ref a2, .int 6])), (t3, .inr (5, [.ref a3, .int 3])), (a1, .inl (cI, 240, .inl RA)), (a2, .inl (cI, 30, .inl RI)), (a3, .inl (cI, 36, .inl RC))] H := hP
      have hD : va_D Fr [(h, .inr (4, [.ref t1, .ref t2, .ref t3, .int na, .int ni, .int dy, .int value, .int db])), (t1, .inr (5, [.ref a1, .int 10])), (t2, .inr (5, [.ref a2, .int 6])), (t3, .inr (5, [.ref a3, .int 3])), (a1, .inl (cI, 240, .inl RA)), (a2, .inl (cI, 30, .inl RI)), (a3, .inl (cI, 36, .inl RC))] := hD
      refine lv_iload_n hx hb dX5_changeSetting_24 rfl (lv_at hl 0 rfl) ?_
      exact endI hx hb hr hlk hP hK hD hS dX5_changeSetting_25 (vl, value, db) rfl ⟨(if_pos c1).trans ((bd1_e hk4).trans ((if_pos (bi_o c11)).trans rfl)), rfl⟩

/-- the loop of X5_passDays at 39 -/
def fX5_passDays_39 (RI : Nat → Int32) (ni : Int32) (dy : Int32) (days : Int32) : Nat → Int32 → (Nat → Int32) → Int32 × (Nat → Int32) × Int32
  | 0, _, _ => default
  | fu + 1, x2, QI =>
    (if ni ≤ x2 then (dy + days, QI, dy + days) else bd1 (fX6_put 30 QI 6 x2 2 0) (fun (u_5 : Nat → Int32) => fX5_passDays_39 RI ni dy days fu (x2 + 1) u_5))
theorem fX5_passDays_39_s (RI : Nat → Int32) (ni : Int32) (dy : Int32) (days : Int32) (fu : Nat) (x2 : Int32) (QI : Nat → Int32) : fX5_passDays_39 RI ni dy days (fu + 1) x2 QI =
    (if ni ≤ x2 then (dy + days, QI, dy + days) else bd1 (fX6_put 30 QI 6 x2 2 0) (fun (u_5 : Nat → Int32) => fX5_passDays_39 RI ni dy days fu (x2 + 1) u_5)) := rfl

/-- the value of X5_passDays, path by path -/
def fX5_passDays (RI : Nat → Int32) (ni : Int32) (dy : Int32) (days : Int32) : Int32 × (Nat → Int32) × Int32 :=
  bd1 (fX8_isWithin days 1 99) (fun (r_2 : Bool) => (if r_2 = true then (if dy + days ≤ 999 then fX5_passDays_39 RI ni dy days ((ni.toInt - (0 : Int32).toInt).toNat + 1) 0 RI else ((-3), RI, dy)) else ((-1), RI, dy)))

set_option maxHeartbeats 4000000 in
set_option maxRecDepth 100000 in
/-- X5_passDays -/
theorem mX5_passDays (l : Launch) (D : va_G) (cI cC cS : ClassId) (sz : Nat) (h : Nat) (t1 : Nat) (t2 : Nat) (t3 : Nat) (a1 : Nat) (a2 : Nat) (a3 : Nat) (RA : Nat → Int32) (RI : Nat → Int32) (RC : Nat → Int32) (na : Int32) (ni : Int32) (dy : Int32) (vl : Int32) (db : Int32) (days : Int32)  : Met l yX5_passDays wsX5_passDays ({ frames := 1, cells := 0, slots := 0, locals := 24 } : Jvm.Room) (va_Pc [.ref h, .int days] (wPre D (TY cI cC cS) [(h, .inr (4, [.ref t1, .ref t2, .ref t3, .int na, .int ni, .int dy, .int vl, .int db])), (t1, .inr (5, [.ref a1, .int 10])), (t2, .inr (5, [.ref a2, .int 6])), (t3, .inr (5, [.ref a3, .int 3])), (a1, .inl (cI, 240, .inl RA)), (a2, .inl (cI, 30, .inl RI)), (a3, .inl (cI, 36, .inl RC))] sz wN)) (qI D (TY cI cC cS) (fun (r : Int32) (u : Int32 × (Nat → Int32) × Int32) => fX5_passDays RI ni dy days = u ∧ r = u.1) (fun u => [(h, .inr (4, [.ref t1, .ref t2, .ref t3, .int na, .int ni, .int u.2.2, .int vl, .int db])), (t1, .inr (5, [.ref a1, .int 10])), (t2, .inr (5, [.ref a2, .int 6])), (t3, .inr (5, [.ref a3, .int 3])), (a1, .inl (cI, 240, .inl RA)), (a2, .inl (cI, 30, .inl u.2.1)), (a3, .inl (cI, 36, .inl RC))]) (va_A [(h, .inr (4, [.ref t1, .ref t2, .ref t3, .int na, .int ni, .int dy, .int vl, .int db])), (t1, .inr (5, [.ref a1, .int 10])), (t2, .inr (5, [.ref a2, .int 6])), (t3, .inr (5, [.ref a3, .int 3])), (a1, .inl (cI, 240, .inl RA)), (a2, .inl (cI, 30, .inl RI)), (a3, .inl (cI, 36, .inl RC))] sz)) 0 0 (va_A [(h, .inr (4, [.ref t1, .ref t2, .ref t3, .int na, .int ni, .int dy, .int vl, .int db])), (t1, .inr (5, [.ref a1, .int 10])), (t2, .inr (5, [.ref a2, .int 6])), (t3, .inr (5, [.ref a3, .int 3])), (a1, .inl (cI, 240, .inl RA)), (a2, .inl (cI, 30, .inl RI)), (a3, .inl (cI, 36, .inl RC))] sz) := by
  refine mkM (fun Fr => qI D (TY cI cC cS) (fun (r : Int32) (u : Int32 × (Nat → Int32) × Int32) => fX5_passDays RI ni dy days = u ∧ r = u.1) (fun u => [(h, .inr (4, [.ref t1, .ref t2, .ref t3, .int na, .int ni, .int u.2.2, .int vl, .int db])), (t1, .inr (5, [.ref a1, .int 10])), (t2, .inr (5, [.ref a2, .int 6])), (t3, .inr (5, [.ref a3, .int 3])), (a1, .inl (cI, 240, .inl RA)), (a2, .inl (cI, 30, .inl u.2.1)), (a3, .inl (cI, 36, .inl RC))]) Fr) (cc := cX5_passDays) (maxL := 3) (ret := (some .int)) (own := RX5) (lv := [(0, .ref h), (1, .int days)]) (by decide) rfl rfl (Nat.le_of_ble_eq_true rfl) rfl ?_
  intro p e s m below meth c Fr ls hx hb hr hts hown hml hlk hin hP hK hD hS hA hAe hsz hX hl
  have w_1 := hts (.fieldLink RX5 47 "FieldQuotas$Survey" "day" "I") (List.mem_of_getElem? (i := 1) rfl)
  have w_2 := sub_r (big := wsX5_passDays) (u_ws RX5 TX5 8) [14, 15, 16, 17, 18, 19, 20, 21] rfl
  have w_3 := hts (.fieldLink RX5 44 "FieldQuotas$Survey" "interviewerCount" "I") (List.mem_of_getElem? (i := 2) rfl)
  have w_4 := hts (.fieldLink RX5 20 "FieldQuotas$Survey" "interviewerRows" "LFieldQuotas$Table;") (List.mem_of_getElem? (i := 3) rfl)
  refine lv_iload_n hx hb dX5_passDays_0 rfl (lv_at hl 1 rfl) ?_
  refine lv_iconst (v := 1) hx hb dX5_passDays_1 (by decide) ?_
  refine lv_bipush (v := 99) hx hb dX5_passDays_2 (by decide) ?_
  refine callNi (As := [.int days, .int 1, .int 99]) (rest := []) (mX8_isWithin l D cI cC cS _ days 1 99) ⟨hx, hb, hml, hown, hts⟩ (⟨va_cnB 3 hts gX5_passDays_X8_isWithin_n50 rfl rfl rfl hX.2.1 (hts (.initialized RX8) (List.mem_of_getElem? (i := 5) rfl)) (by decide +kernel) ⟨Nat.le_of_ble_eq_true rfl, Nat.le_of_ble_eq_true rfl⟩, hts (.static yX8_isWithin) (List.mem_of_getElem? (i := 4) rfl), trivial⟩) hP hK hD hS hA hl rfl rfl (Nat.le_of_ble_eq_true rfl) dX5_passDays_4 ⟨Nat.zero_le _, Nat.zero_le _⟩ (fun u_ H locs hk2 hP hS => ?_)
  obtain ⟨r_2, e_r_2⟩ : ∃ z, z = u_ := ⟨_, rfl⟩
  subst e_r_2
  refine W.eq (g2 := F0 m 7 ls [.int (bi r_2)]) rfl ?_
  refine lv_if_ne (tgt := 12) hx hb dX5_passDays_7 (by decide) (fun c7 => ?_) (fun c7 => ?_)
  · refine lv_aload_n hx hb dX5_passDays_12 rfl (lv_at hl 0 rfl) ?_
    refine va_get (D := D) (ci := 4) (C := RX5) (T := TX5) (N := 8) hx hb hts w_2 hown hK hP 0 rfl rfl 5 (by decide) w_1 (fun _ h9 => h9) rfl dX5_passDays_13 ?_
    refine lv_iload_n hx hb dX5_passDays_16 rfl (lv_at hl 1 rfl) ?_
    refine lv_iadd hx hb dX5_passDays_17 ?_
    refine lv_sipush (v := 999) hx hb dX5_passDays_18 (by decide) ?_
    refine lv_icmp_le (tgt := 27) hx hb dX5_passDays_21 (by decide) (fun c21 => ?_) (fun c21 => ?_)
    · refine lv_aload_n hx hb dX5_passDays_27 rfl (lv_at hl 0 rfl) ?_
      refine lv_dup hx hb dX5_passDays_28 rfl ?_
      refine va_get (D := D) (ci := 4) (C := RX5) (T := TX5) (N := 8) hx hb hts w_2 hown hK hP 0 rfl rfl 5 (by decide) w_1 (fun _ h9 => h9) rfl dX5_passDays_29 ?_
      refine lv_iload_n hx hb dX5_passDays_32 rfl (lv_at hl 1 rfl) ?_
      refine lv_iadd hx hb dX5_passDays_33 ?_
      refine va_put (D := D) (ci := 4) (v := .int (dy + days)) (ty := .int) (C := RX5) (T := TX5) (N := 8) hx hb hts w_2 tyX5 tyX5_ok nmX5 hown hK hP hD hS 0 rfl rfl 5 (by decide) w_1 (fun _ h9 => h9) rfl (by decide +kernel) rfl rfl (Nat.le_of_ble_eq_true rfl) dX5_passDays_34 (fun H locs hP hD hS => ?_)
      have hP : va_P D vwCl [(h, .inr (4, [.ref t1, .ref t2, .ref t3, .int na, .int ni, .int (dy + days), .int vl, .int db])), (t1, .inr (5, [.ref a1, .int 10])), (t2, .inr (5, [.ref a2, .int 6])), (t3, .inr (5, [.ref a3, .int 3])), (a1, .inl (cI, 240, .inl RA)), (a2, .inl (cI, 30, .inl RI)), (a3, .inl (cI, 36, .inl RC))] H := hP
      have hD : va_D Fr [(h, .inr (4, [.ref t1, .ref t2, .ref t3, .int na, .int ni, .int (dy + days), .int vl, .int db])), (t1, .inr (5, [.ref a1, .int 10])), (t2, .inr (5, [.ref a2, .int 6])), (t3, .inr (5, [.ref a3, .int 3])), (a1, .inl (cI, 240, .inl RA)), (a2, .inl (cI, 30, .inl RI)), (a3, .inl (cI, 36, .inl RC))] := hD
      refine lv_iconst (v := 0) hx hb dX5_passDays_37 (by decide) ?_
      refine lv_istore_n (lv' := [(2, .int 0), (0, .ref h), (1, .int days)]) hx hb dX5_passDays_38 rfl hl (by decide) rfl (fun ls hl => ?_)
      have K_39 : ∀ (fu : Nat) (x2 : Int32) (QI : Nat → Int32) (H : Heap) (locs : List Loc) (ls : Array Slot), va_P D vwCl [(h, .inr (4, [.ref t1, .ref t2, .ref t3, .int na, .int ni, .int (dy + days), .int vl, .int db])), (t1, .inr (5, [.ref a1, .int 10])), (t2, .inr (5, [.ref a2, .int 6])), (t3, .inr (5, [.ref a3, .int 3])), (a1, .inl (cI, 240, .inl RA)), (a2, .inl (cI, 30, .inl QI)), (a3, .inl (cI, 36, .inl RC))] H → va_D Fr [(h, .inr (4, [.ref t1, .ref t2, .ref t3, .int na, .int ni, .int (dy + days), .int vl, .int db])), (t1, .inr (5, [.ref a1, .int 10])), (t2, .inr (5, [.ref a2, .int 6])), (t3, .inr (5, [.ref a3, .int 3])), (a1, .inl (cI, 240, .inl RA)), (a2, .inl (cI, 30, .inl QI)), (a3, .inl (cI, 36, .inl RC))] → va_S Fr s.heap H locs → lv_has ls 3 [(0, .ref h), (1, .int days), (2, .int x2)] → (ni.toInt - x2.toInt).toNat < fu → fX5_passDays RI ni dy days = fX5_passDays_39 RI ni dy days fu x2 QI → W p l e (headSpec wsX5_passDays ({ frames := 1, cells := 0, slots := 0, locals := 24 } : Jvm.Room)).room s m ([.ref h, .int days] : List Value).toArray below meth c H locs 0 0 (MQ below (qI D (TY cI cC cS) (fun (r : Int32) (u : Int32 × (Nat → Int32) × Int32) => fX5_passDays RI ni dy days = u ∧ r = u.1) (fun u => [(h, .inr (4, [.ref t1, .ref t2, .ref t3, .int na, .int ni, .int u.2.2, .int vl, .int db])), (t1, .inr (5, [.ref a1, .int 10])), (t2, .inr (5, [.ref a2, .int 6])), (t3, .inr (5, [.ref a3, .int 3])), (a1, .inl (cI, 240, .inl RA)), (a2, .inl (cI, 30, .inl u.2.1)), (a3, .inl (cI, 36, .inl RC))]) Fr) ([.ref h, .int days] : List Value).toArray s 0 0 Fr) (F0 m 39 ls []) := by
        intro fu
        induction fu with
        | zero => intros; exact absurd (by assumption) (Nat.not_lt_zero _)
        | succ fu ih_39 =>
          intro x2 QI H locs ls hP hD hS hl  hm_39 E_39
          refine lv_iload_n hx hb dX5_passDays_39 rfl (lv_at hl 2 rfl) ?_
          refine lv_aload_n hx hb dX5_passDays_40 rfl (lv_at hl 0 rfl) ?_
          refine va_get (D := D) (ci := 4) (C := RX5) (T := TX5) (N := 8) hx hb hts w_2 hown hK hP 0 rfl rfl 4 (by decide) w_3 (fun _ h9 => h9) rfl dX5_passDays_41 ?_
          refine lv_icmp_ge (tgt := 63) hx hb dX5_passDays_44 (by decide) (fun c44 => ?_) (fun c44 => ?_)
          · refine lv_aload_n hx hb dX5_passDays_63 rfl (lv_at hl 0 rfl) ?_
            refine va_get (D := D) (ci := 4) (C := RX5) (T := TX5) (N := 8) hx hb hts w_2 hown hK hP 0 rfl rfl 5 (by decide) w_1 (fun _ h9 => h9) rfl dX5_passDays_64 ?_
            exact endI hx hb hr hlk hP hK hD hS dX5_passDays_67 (dy + days, QI, dy + days) rfl ⟨(E_39).trans ((fX5_passDays_39_s RI ni dy days fu x2 QI).trans ((if_pos c44).trans rfl)), rfl⟩
          · refine lv_aload_n hx hb dX5_passDays_47 rfl (lv_at hl 0 rfl) ?_
            refine va_get (D := D) (ci := 4) (C := RX5) (T := TX5) (N := 8) hx hb hts w_2 hown hK hP 0 rfl rfl 1 (by decide) w_4 (fun _ h9 => h9) rfl dX5_passDays_48 ?_
            refine lv_iload_n hx hb dX5_passDays_51 rfl (lv_at hl 2 rfl) ?_
            refine lv_iconst (v := 2) hx hb dX5_passDays_52 (by decide) ?_
            refine lv_iconst (v := 0) hx hb dX5_passDays_53 (by decide) ?_
            refine callVv (As := [.int x2, .int 2, .int 0]) (rest := []) (mX6_put l D cI cC cS _ t2 a2 30 QI 6 x2 2 0 (by decide)) ⟨hx, hb, hml, hown, hts⟩ (cwV 3 hts gX5_passDays_X6_put rfl rfl rfl (by decide +kernel) ⟨Nat.le_of_ble_eq_true rfl, Nat.le_of_ble_eq_true rfl⟩) X0_blind (fun _ _ _ => trivial) hP hK hD hS hA hl [2, 5] rfl rfl 0 5 rfl rfl rfl rfl rfl (Nat.le_of_ble_eq_true rfl) dX5_passDays_54 ⟨Nat.zero_le _, Nat.zero_le _⟩ (fun _ => rfl) (fun u_ H locs hk5 hP hD hS => ?_)
            obtain ⟨u_5, e_u_5⟩ : ∃ z, z = u_ := ⟨_, rfl⟩
            subst e_u_5
            have hP : va_P D vwCl [(h, .inr (4, [.ref t1, .ref t2, .ref t3, .int na, .int ni, .int (dy + days), .int vl, .int db])), (t1, .inr (5, [.ref a1, .int 10])), (t2, .inr (5, [.ref a2, .int 6])), (t3, .inr (5, [.ref a3, .int 3])), (a1, .inl (cI, 240, .inl RA)), (a2, .inl (cI, 30, .inl u_5)), (a3, .inl (cI, 36, .inl RC))] H := hP
            have hD : va_D Fr [(h, .inr (4, [.ref t1, .ref t2, .ref t3, .int na, .int ni, .int (dy + days), .int vl, .int db])), (t1, .inr (5, [.ref a1, .int 10])), (t2, .inr (5, [.ref a2, .int 6])), (t3, .inr (5, [.ref a3, .int 3])), (a1, .inl (cI, 240, .inl RA)), (a2, .inl (cI, 30, .inl u_5)), (a3, .inl (cI, 36, .inl RC))] := hD
            refine W.eq (g2 := F0 m 57 ls []) rfl ?_
            refine lv_iinc (v := x2 + 1) (lv' := [(2, .int (x2 + 1)), (0, .ref h), (1, .int days)]) hx hb dX5_passDays_57 hl (k := 2) rfl (by rfl) (by decide) rfl (fun ls hl => ?_)
            refine lv_goto (tgt := 39) hx hb dX5_passDays_60 (by decide) ?_
            exact ih_39 (x2 + 1) u_5 _ _ ls hP hD hS (lv_sub hl [1, 2, 0] rfl) (Nat.lt_of_lt_of_le (lp_dec c44) (Nat.le_of_lt_succ hm_39)) ((E_39).trans ((fX5_passDays_39_s RI ni dy days fu x2 QI).trans ((if_neg c44).trans ((bd1_e hk5).trans rfl))))
      exact K_39 ((ni.toInt - (0 : Int32).toInt).toNat + 1) 0 RI _ _ ls hP hD hS (lv_sub hl [1, 2, 0] rfl) (Nat.lt_succ_self _) ((bd1_e hk2).trans ((if_pos (bi_o c7)).trans ((if_pos c21).trans rfl)))
    · refine lv_bipush (v := (-3)) hx hb dX5_passDays_24 (by decide) ?_
      exact endI hx hb hr hlk hP hK hD hS dX5_passDays_26 ((-3), RI, dy) rfl ⟨(bd1_e hk2).trans ((if_pos (bi_o c7)).trans ((if_neg c21).trans rfl)), rfl⟩
  · refine lv_iconst (v := (-1)) hx hb dX5_passDays_10 (by decide) ?_
    exact endI hx hb hr hlk hP hK hD hS dX5_passDays_11 ((-1), RI, dy) rfl ⟨(bd1_e hk2).trans ((if_neg (bi_z c7)).trans rfl), rfl⟩

/-- the value of X5_isCallNamed, path by path -/
def fX5_isCallNamed (na : Int32) (ni : Int32) (interviewer : Int32) (address : Int32) (time : Int32) : Bool :=
  bd1 (fX5_hasInterviewer ni interviewer) (fun (r_2 : Bool) => (if r_2 = true then bd1 (fX5_hasAddress na address) (fun (r_4 : Bool) => (if r_4 = true then bd1 (fX8_isTime time) (fun (r_6 : Bool) => (if r_6 = true then true else false)) else false)) else false))

set_option maxHeartbeats 4000000 in
set_option maxRecDepth 100000 in
/-- X5_isCallNamed -/
theorem mX5_isCallNamed (l : Launch) (D : va_G) (cI cC cS : ClassId) (sz : Nat) (h : Nat) (t1 : Nat) (t2 : Nat) (t3 : Nat) (a1 : Nat) (a2 : Nat) (a3 : Nat) (RA : Nat → Int32) (RI : Nat → Int32) (RC : Nat → Int32) (na : Int32) (ni : Int32) (dy : Int32) (vl : Int32) (db : Int32) (interviewer : Int32) (address : Int32) (time : Int32)  : Met l yX5_isCallNamed wsX5_isCallNamed ({ frames := 2, cells := 0, slots := 0, locals := 43 } : Jvm.Room) (va_Pc [.ref h, .int interviewer, .int address, .int time] (wPre D (TY cI cC cS) [(h, .inr (4, [.ref t1, .ref t2, .ref t3, .int na, .int ni, .int dy, .int vl, .int db])), (t1, .inr (5, [.ref a1, .int 10])), (t2, .inr (5, [.ref a2, .int 6])), (t3, .inr (5, [.ref a3, .int 3])), (a1, .inl (cI, 240, .inl RA)), (a2, .inl (cI, 30, .inl RI)), (a3, .inl (cI, 36, .inl RC))] sz wN)) (qI D (TY cI cC cS) (fun (r : Int32) (u : Bool) => fX5_isCallNamed na ni interviewer address time = u ∧ r = bi u) (fun u => [(h, .inr (4, [.ref t1, .ref t2, .ref t3, .int na, .int ni, .int dy, .int vl, .int db])), (t1, .inr (5, [.ref a1, .int 10])), (t2, .inr (5, [.ref a2, .int 6])), (t3, .inr (5, [.ref a3, .int 3])), (a1, .inl (cI, 240, .inl RA)), (a2, .inl (cI, 30, .inl RI)), (a3, .inl (cI, 36, .inl RC))]) (va_A [(h, .inr (4, [.ref t1, .ref t2, .ref t3, .int na, .int ni, .int dy, .int vl, .int db])), (t1, .inr (5, [.ref a1, .int 10])), (t2, .inr (5, [.ref a2, .int 6])), (t3, .inr (5, [.ref a3, .int 3])), (a1, .inl (cI, 240, .inl RA)), (a2, .inl (cI, 30, .inl RI)), (a3, .inl (cI, 36, .inl RC))] sz)) 0 0 (va_A [(h, .inr (4, [.ref t1, .ref t2, .ref t3, .int na, .int ni, .int dy, .int vl, .int db])), (t1, .inr (5, [.ref a1, .int 10])), (t2, .inr (5, [.ref a2, .int 6])), (t3, .inr (5, [.ref a3, .int 3])), (a1, .inl (cI, 240, .inl RA)), (a2, .inl (cI, 30, .inl RI)), (a3, .inl (cI, 36, .inl RC))] sz) := by
  refine mkM (fun Fr => qI D (TY cI cC cS) (fun (r : Int32) (u : Bool) => fX5_isCallNamed na ni interviewer address time = u ∧ r = bi u) (fun u => [(h, .inr (4, [.ref t1, .ref t2, .ref t3, .int na, .int ni, .int dy, .int vl, .int db])), (t1, .inr (5, [.ref a1, .int 10])), (t2, .inr (5, [.ref a2, .int 6])), (t3, .inr (5, [.ref a3, .int 3])), (a1, .inl (cI, 240, .inl RA)), (a2, .inl (cI, 30, .inl RI)), (a3, .inl (cI, 36, .inl RC))]) Fr) (cc := cX5_isCallNamed) (maxL := 4) (ret := (some .boolean)) (own := RX5) (lv := [(0, .ref h), (1, .int interviewer), (2, .int address), (3, .int time)]) (by decide) rfl rfl (Nat.le_of_ble_eq_true rfl) rfl ?_
  intro p e s m below meth c Fr ls hx hb hr hts hown hml hlk hin hP hK hD hS hA hAe hsz hX hl
  refine lv_aload_n hx hb dX5_isCallNamed_0 rfl (lv_at hl 0 rfl) ?_
  refine lv_iload_n hx hb dX5_isCallNamed_1 rfl (lv_at hl 1 rfl) ?_
  refine callVi (As := [.int interviewer]) (rest := []) (mX5_hasInterviewer l D cI cC cS _ h t1 t2 t3 a1 a2 a3 RA RI RC na ni dy vl db interviewer) ⟨hx, hb, hml, hown, hts⟩ (cwV 1 hts gX5_isCallNamed_X5_hasInterviewer rfl rfl rfl (by decide +kernel) ⟨Nat.le_of_ble_eq_true rfl, Nat.le_of_ble_eq_true rfl⟩) wN_blind (fun _ _ hW => wN_warm hW hX) hP hK hD hS hA hl [0, 1, 2, 3, 4, 5, 6] rfl rfl 0 4 rfl rfl rfl rfl rfl (Nat.le_of_ble_eq_true rfl) dX5_isCallNamed_2 ⟨Nat.zero_le _, Nat.zero_le _⟩ (fun _ => rfl) (fun u_ H locs hk2 hP hD hS => ?_)
  obtain ⟨r_2, e_r_2⟩ : ∃ z, z = u_ := ⟨_, rfl⟩
  subst e_r_2
  have hP : va_P D vwCl [(h, .inr (4, [.ref t1, .ref t2, .ref t3, .int na, .int ni, .int dy, .int vl, .int db])), (t1, .inr (5, [.ref a1, .int 10])), (t2, .inr (5, [.ref a2, .int 6])), (t3, .inr (5, [.ref a3, .int 3])), (a1, .inl (cI, 240, .inl RA)), (a2, .inl (cI, 30, .inl RI)), (a3, .inl (cI, 36, .inl RC))] H := hP
  have hD : va_D Fr [(h, .inr (4, [.ref t1, .ref t2, .ref t3, .int na, .int ni, .int dy, .int vl, .int db])), (t1, .inr (5, [.ref a1, .int 10])), (t2, .inr (5, [.ref a2, .int 6])), (t3, .inr (5, [.ref a3, .int 3])), (a1, .inl (cI, 240, .inl RA)), (a2, .inl (cI, 30, .inl RI)), (a3, .inl (cI, 36, .inl RC))] := hD
  refine W.eq (g2 := F0 m 5 ls [.int (bi r_2)]) rfl ?_
  refine lv_if_eq (tgt := 27) hx hb dX5_isCallNamed_5 (by decide) (fun c5 => ?_) (fun c5 => ?_)
  · refine lv_iconst (v := 0) hx hb dX5_isCallNamed_27 (by decide) ?_
    exact endZ hx hb hr hlk hP hK hD hS dX5_isCallNamed_28 rfl false rfl ⟨(bd1_e hk2).trans ((if_neg (bi_z c5)).trans rfl), rfl⟩
  · refine lv_aload_n hx hb dX5_isCallNamed_8 rfl (lv_at hl 0 rfl) ?_
    refine lv_iload_n hx hb dX5_isCallNamed_9 rfl (lv_at hl 2 rfl) ?_
    refine callVi (As := [.int address]) (rest := []) (mX5_hasAddress l D cI cC cS _ h t1 t2 t3 a1 a2 a3 RA RI RC na ni dy vl db address) ⟨hx, hb, hml, hown, hts⟩ (cwV 1 hts gX5_isCallNamed_X5_hasAddress rfl rfl rfl (by decide +kernel) ⟨Nat.le_of_ble_eq_true rfl, Nat.le_of_ble_eq_true rfl⟩) wN_blind (fun _ _ hW => wN_warm hW hX) hP hK hD hS hA hl [0, 1, 2, 3, 4, 5, 6] rfl rfl 0 4 rfl rfl rfl rfl rfl (Nat.le_of_ble_eq_true rfl) dX5_isCallNamed_10 ⟨Nat.zero_le _, Nat.zero_le _⟩ (fun _ => rfl) (fun u_ H locs hk4 hP hD hS => ?_)
    obtain ⟨r_4, e_r_4⟩ : ∃ z, z = u_ := ⟨_, rfl⟩
    subst e_r_4
    have hP : va_P D vwCl [(h, .inr (4, [.ref t1, .ref t2, .ref t3, .int na, .int ni, .int dy, .int vl, .int db])), (t1, .inr (5, [.ref a1, .int 10])), (t2, .inr (5, [.ref a2, .int 6])), (t3, .inr (5, [.ref a3, .int 3])), (a1, .inl (cI, 240, .inl RA)), (a2, .inl (cI, 30, .inl RI)), (a3, .inl (cI, 36, .inl RC))] H := hP
    have hD : va_D Fr [(h, .inr (4, [.ref t1, .ref t2, .ref t3, .int na, .int ni, .int dy, .int vl, .int db])), (t1, .inr (5, [.ref a1, .int 10])), (t2, .inr (5, [.ref a2, .int 6])), (t3, .inr (5, [.ref a3, .int 3])), (a1, .inl (cI, 240, .inl RA)), (a2, .inl (cI, 30, .inl RI)), (a3, .inl (cI, 36, .inl RC))] := hD
    refine W.eq (g2 := F0 m 13 ls [.int (bi r_4)]) rfl ?_
    refine lv_if_eq (tgt := 27) hx hb dX5_isCallNamed_13 (by decide) (fun c13 => ?_) (fun c13 => ?_)
    · refine lv_iconst (v := 0) hx hb dX5_isCallNamed_27 (by decide) ?_
      exact endZ hx hb hr hlk hP hK hD hS dX5_isCallNamed_28 rfl false rfl ⟨(bd1_e hk2).trans ((if_pos (bi_o c5)).trans ((bd1_e hk4).trans ((if_neg (bi_z c13)).trans rfl))), rfl⟩
    · refine lv_iload_n hx hb dX5_isCallNamed_16 rfl (lv_at hl 3 rfl) ?_
      refine callNi (As := [.int time]) (rest := []) (mX8_isTime l D cI cC cS _ time) ⟨hx, hb, hml, hown, hts⟩ (⟨va_cnB 1 hts gX5_isCallNamed_X8_isTime_n89 rfl rfl rfl hX.2.2.2.1 (hts (.initialized RX8) (List.mem_of_getElem? (i := 8) rfl)) (by decide +kernel) ⟨Nat.le_of_ble_eq_true rfl, Nat.le_of_ble_eq_true rfl⟩, hts (.static yX8_isTime) (List.mem_of_getElem? (i := 15) rfl), trivial⟩) hP hK hD hS hA hl rfl rfl (Nat.le_of_ble_eq_true rfl) dX5_isCallNamed_17 ⟨Nat.zero_le _, Nat.zero_le _⟩ (fun u_ H locs hk6 hP hS => ?_)
      obtain ⟨r_6, e_r_6⟩ : ∃ z, z = u_ := ⟨_, rfl⟩
      subst e_r_6
      refine W.eq (g2 := F0 m 20 ls [.int (bi r_6)]) rfl ?_
      refine lv_if_eq (tgt := 27) hx hb dX5_isCallNamed_20 (by decide) (fun c20 => ?_) (fun c20 => ?_)
      · refine lv_iconst (v := 0) hx hb dX5_isCallNamed_27 (by decide) ?_
        exact endZ hx hb hr hlk hP hK hD hS dX5_isCallNamed_28 rfl false rfl ⟨(bd1_e hk2).trans ((if_pos (bi_o c5)).trans ((bd1_e hk4).trans ((if_pos (bi_o c13)).trans ((bd1_e hk6).trans ((if_neg (bi_z c20)).trans rfl))))), rfl⟩
      · refine lv_iconst (v := 1) hx hb dX5_isCallNamed_23 (by decide) ?_
        refine lv_goto (tgt := 28) hx hb dX5_isCallNamed_24 (by decide) ?_
        exact endZ hx hb hr hlk hP hK hD hS dX5_isCallNamed_28 rfl true rfl ⟨(bd1_e hk2).trans ((if_pos (bi_o c5)).trans ((bd1_e hk4).trans ((if_pos (bi_o c13)).trans ((bd1_e hk6).trans ((if_pos (bi_o c20)).trans rfl))))), rfl⟩

/-- the value of X5_noteCall, path by path -/
def fX5_noteCall (RA : Nat → Int32) (RI : Nat → Int32) (dy : Int32) (interviewer : Int32) (address : Int32) (time : Int32) : (Nat → Int32) × (Nat → Int32) :=
  bd1 (fX6_increase 240 RA 10 address 2) (fun (u_3 : Nat → Int32) => bd1 (fX6_put 240 u_3 10 address 4 dy) (fun (u_6 : Nat → Int32) => bd1 (fX6_put 240 u_6 10 address 5 time) (fun (u_9 : Nat → Int32) => bd1 (fX6_put 240 u_9 10 address 9 interviewer) (fun (u_12 : Nat → Int32) => bd1 (fX6_put 240 u_12 10 address 6 (-4)) (fun (u_15 : Nat → Int32) => bd1 (fX6_put 240 u_15 10 address 7 (-4)) (fun (u_18 : Nat → Int32) => bd1 (fX6_increase 30 RI 6 interviewer 2) (fun (u_21 : Nat → Int32) => bd1 (fX6_increase 30 u_21 6 interviewer 3) (fun (u_24 : Nat → Int32) => bd1 (fX6_get 240 u_18 10 address 0) (fun (r_26 : Int32) => bd1 (fX6_get 30 u_24 6 interviewer 0) (fun (r_28 : Int32) => (if r_28 = r_26 then (u_18, u_24) else bd1 (fX6_increase 30 u_24 6 interviewer 5) (fun (u_31 : Nat → Int32) => (u_18, u_31)))))))))))))

set_option maxHeartbeats 4000000 in
set_option maxRecDepth 100000 in
/-- X5_noteCall -/
theorem mX5_noteCall (l : Launch) (D : va_G) (cI cC cS : ClassId) (sz : Nat) (h : Nat) (t1 : Nat) (t2 : Nat) (t3 : Nat) (a1 : Nat) (a2 : Nat) (a3 : Nat) (RA : Nat → Int32) (RI : Nat → Int32) (RC : Nat → Int32) (na : Int32) (ni : Int32) (dy : Int32) (vl : Int32) (db : Int32) (interviewer : Int32) (address : Int32) (time : Int32)  : Met l yX5_noteCall wsX5_noteCall ({ frames := 2, cells := 0, slots := 0, locals := 46 } : Jvm.Room) (va_Pc [.ref h, .int interviewer, .int address, .int time] (wPre D (TY cI cC cS) [(h, .inr (4, [.ref t1, .ref t2, .ref t3, .int na, .int ni, .int dy, .int vl, .int db])), (t1, .inr (5, [.ref a1, .int 10])), (t2, .inr (5, [.ref a2, .int 6])), (t3, .inr (5, [.ref a3, .int 3])), (a1, .inl (cI, 240, .inl RA)), (a2, .inl (cI, 30, .inl RI)), (a3, .inl (cI, 36, .inl RC))] sz wN)) (qV D (TY cI cC cS) (fun (u : (Nat → Int32) × (Nat → Int32)) => fX5_noteCall RA RI dy interviewer address time = u) (fun u => [(h, .inr (4, [.ref t1, .ref t2, .ref t3, .int na, .int ni, .int dy, .int vl, .int db])), (t1, .inr (5, [.ref a1, .int 10])), (t2, .inr (5, [.ref a2, .int 6])), (t3, .inr (5, [.ref a3, .int 3])), (a1, .inl (cI, 240, .inl u.1)), (a2, .inl (cI, 30, .inl u.2)), (a3, .inl (cI, 36, .inl RC))]) (va_A [(h, .inr (4, [.ref t1, .ref t2, .ref t3, .int na, .int ni, .int dy, .int vl, .int db])), (t1, .inr (5, [.ref a1, .int 10])), (t2, .inr (5, [.ref a2, .int 6])), (t3, .inr (5, [.ref a3, .int 3])), (a1, .inl (cI, 240, .inl RA)), (a2, .inl (cI, 30, .inl RI)), (a3, .inl (cI, 36, .inl RC))] sz)) 0 0 (va_A [(h, .inr (4, [.ref t1, .ref t2, .ref t3, .int na, .int ni, .int dy, .int vl, .int db])), (t1, .inr (5, [.ref a1, .int 10])), (t2, .inr (5, [.ref a2, .int 6])), (t3, .inr (5, [.ref a3, .int 3])), (a1, .inl (cI, 240, .inl RA)), (a2, .inl (cI, 30, .inl RI)), (a3, .inl (cI, 36, .inl RC))] sz) := by
  refine mkM (fun Fr => qV D (TY cI cC cS) (fun (u : (Nat → Int32) × (Nat → Int32)) => fX5_noteCall RA RI dy interviewer address time = u) (fun u => [(h, .inr (4, [.ref t1, .ref t2, .ref t3, .int na, .int ni, .int dy, .int vl, .int db])), (t1, .inr (5, [.ref a1, .int 10])), (t2, .inr (5, [.ref a2, .int 6])), (t3, .inr (5, [.ref a3, .int 3])), (a1, .inl (cI, 240, .inl u.1)), (a2, .inl (cI, 30, .inl u.2)), (a3, .inl (cI, 36, .inl RC))]) Fr) (cc := cX5_noteCall) (maxL := 5) (ret := none) (own := RX5) (lv := [(0, .ref h), (1, .int interviewer), (2, .int address), (3, .int time)]) (by decide) rfl rfl (Nat.le_of_ble_eq_true rfl) rfl ?_
  intro p e s m below meth c Fr ls hx hb hr hts hown hml hlk hin hP hK hD hS hA hAe hsz hX hl
  have w_1 := hts (.fieldLink RX5 14 "FieldQuotas$Survey" "addressRows" "LFieldQuotas$Table;") (List.mem_of_getElem? (i := 1) rfl)
  have w_2 := sub_r (big := wsX5_noteCall) (u_ws RX5 TX5 8) [21, 22, 23, 24, 25, 26, 27, 28] rfl
  have w_3 := hts (.fieldLink RX5 47 "FieldQuotas$Survey" "day" "I") (List.mem_of_getElem? (i := 2) rfl)
  have w_4 := hts (.fieldLink RX5 20 "FieldQuotas$Survey" "interviewerRows" "LFieldQuotas$Table;") (List.mem_of_getElem? (i := 3) rfl)
  refine lv_aload_n hx hb dX5_noteCall_0 rfl (lv_at hl 0 rfl) ?_
  refine va_get (D := D) (ci := 4) (C := RX5) (T := TX5) (N := 8) hx hb hts w_2 hown hK hP 0 rfl rfl 0 (by decide) w_1 (fun _ h9 => h9) rfl dX5_noteCall_1 ?_
  refine lv_iload_n hx hb dX5_noteCall_4 rfl (lv_at hl 2 rfl) ?_
  refine lv_iconst (v := 2) hx hb dX5_noteCall_5 (by decide) ?_
  refine callVv (As := [.int address, .int 2]) (rest := []) (mX6_increase l D cI cC cS _ t1 a1 240 RA 10 address 2 (by decide)) ⟨hx, hb, hml, hown, hts⟩ (cwV 2 hts gX5_noteCall_X6_increase rfl rfl rfl (by decide +kernel) ⟨Nat.le_of_ble_eq_true rfl, Nat.le_of_ble_eq_true rfl⟩) X0_blind (fun _ _ _ => trivial) hP hK hD hS hA hl [1, 4] rfl rfl 0 5 rfl rfl rfl rfl rfl (Nat.le_of_ble_eq_true rfl) dX5_noteCall_6 ⟨Nat.zero_le _, Nat.zero_le _⟩ (fun _ => rfl) (fun u_ H locs hk3 hP hD hS => ?_)
  obtain ⟨u_3, e_u_3⟩ : ∃ z, z = u_ := ⟨_, rfl⟩
  subst e_u_3
  have hP : va_P D vwCl [(h, .inr (4, [.ref t1, .ref t2, .ref t3, .int na, .int ni, .int dy, .int vl, .int db])), (t1, .inr (5, [.ref a1, .int 10])), (t2, .inr (5, [.ref a2, .int 6])), (t3, .inr (5, [.ref a3, .int 3])), (a1, .inl (cI, 240, .inl u_3)), (a2, .inl (cI, 30, .inl RI)), (a3, .inl (cI, 36, .inl RC))] H := hP
  have hD : va_D Fr [(h, .inr (4, [.ref t1, .ref t2, .ref t3, .int na, .int ni, .int dy, .int vl, .int db])), (t1, .inr (5, [.ref a1, .int 10])), (t2, .inr (5, [.ref a2, .int 6])), (t3, .inr (5, [.ref a3, .int 3])), (a1, .inl (cI, 240, .inl u_3)), (a2, .inl (cI, 30, .inl RI)), (a3, .inl (cI, 36, .inl RC))] := hD
  refine W.eq (g2 := F0 m 9 ls []) rfl ?_
  refine lv_aload_n hx hb dX5_noteCall_9 rfl (lv_at hl 0 rfl) ?_
  refine va_get (D := D) (ci := 4) (C := RX5) (T := TX5) (N := 8) hx hb hts w_2 hown hK hP 0 rfl rfl 0 (by decide) w_1 (fun _ h9 => h9) rfl dX5_noteCall_10 ?_
  refine lv_iload_n hx hb dX5_noteCall_13 rfl (lv_at hl 2 rfl) ?_
  refine lv_iconst (v := 4) hx hb dX5_noteCall_14 (by decide) ?_
  refine lv_aload_n hx hb dX5_noteCall_15 rfl (lv_at hl 0 rfl) ?_
  refine va_get (D := D) (ci := 4) (C := RX5) (T := TX5) (N := 8) hx hb hts w_2 hown hK hP 0 rfl rfl 5 (by decide) w_3 (fun _ h9 => h9) rfl dX5_noteCall_16 ?_
  refine callVv (As := [.int address, .int 4, .int dy]) (rest := []) (mX6_put l D cI cC cS _ t1 a1 240 u_3 10 address 4 dy (by decide)) ⟨hx, hb, hml, hown, hts⟩ (cwV 3 hts gX5_noteCall_X6_put rfl rfl rfl (by decide +kernel) ⟨Nat.le_of_ble_eq_true rfl, Nat.le_of_ble_eq_true rfl⟩) X0_blind (fun _ _ _ => trivial) hP hK hD hS hA hl [1, 4] rfl rfl 0 5 rfl rfl rfl rfl rfl (Nat.le_of_ble_eq_true rfl) dX5_noteCall_19 ⟨Nat.zero_le _, Nat.zero_le _⟩ (fun _ => rfl) (fun u_ H locs hk6 hP hD hS => ?_)
  obtain ⟨u_6, e_u_6⟩ : ∃ z, z = u_ := ⟨_, rfl⟩
  subst e_u_6
  have hP : va_P D vwCl [(h, .inr (4, [.ref t1, .ref t2, .ref t3, .int na, .int ni, .int dy, .int vl, .int db])), (t1, .inr (5, [.ref a1, .int 10])), (t2, .inr (5, [.ref a2, .int 6])), (t3, .inr (5, [.ref a3, .int 3])), (a1, .inl (cI, 240, .inl u_6)), (a2, .inl (cI, 30, .inl RI)), (a3, .inl (cI, 36, .inl RC))] H := hP
  have hD : va_D Fr [(h, .inr (4, [.ref t1, .ref t2, .ref t3, .int na, .int ni, .int dy, .int vl, .int db])), (t1, .inr (5, [.ref a1, .int 10])), (t2, .inr (5, [.ref a2, .int 6])), (t3, .inr (5, [.ref a3, .int 3])), (a1, .inl (cI, 240, .inl u_6)), (a2, .inl (cI, 30, .inl RI)), (a3, .inl (cI, 36, .inl RC))] := hD
  refine W.eq (g2 := F0 m 22 ls []) rfl ?_
  refine lv_aload_n hx hb dX5_noteCall_22 rfl (lv_at hl 0 rfl) ?_
  refine va_get (D := D) (ci := 4) (C := RX5) (T := TX5) (N := 8) hx hb hts w_2 hown hK hP 0 rfl rfl 0 (by decide) w_1 (fun _ h9 => h9) rfl dX5_noteCall_23 ?_
  refine lv_iload_n hx hb dX5_noteCall_26 rfl (lv_at hl 2 rfl) ?_
  refine lv_iconst (v := 5) hx hb dX5_noteCall_27 (by decide) ?_
  refine lv_iload_n hx hb dX5_noteCall_28 rfl (lv_at hl 3 rfl) ?_
  refine callVv (As := [.int address, .int 5, .int time]) (rest := []) (mX6_put l D cI cC cS _ t1 a1 240 u_6 10 address 5 time (by decide)) ⟨hx, hb, hml, hown, hts⟩ (cwV 3 hts gX5_noteCall_X6_put rfl rfl rfl (by decide +kernel) ⟨Nat.le_of_ble_eq_true rfl, Nat.le_of_ble_eq_true rfl⟩) X0_blind (fun _ _ _ => trivial) hP hK hD hS hA hl [1, 4] rfl rfl 0 5 rfl rfl rfl rfl rfl (Nat.le_of_ble_eq_true rfl) dX5_noteCall_29 ⟨Nat.zero_le _, Nat.zero_le _⟩ (fun _ => rfl) (fun u_ H locs hk9 hP hD hS => ?_)
  obtain ⟨u_9, e_u_9⟩ : ∃ z, z = u_ := ⟨_, rfl⟩
  subst e_u_9
  have hP : va_P D vwCl [(h, .inr (4, [.ref t1, .ref t2, .ref t3, .int na, .int ni, .int dy, .int vl, .int db])), (t1, .inr (5, [.ref a1, .int 10])), (t2, .inr (5, [.ref a2, .int 6])), (t3, .inr (5, [.ref a3, .int 3])), (a1, .inl (cI, 240, .inl u_9)), (a2, .inl (cI, 30, .inl RI)), (a3, .inl (cI, 36, .inl RC))] H := hP
  have hD : va_D Fr [(h, .inr (4, [.ref t1, .ref t2, .ref t3, .int na, .int ni, .int dy, .int vl, .int db])), (t1, .inr (5, [.ref a1, .int 10])), (t2, .inr (5, [.ref a2, .int 6])), (t3, .inr (5, [.ref a3, .int 3])), (a1, .inl (cI, 240, .inl u_9)), (a2, .inl (cI, 30, .inl RI)), (a3, .inl (cI, 36, .inl RC))] := hD
  refine W.eq (g2 := F0 m 32 ls []) rfl ?_
  refine lv_aload_n hx hb dX5_noteCall_32 rfl (lv_at hl 0 rfl) ?_
  refine va_get (D := D) (ci := 4) (C := RX5) (T := TX5) (N := 8) hx hb hts w_2 hown hK hP 0 rfl rfl 0 (by decide) w_1 (fun _ h9 => h9) rfl dX5_noteCall_33 ?_
  refine lv_iload_n hx hb dX5_noteCall_36 rfl (lv_at hl 2 rfl) ?_
  refine lv_bipush (v := 9) hx hb dX5_noteCall_37 (by decide) ?_
  refine lv_iload_n hx hb dX5_noteCall_39 rfl (lv_at hl 1 rfl) ?_
  refine callVv (As := [.int address, .int 9, .int interviewer]) (rest := []) (mX6_put l D cI cC cS _ t1 a1 240 u_9 10 address 9 interviewer (by decide)) ⟨hx, hb, hml, hown, hts⟩ (cwV 3 hts gX5_noteCall_X6_put rfl rfl rfl (by decide +kernel) ⟨Nat.le_of_ble_eq_true rfl, Nat.le_of_ble_eq_true rfl⟩) X0_blind (fun _ _ _ => trivial) hP hK hD hS hA hl [1, 4] rfl rfl 0 5 rfl rfl rfl rfl rfl (Nat.le_of_ble_eq_true rfl) dX5_noteCall_40 ⟨Nat.zero_le _, Nat.zero_le _⟩ (fun _ => rfl) (fun u_ H locs hk12 hP hD hS => ?_)
  obtain ⟨u_12, e_u_12⟩ : ∃ z, z = u_ := ⟨_, rfl⟩
  subst e_u_12
  have hP : va_P D vwCl [(h, .inr (4, [.ref t1, .ref t2, .ref t3, .int na, .int ni, .int dy, .int vl, .int db])), (t1, .inr (5, [.ref a1, .int 10])), (t2, .inr (5, [.ref a2, .int 6])), (t3, .inr (5, [.ref a3, .int 3])), (a1, .inl (cI, 240, .inl u_12)), (a2, .inl (cI, 30, .inl RI)), (a3, .inl (cI, 36, .inl RC))] H := hP
  have hD : va_D Fr [(h, .inr (4, [.ref t1, .ref t2, .ref t3, .int na, .int ni, .int dy, .int vl, .int db])), (t1, .inr (5, [.ref a1, .int 10])), (t2, .inr (5, [.ref a2, .int 6])), (t3, .inr (5, [.ref a3, .int 3])), (a1, .inl (cI, 240, .inl u_12)), (a2, .inl (cI, 30, .inl RI)), (a3, .inl (cI, 36, .inl RC))] := hD
  refine W.eq (g2 := F0 m 43 ls []) rfl ?_
  refine lv_aload_n hx hb dX5_noteCall_43 rfl (lv_at hl 0 rfl) ?_
  refine va_get (D := D) (ci := 4) (C := RX5) (T := TX5) (N := 8) hx hb hts w_2 hown hK hP 0 rfl rfl 0 (by decide) w_1 (fun _ h9 => h9) rfl dX5_noteCall_44 ?_
  refine lv_iload_n hx hb dX5_noteCall_47 rfl (lv_at hl 2 rfl) ?_
  refine lv_bipush (v := 6) hx hb dX5_noteCall_48 (by decide) ?_
  refine lv_bipush (v := (-4)) hx hb dX5_noteCall_50 (by decide) ?_
  refine callVv (As := [.int address, .int 6, .int (-4)]) (rest := []) (mX6_put l D cI cC cS _ t1 a1 240 u_12 10 address 6 (-4) (by decide)) ⟨hx, hb, hml, hown, hts⟩ (cwV 3 hts gX5_noteCall_X6_put rfl rfl rfl (by decide +kernel) ⟨Nat.le_of_ble_eq_true rfl, Nat.le_of_ble_eq_true rfl⟩) X0_blind (fun _ _ _ => trivial) hP hK hD hS hA hl [1, 4] rfl rfl 0 5 rfl rfl rfl rfl rfl (Nat.le_of_ble_eq_true rfl) dX5_noteCall_52 ⟨Nat.zero_le _, Nat.zero_le _⟩ (fun _ => rfl) (fun u_ H locs hk15 hP hD hS => ?_)
  obtain ⟨u_15, e_u_15⟩ : ∃ z, z = u_ := ⟨_, rfl⟩
  subst e_u_15
  have hP : va_P D vwCl [(h, .inr (4, [.ref t1, .ref t2, .ref t3, .int na, .int ni, .int dy, .int vl, .int db])), (t1, .inr (5, [.ref a1, .int 10])), (t2, .inr (5, [.ref a2, .int 6])), (t3, .inr (5, [.ref a3, .int 3])), (a1, .inl (cI, 240, .inl u_15)), (a2, .inl (cI, 30, .inl RI)), (a3, .inl (cI, 36, .inl RC))] H := hP
  have hD : va_D Fr [(h, .inr (4, [.ref t1, .ref t2, .ref t3, .int na, .int ni, .int dy, .int vl, .int db])), (t1, .inr (5, [.ref a1, .int 10])), (t2, .inr (5, [.ref a2, .int 6])), (t3, .inr (5, [.ref a3, .int 3])), (a1, .inl (cI, 240, .inl u_15)), (a2, .inl (cI, 30, .inl RI)), (a3, .inl (cI, 36, .inl RC))] := hD
  refine W.eq (g2 := F0 m 55 ls []) rfl ?_
  refine lv_aload_n hx hb dX5_noteCall_55 rfl (lv_at hl 0 rfl) ?_
  refine va_get (D := D) (ci := 4) (C := RX5) (T := TX5) (N := 8) hx hb hts w_2 hown hK hP 0 rfl rfl 0 (by decide) w_1 (fun _ h9 => h9) rfl dX5_noteCall_56 ?_
  refine lv_iload_n hx hb dX5_noteCall_59 rfl (lv_at hl 2 rfl) ?_
  refine lv_bipush (v := 7) hx hb dX5_noteCall_60 (by decide) ?_
  refine lv_bipush (v := (-4)) hx hb dX5_noteCall_62 (by decide) ?_
  refine callVv (As := [.int address, .int 7, .int (-4)]) (rest := []) (mX6_put l D cI cC cS _ t1 a1 240 u_15 10 address 7 (-4) (by decide)) ⟨hx, hb, hml, hown, hts⟩ (cwV 3 hts gX5_noteCall_X6_put rfl rfl rfl (by decide +kernel) ⟨Nat.le_of_ble_eq_true rfl, Nat.le_of_ble_eq_true rfl⟩) X0_blind (fun _ _ _ => trivial) hP hK hD hS hA hl [1, 4] rfl rfl 0 5 rfl rfl rfl rfl rfl (Nat.le_of_ble_eq_true rfl) dX5_noteCall_64 ⟨Nat.zero_le _, Nat.zero_le _⟩ (fun _ => rfl) (fun u_ H locs hk18 hP hD hS => ?_)
  obtain ⟨u_18, e_u_18⟩ : ∃ z, z = u_ := ⟨_, rfl⟩
  subst e_u_18
  have hP : va_P D vwCl [(h, .inr (4, [.ref t1, .ref t2, .ref t3, .int na, .int ni, .int dy, .int vl, .int db])), (t1, .inr (5, [.ref a1, .int 10])), (t2, .inr (5, [.ref a2, .int 6])), (t3, .inr (5, [.ref a3, .int 3])), (a1, .inl (cI, 240, .inl u_18)), (a2, .inl (cI, 30, .inl RI)), (a3, .inl (cI, 36, .inl RC))] H := hP
  have hD : va_D Fr [(h, .inr (4, [.ref t1, .ref t2, .ref t3, .int na, .int ni, .int dy, .int vl, .int db])), (t1, .inr (5, [.ref a1, .int 10])), (t2, .inr (5, [.ref a2, .int 6])), (t3, .inr (5, [.ref a3, .int 3])), (a1, .inl (cI, 240, .inl u_18)), (a2, .inl (cI, 30, .inl RI)), (a3, .inl (cI, 36, .inl RC))] := hD
  refine W.eq (g2 := F0 m 67 ls []) rfl ?_
  refine lv_aload_n hx hb dX5_noteCall_67 rfl (lv_at hl 0 rfl) ?_
  refine va_get (D := D) (ci := 4) (C := RX5) (T := TX5) (N := 8) hx hb hts w_2 hown hK hP 0 rfl rfl 1 (by decide) w_4 (fun _ h9 => h9) rfl dX5_noteCall_68 ?_
  refine lv_iload_n hx hb dX5_noteCall_71 rfl (lv_at hl 1 rfl) ?_
  refine lv_iconst (v := 2) hx hb dX5_noteCall_72 (by decide) ?_
  refine callVv (As := [.int interviewer, .int 2]) (rest := []) (mX6_increase l D cI cC cS _ t2 a2 30 RI 6 interviewer 2 (by decide)) ⟨hx, hb, hml, hown, hts⟩ (cwV 2 hts gX5_noteCall_X6_increase rfl rfl rfl (by decide +kernel) ⟨Nat.le_of_ble_eq_true rfl, Nat.le_of_ble_eq_true rfl⟩) X0_blind (fun _ _ _ => trivial) hP hK hD hS hA hl [2, 5] rfl rfl 0 5 rfl rfl rfl rfl rfl (Nat.le_of_ble_eq_true rfl) dX5_noteCall_73 ⟨Nat.zero_le _, Nat.zero_le _⟩ (fun _ => rfl) (fun u_ H locs hk21 hP hD hS => ?_)
  obtain ⟨u_21, e_u_21⟩ : ∃ z, z = u_ := ⟨_, rfl⟩
  subst e_u_21
  have hP : va_P D vwCl [(h, .inr (4, [.ref t1, .ref t2, .ref t3, .int na, .int ni, .int dy, .int vl, .int db])), (t1, .inr (5, [.ref a1, .int 10])), (t2, .inr (5, [.ref a2, .int 6])), (t3, .inr (5, [.ref a3, .int 3])), (a1, .inl (cI, 240, .inl u_18)), (a2, .inl (cI, 30, .inl u_21)), (a3, .inl (cI, 36, .inl RC))] H := hP
  have hD : va_D Fr [(h, .inr (4, [.ref t1, .ref t2, .ref t3, .int na, .int ni, .int dy, .int vl, .int db])), (t1, .inr (5, [.ref a1, .int 10])), (t2, .inr (5, [.ref a2, .int 6])), (t3, .inr (5, [.ref a3, .int 3])), (a1, .inl (cI, 240, .inl u_18)), (a2, .inl (cI, 30, .inl u_21)), (a3, .inl (cI, 36, .inl RC))] := hD
  refine W.eq (g2 := F0 m 76 ls []) rfl ?_
  refine lv_aload_n hx hb dX5_noteCall_76 rfl (lv_at hl 0 rfl) ?_
  refine va_get (D := D) (ci := 4) (C := RX5) (T := TX5) (N := 8) hx hb hts w_2 hown hK hP 0 rfl rfl 1 (by decide) w_4 (fun _ h9 => h9) rfl dX5_noteCall_77 ?_
  refine lv_iload_n hx hb dX5_noteCall_80 rfl (lv_at hl 1 rfl) ?_
  refine lv_iconst (v := 3) hx hb dX5_noteCall_81 (by decide) ?_
  refine callVv (As := [.int interviewer, .int 3]) (rest := []) (mX6_increase l D cI cC cS _ t2 a2 30 u_21 6 interviewer 3 (by decide)) ⟨hx, hb, hml, hown, hts⟩ (cwV 2 hts gX5_noteCall_X6_increase rfl rfl rfl (by decide +kernel) ⟨Nat.le_of_ble_eq_true rfl, Nat.le_of_ble_eq_true rfl⟩) X0_blind (fun _ _ _ => trivial) hP hK hD hS hA hl [2, 5] rfl rfl 0 5 rfl rfl rfl rfl rfl (Nat.le_of_ble_eq_true rfl) dX5_noteCall_82 ⟨Nat.zero_le _, Nat.zero_le _⟩ (fun _ => rfl) (fun u_ H locs hk24 hP hD hS => ?_)
  obtain ⟨u_24, e_u_24⟩ : ∃ z, z = u_ := ⟨_, rfl⟩
  subst e_u_24
  have hP : va_P D vwCl [(h, .inr (4, [.ref t1, .ref t2, .ref t3, .int na, .int ni, .int dy, .int vl, .int db])), (t1, .inr (5, [.ref a1, .int 10])), (t2, .inr (5, [.ref a2, .int 6])), (t3, .inr (5, [.ref a3, .int 3])), (a1, .inl (cI, 240, .inl u_18)), (a2, .inl (cI, 30, .inl u_24)), (a3, .inl (cI, 36, .inl RC))] H := hP
  have hD : va_D Fr [(h, .inr (4, [.ref t1, .ref t2, .ref t3, .int na, .int ni, .int dy, .int vl, .int db])), (t1, .inr (5, [.ref a1, .int 10])), (t2, .inr (5, [.ref a2, .int 6])), (t3, .inr (5, [.ref a3, .int 3])), (a1, .inl (cI, 240, .inl u_18)), (a2, .inl (cI, 30, .inl u_24)), (a3, .inl (cI, 36, .inl RC))] := hD
  refine W.eq (g2 := F0 m 85 ls []) rfl ?_
  refine lv_aload_n hx hb dX5_noteCall_85 rfl (lv_at hl 0 rfl) ?_
  refine va_get (D := D) (ci := 4) (C := RX5) (T := TX5) (N := 8) hx hb hts w_2 hown hK hP 0 rfl rfl 0 (by decide) w_1 (fun _ h9 => h9) rfl dX5_noteCall_86 ?_
  refine lv_iload_n hx hb dX5_noteCall_89 rfl (lv_at hl 2 rfl) ?_
  refine lv_iconst (v := 0) hx hb dX5_noteCall_90 (by decide) ?_
  refine callVi (As := [.int address, .int 0]) (rest := []) (mX6_get l D cI cC cS _ t1 a1 240 u_18 10 address 0 (by decide)) ⟨hx, hb, hml, hown, hts⟩ (cwV 2 hts gX5_noteCall_X6_get rfl rfl rfl (by decide +kernel) ⟨Nat.le_of_ble_eq_true rfl, Nat.le_of_ble_eq_true rfl⟩) X0_blind (fun _ _ _ => trivial) hP hK hD hS hA hl [1, 4] rfl rfl 0 5 rfl rfl rfl rfl rfl (Nat.le_of_ble_eq_true rfl) dX5_noteCall_91 ⟨Nat.zero_le _, Nat.zero_le _⟩ (fun _ => rfl) (fun u_ H locs hk26 hP hD hS => ?_)
  obtain ⟨r_26, e_r_26⟩ : ∃ z, z = u_ := ⟨_, rfl⟩
  subst e_r_26
  have hP : va_P D vwCl [(h, .inr (4, [.ref t1, .ref t2, .ref t3, .int na, .int ni, .int dy, .int vl, .int db])), (t1, .inr (5, [.ref a1, .int 10])), (t2, .inr (5, [.ref a2, .int 6])), (t3, .inr (5, [.ref a3, .int 3])), (a1, .inl (cI, 240, .inl u_18)), (a2, .inl (cI, 30, .inl u_24)), (a3, .inl (cI, 36, .inl RC))] H := hP
  have hD : va_D Fr [(h, .inr (4, [.ref t1, .ref t2, .ref t3, .int na, .int ni, .int dy, .int vl, .int db])), (t1, .inr (5, [.ref a1, .int 10])), (t2, .inr (5, [.ref a2, .int 6])), (t3, .inr (5, [.ref a3, .int 3])), (a1, .inl (cI, 240, .inl u_18)), (a2, .inl (cI, 30, .inl u_24)), (a3, .inl (cI, 36, .inl RC))] := hD
  refine W.eq (g2 := F0 m 94 ls [.int r_26]) rfl ?_
  refine lv_istore (lv' := [(4, .int r_26), (0, .ref h), (1, .int interviewer), (2, .int address), (3, .int time)]) hx hb dX5_noteCall_94 hl (by decide) rfl (fun ls hl => ?_)
  refine lv_aload_n hx hb dX5_noteCall_96 rfl (lv_at hl 1 rfl) ?_
  refine va_get (D := D) (ci := 4) (C := RX5) (T := TX5) (N := 8) hx hb hts w_2 hown hK hP 0 rfl rfl 1 (by decide) w_4 (fun _ h9 => h9) rfl dX5_noteCall_97 ?_
  refine lv_iload_n hx hb dX5_noteCall_100 rfl (lv_at hl 2 rfl) ?_
  refine lv_iconst (v := 0) hx hb dX5_noteCall_101 (by decide) ?_
  refine callVi (As := [.int interviewer, .int 0]) (rest := []) (mX6_get l D cI cC cS _ t2 a2 30 u_24 6 interviewer 0 (by decide)) ⟨hx, hb, hml, hown, hts⟩ (cwV 2 hts gX5_noteCall_X6_get rfl rfl rfl (by decide +kernel) ⟨Nat.le_of_ble_eq_true rfl, Nat.le_of_ble_eq_true rfl⟩) X0_blind (fun _ _ _ => trivial) hP hK hD hS hA hl [2, 5] rfl rfl 0 5 rfl rfl rfl rfl rfl (Nat.le_of_ble_eq_true rfl) dX5_noteCall_102 ⟨Nat.zero_le _, Nat.zero_le _⟩ (fun _ => rfl) (fun u_ H locs hk28 hP hD hS => ?_)
  obtain ⟨r_28, e_r_28⟩ : ∃ z, z = u_ := ⟨_, rfl⟩
  subst e_r_28
  have hP : va_P D vwCl [(h, .inr (4, [.ref t1, .ref t2, .ref t3, .int na, .int ni, .int dy, .int vl, .int db])), (t1, .inr (5, [.ref a1, .int 10])), (t2, .inr (5, [.ref a2, .int 6])), (t3, .inr (5, [.ref a3, .int 3])), (a1, .inl (cI, 240, .inl u_18)), (a2, .inl (cI, 30, .inl u_24)), (a3, .inl (cI, 36, .inl RC))] H := hP
  have hD : va_D Fr [(h, .inr (4, [.ref t1, .ref t2, .ref t3, .int na, .int ni, .int dy, .int vl, .int db])), (t1, .inr (5, [.ref a1, .int 10])), (t2, .inr (5, [.ref a2, .int 6])), (t3, .inr (5, [.ref a3, .int 3])), (a1, .inl (cI, 240, .inl u_18)), (a2, .inl (cI, 30, .inl u_24)), (a3, .inl (cI, 36, .inl RC))] := hD
  refine W.eq (g2 := F0 m 105 ls [.int r_28]) rfl ?_
  refine lv_iload hx hb dX5_noteCall_105 (lv_at hl 0 rfl) ?_
  refine lv_icmp_eq (tgt := 119) hx hb dX5_noteCall_107 (by decide) (fun c107 => ?_) (fun c107 => ?_)
  · exact endV hx hb hr hlk hP hK hD hS dX5_noteCall_119 (u_18, u_24) rfl ((bd1_e hk3).trans ((bd1_e hk6).trans ((bd1_e hk9).trans ((bd1_e hk12).trans ((bd1_e hk15).trans ((bd1_e hk18).trans ((bd1_e hk21).trans ((bd1_e hk24).trans ((bd1_e hk26).trans ((bd1_e hk28).trans ((if_pos c107).trans rfl)))))))))))
  · refine lv_aload_n hx hb dX5_noteCall_110 rfl (lv_at hl 1 rfl) ?_
    refine va_get (D := D) (ci := 4) (C := RX5) (T := TX5) (N := 8) hx hb hts w_2 hown hK hP 0 rfl rfl 1 (by decide) w_4 (fun _ h9 => h9) rfl dX5_noteCall_111 ?_
    refine lv_iload_n hx hb dX5_noteCall_114 rfl (lv_at hl 2 rfl) ?_
    refine lv_iconst (v := 5) hx hb dX5_noteCall_115 (by decide) ?_
    refine callVv (As := [.int interviewer, .int 5]) (rest := []) (mX6_increase l D cI cC cS _ t2 a2 30 u_24 6 interviewer 5 (by decide)) ⟨hx, hb, hml, hown, hts⟩ (cwV 2 hts gX5_noteCall_X6_increase rfl rfl rfl (by decide +kernel) ⟨Nat.le_of_ble_eq_true rfl, Nat.le_of_ble_eq_true rfl⟩) X0_blind (fun _ _ _ => trivial) hP hK hD hS hA hl [2, 5] rfl rfl 0 5 rfl rfl rfl rfl rfl (Nat.le_of_ble_eq_true rfl) dX5_noteCall_116 ⟨Nat.zero_le _, Nat.zero_le _⟩ (fun _ => rfl) (fun u_ H locs hk31 hP hD hS => ?_)
    obtain ⟨u_31, e_u_31⟩ : ∃ z, z = u_ := ⟨_, rfl⟩
    subst e_u_31
    have hP : va_P D vwCl [(h, .inr (4, [.ref t1, .ref t2, .ref t3, .int na, .int ni, .int dy, .int vl, .int db])), (t1, .inr (5, [.ref a1, .int 10])), (t2, .inr (5, [.ref a2, .int 6])), (t3, .inr (5, [.ref a3, .int 3])), (a1, .inl (cI, 240, .inl u_18)), (a2, .inl (cI, 30, .inl u_31)), (a3, .inl (cI, 36, .inl RC))] H := hP
    have hD : va_D Fr [(h, .inr (4, [.ref t1, .ref t2, .ref t3, .int na, .int ni, .int dy, .int vl, .int db])), (t1, .inr (5, [.ref a1, .int 10])), (t2, .inr (5, [.ref a2, .int 6])), (t3, .inr (5, [.ref a3, .int 3])), (a1, .inl (cI, 240, .inl u_18)), (a2, .inl (cI, 30, .inl u_31)), (a3, .inl (cI, 36, .inl RC))] := hD
    refine W.eq (g2 := F0 m 119 ls []) rfl ?_
    exact endV hx hb hr hlk hP hK hD hS dX5_noteCall_119 (u_18, u_31) rfl ((bd1_e hk3).trans ((bd1_e hk6).trans ((bd1_e hk9).trans ((bd1_e hk12).trans ((bd1_e hk15).trans ((bd1_e hk18).trans ((bd1_e hk21).trans ((bd1_e hk24).trans ((bd1_e hk26).trans ((bd1_e hk28).trans ((if_neg c107).trans ((bd1_e hk31).trans rfl))))))))))))

/-- the value of X5_noteVain, path by path -/
def fX5_noteVain (RA : Nat → Int32) (vl : Int32) (address : Int32) : (Nat → Int32) :=
  bd1 (fX6_increase 240 RA 10 address 3) (fun (u_3 : Nat → Int32) => bd1 (fX6_get 240 u_3 10 address 3) (fun (r_5 : Int32) => (if r_5 < vl then u_3 else bd1 (fX6_put 240 u_3 10 address 1 3) (fun (u_8 : Nat → Int32) => u_8))))

set_option maxHeartbeats 4000000 in
set_option maxRecDepth 100000 in
/-- X5_noteVain -/
theorem mX5_noteVain (l : Launch) (D : va_G) (cI cC cS : ClassId) (sz : Nat) (h : Nat) (t1 : Nat) (t2 : Nat) (t3 : Nat) (a1 : Nat) (a2 : Nat) (a3 : Nat) (RA : Nat → Int32) (RI : Nat → Int32) (RC : Nat → Int32) (na : Int32) (ni : Int32) (dy : Int32) (vl : Int32) (db : Int32) (address : Int32)  : Met l yX5_noteVain wsX5_noteVain ({ frames := 2, cells := 0, slots := 0, locals := 46 } : Jvm.Room) (va_Pc [.ref h, .int address] (wPre D (TY cI cC cS) [(h, .inr (4, [.ref t1, .ref t2, .ref t3, .int na, .int ni, .int dy, .int vl, .int db])), (t1, .inr (5, [.ref a1, .int 10])), (t2, .inr (5, [.ref a2, .int 6])), (t3, .inr (5, [.ref a3, .int 3])), (a1, .inl (cI, 240, .inl RA)), (a2, .inl (cI, 30, .inl RI)), (a3, .inl (cI, 36, .inl RC))] sz wN)) (qV D (TY cI cC cS) (fun (u : (Nat → Int32)) => fX5_noteVain RA vl address = u) (fun u => [(h, .inr (4, [.ref t1, .ref t2, .ref t3, .int na, .int ni, .int dy, .int vl, .int db])), (t1, .inr (5, [.ref a1, .int 10])), (t2, .inr (5, [.ref a2, .int 6])), (t3, .inr (5, [.ref a3, .int 3])), (a1, .inl (cI, 240, .inl u)), (a2, .inl (cI, 30, .inl RI)), (a3, .inl (cI, 36, .inl RC))]) (va_A [(h, .inr (4, [.ref t1, .ref t2, .ref t3, .int na, .int ni, .int dy, .int vl, .int db])), (t1, .inr (5, [.ref a1, .int 10])), (t2, .inr (5, [.ref a2, .int 6])), (t3, .inr (5, [.ref a3, .int 3])), (a1, .inl (cI, 240, .inl RA)), (a2, .inl (cI, 30, .inl RI)), (a3, .inl (cI, 36, .inl RC))] sz)) 0 0 (va_A [(h, .inr (4, [.ref t1, .ref t2, .ref t3, .int na, .int ni, .int dy, .int vl, .int db])), (t1, .inr (5, [.ref a1, .int 10])), (t2, .inr (5, [.ref a2, .int 6])), (t3, .inr (5, [.ref a3, .int 3])), (a1, .inl (cI, 240, .inl RA)), (a2, .inl (cI, 30, .inl RI)), (a3, .inl (cI, 36, .inl RC))] sz) := by
  refine mkM (fun Fr => qV D (TY cI cC cS) (fun (u : (Nat → Int32)) => fX5_noteVain RA vl address = u) (fun u => [(h, .inr (4, [.ref t1, .ref t2, .ref t3, .int na, .int ni, .int dy, .int vl, .int db])), (t1, .inr (5, [.ref a1, .int 10])), (t2, .inr (5, [.ref a2, .int 6])), (t3, .inr (5, [.ref a3, .int 3])), (a1, .inl (cI, 240, .inl u)), (a2, .inl (cI, 30, .inl RI)), (a3, .inl (cI, 36, .inl RC))]) Fr) (cc := cX5_noteVain) (maxL := 2) (ret := none) (own := RX5) (lv := [(0, .ref h), (1, .int address)]) (by decide) rfl rfl (Nat.le_of_ble_eq_true rfl) rfl ?_
  intro p e s m below meth c Fr ls hx hb hr hts hown hml hlk hin hP hK hD hS hA hAe hsz hX hl
  have w_1 := hts (.fieldLink RX5 14 "FieldQuotas$Survey" "addressRows" "LFieldQuotas$Table;") (List.mem_of_getElem? (i := 1) rfl)
  have w_2 := sub_r (big := wsX5_noteVain) (u_ws RX5 TX5 8) [20, 21, 22, 23, 24, 25, 26, 27] rfl
  have w_3 := hts (.fieldLink RX5 26 "FieldQuotas$Survey" "vainLimit" "I") (List.mem_of_getElem? (i := 2) rfl)
  refine lv_aload_n hx hb dX5_noteVain_0 rfl (lv_at hl 0 rfl) ?_
  refine va_get (D := D) (ci := 4) (C := RX5) (T := TX5) (N := 8) hx hb hts w_2 hown hK hP 0 rfl rfl 0 (by decide) w_1 (fun _ h9 => h9) rfl dX5_noteVain_1 ?_
  refine lv_iload_n hx hb dX5_noteVain_4 rfl (lv_at hl 1 rfl) ?_
  refine lv_iconst (v := 3) hx hb dX5_noteVain_5 (by decide) ?_
  refine callVv (As := [.int address, .int 3]) (rest := []) (mX6_increase l D cI cC cS _ t1 a1 240 RA 10 address 3 (by decide)) ⟨hx, hb, hml, hown, hts⟩ (cwV 2 hts gX5_noteVain_X6_increase rfl rfl rfl (by decide +kernel) ⟨Nat.le_of_ble_eq_true rfl, Nat.le_of_ble_eq_true rfl⟩) X0_blind (fun _ _ _ => trivial) hP hK hD hS hA hl [1, 4] rfl rfl 0 5 rfl rfl rfl rfl rfl (Nat.le_of_ble_eq_true rfl) dX5_noteVain_6 ⟨Nat.zero_le _, Nat.zero_le _⟩ (fun _ => rfl) (fun u_ H locs hk3 hP hD hS => ?_)
  obtain ⟨u_3, e_u_3⟩ : ∃ z, z = u_ := ⟨_, rfl⟩
  subst e_u_3
  have hP : va_P D vwCl [(h, .inr (4, [.ref t1, .ref t2, .ref t3, .int na, .int ni, .int dy, .int vl, .int db])), (t1, .inr (5, [.ref a1, .int 10])), (t2, .inr (5, [.ref a2, .int 6])), (t3, .inr (5, [.ref a3, .int 3])), (a1, .inl (cI, 240, .inl u_3)), (a2, .inl (cI, 30, .inl RI)), (a3, .inl (cI, 36, .inl RC))] H := hP
  have hD : va_D Fr [(h, .inr (4, [.ref t1, .ref t2, .ref t3, .int na, .int ni, .int dy, .int vl, .int db])), (t1, .inr (5, [.ref a1, .int 10])), (t2, .inr (5, [.ref a2, .int 6])), (t3, .inr (5, [.ref a3, .int 3])), (a1, .inl (cI, 240, .inl u_3)), (a2, .inl (cI, 30, .inl RI)), (a3, .inl (cI, 36, .inl RC))] := hD
  refine W.eq (g2 := F0 m 9 ls []) rfl ?_
  refine lv_aload_n hx hb dX5_noteVain_9 rfl (lv_at hl 0 rfl) ?_
  refine va_get (D := D) (ci := 4) (C := RX5) (T := TX5) (N := 8) hx hb hts w_2 hown hK hP 0 rfl rfl 0 (by decide) w_1 (fun _ h9 => h9) rfl dX5_noteVain_10 ?_
  refine lv_iload_n hx hb dX5_noteVain_13 rfl (lv_at hl 1 rfl) ?_
  refine lv_iconst (v := 3) hx hb dX5_noteVain_14 (by decide) ?_
  refine callVi (As := [.int address, .int 3]) (rest := []) (mX6_get l D cI cC cS _ t1 a1 240 u_3 10 address 3 (by decide)) ⟨hx, hb, hml, hown, hts⟩ (cwV 2 hts gX5_noteVain_X6_get rfl rfl rfl (by decide +kernel) ⟨Nat.le_of_ble_eq_true rfl, Nat.le_of_ble_eq_true rfl⟩) X0_blind (fun _ _ _ => trivial) hP hK hD hS hA hl [1, 4] rfl rfl 0 5 rfl rfl rfl rfl rfl (Nat.le_of_ble_eq_true rfl) dX5_noteVain_15 ⟨Nat.zero_le _, Nat.zero_le _⟩ (fun _ => rfl) (fun u_ H locs hk5 hP hD hS => ?_)
  obtain ⟨r_5, e_r_5⟩ : ∃ z, z = u_ := ⟨_, rfl⟩
  subst e_r_5
  have hP : va_P D vwCl [(h, .inr (4, [.ref t1, .ref t2, .ref t3, .int na, .int ni, .int dy, .int vl, .int db])), (t1, .inr (5, [.ref a1, .int 10])), (t2, .inr (5, [.ref a2, .int 6])), (t3, .inr (5, [.ref a3, .int 3])), (a1, .inl (cI, 240, .inl u_3)), (a2, .inl (cI, 30, .inl RI)), (a3, .inl (cI, 36, .inl RC))] H := hP
  have hD : va_D Fr [(h, .inr (4, [.ref t1, .ref t2, .ref t3, .int na, .int ni, .int dy, .int vl, .int db])), (t1, .inr (5, [.ref a1, .int 10])), (t2, .inr (5, [.ref a2, .int 6])), (t3, .inr (5, [.ref a3, .int 3])), (a1, .inl (cI, 240, .inl u_3)), (a2, .inl (cI, 30, .inl RI)), (a3, .inl (cI, 36, .inl RC))] := hD
  refine W.eq (g2 := F0 m 18 ls [.int r_5]) rfl ?_
  refine lv_aload_n hx hb dX5_noteVain_18 rfl (lv_at hl 0 rfl) ?_
  refine va_get (D := D) (ci := 4) (C := RX5) (T := TX5) (N := 8) hx hb hts w_2 hown hK hP 0 rfl rfl 6 (by decide) w_3 (fun _ h9 => h9) rfl dX5_noteVain_19 ?_
  refine lv_icmp_lt (tgt := 35) hx hb dX5_noteVain_22 (by decide) (fun c22 => ?_) (fun c22 => ?_)
  · exact endV hx hb hr hlk hP hK hD hS dX5_noteVain_35 u_3 rfl ((bd1_e hk3).trans ((bd1_e hk5).trans ((if_pos c22).trans rfl)))
  · refine lv_aload_n hx hb dX5_noteVain_25 rfl (lv_at hl 0 rfl) ?_
    refine va_get (D := D) (ci := 4) (C := RX5) (T := TX5) (N := 8) hx hb hts w_2 hown hK hP 0 rfl rfl 0 (by decide) w_1 (fun _ h9 => h9) rfl dX5_noteVain_26 ?_
    refine lv_iload_n hx hb dX5_noteVain_29 rfl (lv_at hl 1 rfl) ?_
    refine lv_iconst (v := 1) hx hb dX5_noteVain_30 (by decide) ?_
    refine lv_iconst (v := 3) hx hb dX5_noteVain_31 (by decide) ?_
    refine callVv (As := [.int address, .int 1, .int 3]) (rest := []) (mX6_put l D cI cC cS _ t1 a1 240 u_3 10 address 1 3 (by decide)) ⟨hx, hb, hml, hown, hts⟩ (cwV 3 hts gX5_noteVain_X6_put rfl rfl rfl (by decide +kernel) ⟨Nat.le_of_ble_eq_true rfl, Nat.le_of_ble_eq_true rfl⟩) X0_blind (fun _ _ _ => trivial) hP hK hD hS hA hl [1, 4] rfl rfl 0 5 rfl rfl rfl rfl rfl (Nat.le_of_ble_eq_true rfl) dX5_noteVain_32 ⟨Nat.zero_le _, Nat.zero_le _⟩ (fun _ => rfl) (fun u_ H locs hk8 hP hD hS => ?_)
    obtain ⟨u_8, e_u_8⟩ : ∃ z, z = u_ := ⟨_, rfl⟩
    subst e_u_8
    have hP : va_P D vwCl [(h, .inr (4, [.ref t1, .ref t2, .ref t3, .int na, .int ni, .int dy, .int vl, .int db])), (t1, .inr (5, [.ref a1, .int 10])), (t2, .inr (5, [.ref a2, .int 6])), (t3, .inr (5, [.ref a3, .int 3])), (a1, .inl (cI, 240, .inl u_8)), (a2, .inl (cI, 30, .inl RI)), (a3, .inl (cI, 36, .inl RC))] H := hP
    have hD : va_D Fr [(h, .inr (4, [.ref t1, .ref t2, .ref t3, .int na, .int ni, .int dy, .int vl, .int db])), (t1, .inr (5, [.ref a1, .int 10])), (t2, .inr (5, [.ref a2, .int 6])), (t3, .inr (5, [.ref a3, .int 3])), (a1, .inl (cI, 240, .inl u_8)), (a2, .inl (cI, 30, .inl RI)), (a3, .inl (cI, 36, .inl RC))] := hD
    refine W.eq (g2 := F0 m 35 ls []) rfl ?_
    exact endV hx hb hr hlk hP hK hD hS dX5_noteVain_35 u_8 rfl ((bd1_e hk3).trans ((bd1_e hk5).trans ((if_neg c22).trans ((bd1_e hk8).trans rfl))))

/-- the value of X5_noteInterview, path by path -/
def fX5_noteInterview (RA : Nat → Int32) (RI : Nat → Int32) (RC : Nat → Int32) (interviewer : Int32) (address : Int32) (group : Int32) : (Nat → Int32) × (Nat → Int32) × (Nat → Int32) :=
  bd1 (fX6_get 240 RA 10 address 0) (fun (r_2 : Int32) => bd1 (fX5_wantedIn RC r_2 group) (fun (r_4 : Int32) => (if r_4 = 0 then bd1 (fX6_put 240 RA 10 address 1 4) (fun (u_19 : Nat → Int32) => (u_19, RI, RC)) else bd1 (fX6_put 240 RA 10 address 1 1) (fun (u_7 : Nat → Int32) => bd1 (fX6_put 240 u_7 10 address 8 group) (fun (u_10 : Nat → Int32) => bd1 (fX6_increase 30 RI 6 interviewer 4) (fun (u_13 : Nat → Int32) => bd1 (fX6_increase 36 RC 3 ((r_2 * 3) + group) 1) (fun (u_16 : Nat → Int32) => (u_10, u_13, u_16))))))))

set_option maxHeartbeats 4000000 in
set_option maxRecDepth 100000 in
/-- X5_noteInterview -/
theorem mX5_noteInterview (l : Launch) (D : va_G) (cI cC cS : ClassId) (sz : Nat) (h : Nat) (t1 : Nat) (t2 : Nat) (t3 : Nat) (a1 : Nat) (a2 : Nat) (a3 : Nat) (RA : Nat → Int32) (RI : Nat → Int32) (RC : Nat → Int32) (na : Int32) (ni : Int32) (dy : Int32) (vl : Int32) (db : Int32) (interviewer : Int32) (address : Int32) (group : Int32)  : Met l yX5_noteInterview wsX5_noteInterview ({ frames := 2, cells := 0, slots := 0, locals := 47 } : Jvm.Room) (va_Pc [.ref h, .int interviewer, .int address, .int group] (wPre D (TY cI cC cS) [(h, .inr (4, [.ref t1, .ref t2, .ref t3, .int na, .int ni, .int dy, .int vl, .int db])), (t1, .inr (5, [.ref a1, .int 10])), (t2, .inr (5, [.ref a2, .int 6])), (t3, .inr (5, [.ref a3, .int 3])), (a1, .inl (cI, 240, .inl RA)), (a2, .inl (cI, 30, .inl RI)), (a3, .inl (cI, 36, .inl RC))] sz wN)) (qV D (TY cI cC cS) (fun (u : (Nat → Int32) × (Nat → Int32) × (Nat → Int32)) => fX5_noteInterview RA RI RC interviewer address group = u) (fun u => [(h, .inr (4, [.ref t1, .ref t2, .ref t3, .int na, .int ni, .int dy, .int vl, .int db])), (t1, .inr (5, [.ref a1, .int 10])), (t2, .inr (5, [.ref a2, .int 6])), (t3, .inr (5, [.ref a3, .int 3])), (a1, .inl (cI, 240, .inl u.1)), (a2, .inl (cI, 30, .inl u.2.1)), (a3, .inl (cI, 36, .inl u.2.2))]) (va_A [(h, .inr (4, [.ref t1, .ref t2, .ref t3, .int na, .int ni, .int dy, .int vl, .int db])), (t1, .inr (5, [.ref a1, .int 10])), (t2, .inr (5, [.ref a2, .int 6])), (t3, .inr (5, [.ref a3, .int 3])), (a1, .inl (cI, 240, .inl RA)), (a2, .inl (cI, 30, .inl RI)), (a3, .inl (cI, 36, .inl RC))] sz)) 0 0 (va_A [(h, .inr (4, [.ref t1, .ref t2, .ref t3, .int na, .int ni, .int dy, .int vl, .int db])), (t1, .inr (5, [.ref a1, .int 10])), (t2, .inr (5, [.ref a2, .int 6])), (t3, .inr (5, [.ref a3, .int 3])), (a1, .inl (cI, 240, .inl RA)), (a2, .inl (cI, 30, .inl RI)), (a3, .inl (cI, 36, .inl RC))] sz) := by
  refine mkM (fun Fr => qV D (TY cI cC cS) (fun (u : (Nat → Int32) × (Nat → Int32) × (Nat → Int32)) => fX5_noteInterview RA RI RC interviewer address group = u) (fun u => [(h, .inr (4, [.ref t1, .ref t2, .ref t3, .int na, .int ni, .int dy, .int vl, .int db])), (t1, .inr (5, [.ref a1, .int 10])), (t2, .inr (5, [.ref a2, .int 6])), (t3, .inr (5, [.ref a3, .int 3])), (a1, .inl (cI, 240, .inl u.1)), (a2, .inl (cI, 30, .inl u.2.1)), (a3, .inl (cI, 36, .inl u.2.2))]) Fr) (cc := cX5_noteInterview) (maxL := 5) (ret := none) (own := RX5) (lv := [(0, .ref h), (1, .int interviewer), (2, .int address), (3, .int group)]) (by decide) rfl rfl (Nat.le_of_ble_eq_true rfl) rfl ?_
  intro p e s m below meth c Fr ls hx hb hr hts hown hml hlk hin hP hK hD hS hA hAe hsz hX hl
  have w_1 := hts (.fieldLink RX5 14 "FieldQuotas$Survey" "addressRows" "LFieldQuotas$Table;") (List.mem_of_getElem? (i := 1) rfl)
  have w_2 := sub_r (big := wsX5_noteInterview) (u_ws RX5 TX5 8) [26, 27, 28, 29, 30, 31, 32, 33] rfl
  have w_3 := hts (.fieldLink RX5 20 "FieldQuotas$Survey" "interviewerRows" "LFieldQuotas$Table;") (List.mem_of_getElem? (i := 2) rfl)
  have w_4 := hts (.fieldLink RX5 23 "FieldQuotas$Survey" "cellRows" "LFieldQuotas$Table;") (List.mem_of_getElem? (i := 3) rfl)
  refine lv_aload_n hx hb dX5_noteInterview_0 rfl (lv_at hl 0 rfl) ?_
  refine va_get (D := D) (ci := 4) (C := RX5) (T := TX5) (N := 8) hx hb hts w_2 hown hK hP 0 rfl rfl 0 (by decide) w_1 (fun _ h9 => h9) rfl dX5_noteInterview_1 ?_
  refine lv_iload_n hx hb dX5_noteInterview_4 rfl (lv_at hl 2 rfl) ?_
  refine lv_iconst (v := 0) hx hb dX5_noteInterview_5 (by decide) ?_
  refine callVi (As := [.int address, .int 0]) (rest := []) (mX6_get l D cI cC cS _ t1 a1 240 RA 10 address 0 (by decide)) ⟨hx, hb, hml, hown, hts⟩ (cwV 2 hts gX5_noteInterview_X6_get rfl rfl rfl (by decide +kernel) ⟨Nat.le_of_ble_eq_true rfl, Nat.le_of_ble_eq_true rfl⟩) X0_blind (fun _ _ _ => trivial) hP hK hD hS hA hl [1, 4] rfl rfl 0 5 rfl rfl rfl rfl rfl (Nat.le_of_ble_eq_true rfl) dX5_noteInterview_6 ⟨Nat.zero_le _, Nat.zero_le _⟩ (fun _ => rfl) (fun u_ H locs hk2 hP hD hS => ?_)
  obtain ⟨r_2, e_r_2⟩ : ∃ z, z = u_ := ⟨_, rfl⟩
  subst e_r_2
  have hP : va_P D vwCl [(h, .inr (4, [.ref t1, .ref t2, .ref t3, .int na, .int ni, .int dy, .int vl, .int db])), (t1, .inr (5, [.ref a1, .int 10])), (t2, .inr (5, [.ref a2, .int 6])), (t3, .inr (5, [.ref a3, .int 3])), (a1, .inl (cI, 240, .inl RA)), (a2, .inl (cI, 30, .inl RI)), (a3, .inl (cI, 36, .inl RC))] H := hP
  have hD : va_D Fr [(h, .inr (4, [.ref t1, .ref t2, .ref t3, .int na, .int ni, .int dy, .int vl, .int db])), (t1, .inr (5, [.ref a1, .int 10])), (t2, .inr (5, [.ref a2, .int 6])), (t3, .inr (5, [.ref a3, .int 3])), (a1, .inl (cI, 240, .inl RA)), (a2, .inl (cI, 30, .inl RI)), (a3, .inl (cI, 36, .inl RC))] := hD
  refine W.eq (g2 := F0 m 9 ls [.int r_2]) rfl ?_
  refine lv_istore (lv' := [(4, .int r_2), (0, .ref h), (1, .int interviewer), (2, .int address), (3, .int group)]) hx hb dX5_noteInterview_9 hl (by decide) rfl (fun ls hl => ?_)
  refine lv_aload_n hx hb dX5_noteInterview_11 rfl (lv_at hl 1 rfl) ?_
  refine lv_iload hx hb dX5_noteInterview_12 (lv_at hl 0 rfl) ?_
  refine lv_iload_n hx hb dX5_noteInterview_14 rfl (lv_at hl 4 rfl) ?_
  refine callVi (As := [.int r_2, .int group]) (rest := []) (mX5_wantedIn l D cI cC cS _ h t1 t2 t3 a1 a2 a3 RA RI RC na ni dy vl db r_2 group) ⟨hx, hb, hml, hown, hts⟩ (cwV 2 hts gX5_noteInterview_X5_wantedIn rfl rfl rfl (by decide +kernel) ⟨Nat.le_of_ble_eq_true rfl, Nat.le_of_ble_eq_true rfl⟩) wN_blind (fun _ _ hW => wN_warm hW hX) hP hK hD hS hA hl [0, 1, 2, 3, 4, 5, 6] rfl rfl 0 4 rfl rfl rfl rfl rfl (Nat.le_of_ble_eq_true rfl) dX5_noteInterview_15 ⟨Nat.zero_le _, Nat.zero_le _⟩ (fun _ => rfl) (fun u_ H locs hk4 hP hD hS => ?_)
  obtain ⟨r_4, e_r_4⟩ : ∃ z, z = u_ := ⟨_, rfl⟩
  subst e_r_4
  have hP : va_P D vwCl [(h, .inr (4, [.ref t1, .ref t2, .ref t3, .int na, .int ni, .int dy, .int vl, .int db])), (t1, .inr (5, [.ref a1, .int 10])), (t2, .inr (5, [.ref a2, .int 6])), (t3, .inr (5, [.ref a3, .int 3])), (a1, .inl (cI, 240, .inl RA)), (a2, .inl (cI, 30, .inl RI)), (a3, .inl (cI, 36, .inl RC))] H := hP
  have hD : va_D Fr [(h, .inr (4, [.ref t1, .ref t2, .ref t3, .int na, .int ni, .int dy, .int vl, .int db])), (t1, .inr (5, [.ref a1, .int 10])), (t2, .inr (5, [.ref a2, .int 6])), (t3, .inr (5, [.ref a3, .int 3])), (a1, .inl (cI, 240, .inl RA)), (a2, .inl (cI, 30, .inl RI)), (a3, .inl (cI, 36, .inl RC))] := hD
  refine W.eq (g2 := F0 m 18 ls [.int r_4]) rfl ?_
  refine lv_if_ne (tgt := 32) hx hb dX5_noteInterview_18 (by decide) (fun c18 => ?_) (fun c18 => ?_)
  · refine lv_aload_n hx hb dX5_noteInterview_32 rfl (lv_at hl 1 rfl) ?_
    refine va_get (D := D) (ci := 4) (C := RX5) (T := TX5) (N := 8) hx hb hts w_2 hown hK hP 0 rfl rfl 0 (by decide) w_1 (fun _ h9 => h9) rfl dX5_noteInterview_33 ?_
    refine lv_iload_n hx hb dX5_noteInterview_36 rfl (lv_at hl 3 rfl) ?_
    refine lv_iconst (v := 1) hx hb dX5_noteInterview_37 (by decide) ?_
    refine lv_iconst (v := 1) hx hb dX5_noteInterview_38 (by decide) ?_
    refine callVv (As := [.int address, .int 1, .int 1]) (rest := []) (mX6_put l D cI cC cS _ t1 a1 240 RA 10 address 1 1 (by decide)) ⟨hx, hb, hml, hown, hts⟩ (cwV 3 hts gX5_noteInterview_X6_put rfl rfl rfl (by decide +kernel) ⟨Nat.le_of_ble_eq_true rfl, Nat.le_of_ble_eq_true rfl⟩) X0_blind (fun _ _ _ => trivial) hP hK hD hS hA hl [1, 4] rfl rfl 0 5 rfl rfl rfl rfl rfl (Nat.le_of_ble_eq_true rfl) dX5_noteInterview_39 ⟨Nat.zero_le _, Nat.zero_le _⟩ (fun _ => rfl) (fun u_ H locs hk7 hP hD hS => ?_)
    obtain ⟨u_7, e_u_7⟩ : ∃ z, z = u_ := ⟨_, rfl⟩
    subst e_u_7
    have hP : va_P D vwCl [(h, .inr (4, [.ref t1, .ref t2, .ref t3, .int na, .int ni, .int dy, .int vl, .int db])), (t1, .inr (5, [.ref a1, .int 10])), (t2, .inr (5, [.ref a2, .int 6])), (t3, .inr (5, [.ref a3, .int 3])), (a1, .inl (cI, 240, .inl u_7)), (a2, .inl (cI, 30, .inl RI)), (a3, .inl (cI, 36, .inl RC))] H := hP
    have hD : va_D Fr [(h, .inr (4, [.ref t1, .ref t2, .ref t3, .int na, .int ni, .int dy, .int vl, .int db])), (t1, .inr (5, [.ref a1, .int 10])), (t2, .inr (5, [.ref a2, .int 6])), (t3, .inr (5, [.ref a3, .int 3])), (a1, .inl (cI, 240, .inl u_7)), (a2, .inl (cI, 30, .inl RI)), (a3, .inl (cI, 36, .inl RC))] := hD
    refine W.eq (g2 := F0 m 42 ls []) rfl ?_
    refine lv_aload_n hx hb dX5_noteInterview_42 rfl (lv_at hl 1 rfl) ?_
    refine va_get (D := D) (ci := 4) (C := RX5) (T := TX5) (N := 8) hx hb hts w_2 hown hK hP 0 rfl rfl 0 (by decide) w_1 (fun _ h9 => h9) rfl dX5_noteInterview_43 ?_
    refine lv_iload_n hx hb dX5_noteInterview_46 rfl (lv_at hl 3 rfl) ?_
    refine lv_bipush (v := 8) hx hb dX5_noteInterview_47 (by decide) ?_
    refine lv_iload_n hx hb dX5_noteInterview_49 rfl (lv_at hl 4 rfl) ?_
    refine callVv (As := [.int address, .int 8, .int group]) (rest := []) (mX6_put l D cI cC cS _ t1 a1 240 u_7 10 address 8 group (by decide)) ⟨hx, hb, hml, hown, hts⟩ (cwV 3 hts gX5_noteInterview_X6_put rfl rfl rfl (by decide +kernel) ⟨Nat.le_of_ble_eq_true rfl, Nat.le_of_ble_eq_true rfl⟩) X0_blind (fun _ _ _ => trivial) hP hK hD hS hA hl [1, 4] rfl rfl 0 5 rfl rfl rfl rfl rfl (Nat.le_of_ble_eq_true rfl) dX5_noteInterview_50 ⟨Nat.zero_le _, Nat.zero_le _⟩ (fun _ => rfl) (fun u_ H locs hk10 hP hD hS => ?_)
    obtain ⟨u_10, e_u_10⟩ : ∃ z, z = u_ := ⟨_, rfl⟩
    subst e_u_10
    have hP : va_P D vwCl [(h, .inr (4, [.ref t1, .ref t2, .ref t3, .int na, .int ni, .int dy, .int vl, .int db])), (t1, .inr (5, [.ref a1, .int 10])), (t2, .inr (5, [.ref a2, .int 6])), (t3, .inr (5, [.ref a3, .int 3])), (a1, .inl (cI, 240, .inl u_10)), (a2, .inl (cI, 30, .inl RI)), (a3, .inl (cI, 36, .inl RC))] H := hP
    have hD : va_D Fr [(h, .inr (4, [.ref t1, .ref t2, .ref t3, .int na, .int ni, .int dy, .int vl, .int db])), (t1, .inr (5, [.ref a1, .int 10])), (t2, .inr (5, [.ref a2, .int 6])), (t3, .inr (5, [.ref a3, .int 3])), (a1, .inl (cI, 240, .inl u_10)), (a2, .inl (cI, 30, .inl RI)), (a3, .inl (cI, 36, .inl RC))] := hD
    refine W.eq (g2 := F0 m 53 ls []) rfl ?_
    refine lv_aload_n hx hb dX5_noteInterview_53 rfl (lv_at hl 1 rfl) ?_
    refine va_get (D := D) (ci := 4) (C := RX5) (T := TX5) (N := 8) hx hb hts w_2 hown hK hP 0 rfl rfl 1 (by decide) w_3 (fun _ h9 => h9) rfl dX5_noteInterview_54 ?_
    refine lv_iload_n hx hb dX5_noteInterview_57 rfl (lv_at hl 2 rfl) ?_
    refine lv_iconst (v := 4) hx hb dX5_noteInterview_58 (by decide) ?_
    refine callVv (As := [.int interviewer, .int 4]) (rest := []) (mX6_increase l D cI cC cS _ t2 a2 30 RI 6 interviewer 4 (by decide)) ⟨hx, hb, hml, hown, hts⟩ (cwV 2 hts gX5_noteInterview_X6_increase rfl rfl rfl (by decide +kernel) ⟨Nat.le_of_ble_eq_true rfl, Nat.le_of_ble_eq_true rfl⟩) X0_blind (fun _ _ _ => trivial) hP hK hD hS hA hl [2, 5] rfl rfl 0 5 rfl rfl rfl rfl rfl (Nat.le_of_ble_eq_true rfl) dX5_noteInterview_59 ⟨Nat.zero_le _, Nat.zero_le _⟩ (fun _ => rfl) (fun u_ H locs hk13 hP hD hS => ?_)
    obtain ⟨u_13, e_u_13⟩ : ∃ z, z = u_ := ⟨_, rfl⟩
    subst e_u_13
    have hP : va_P D vwCl [(h, .inr (4, [.ref t1, .ref t2, .ref t3, .int na, .int ni, .int dy, .int vl, .int db])), (t1, .inr (5, [.ref a1, .int 10])), (t2, .inr (5, [.ref a2, .int 6])), (t3, .inr (5, [.ref a3, .int 3])), (a1, .inl (cI, 240, .inl u_10)), (a2, .inl (cI, 30, .inl u_13)), (a3, .inl (cI, 36, .inl RC))] H := hP
    have hD : va_D Fr [(h, .inr (4, [.ref t1, .ref t2, .ref t3, .int na, .int ni, .int dy, .int vl, .int db])), (t1, .inr (5, [.ref a1, .int 10])), (t2, .inr (5, [.ref a2, .int 6])), (t3, .inr (5, [.ref a3, .int 3])), (a1, .inl (cI, 240, .inl u_10)), (a2, .inl (cI, 30, .inl u_13)), (a3, .inl (cI, 36, .inl RC))] := hD
    refine W.eq (g2 := F0 m 62 ls []) rfl ?_
    refine lv_aload_n hx hb dX5_noteInterview_62 rfl (lv_at hl 1 rfl) ?_
    refine va_get (D := D) (ci := 4) (C := RX5) (T := TX5) (N := 8) hx hb hts w_2 hown hK hP 0 rfl rfl 2 (by decide) w_4 (fun _ h9 => h9) rfl dX5_noteInterview_63 ?_
    refine lv_iload hx hb dX5_noteInterview_66 (lv_at hl 0 rfl) ?_
    refine lv_iconst (v := 3) hx hb dX5_noteInterview_68 (by decide) ?_
    refine lv_imul hx hb dX5_noteInterview_69 ?_
    refine lv_iload_n hx hb dX5_noteInterview_70 rfl (lv_at hl 4 rfl) ?_
    refine lv_iadd hx hb dX5_noteInterview_71 ?_
    refine lv_iconst (v := 1) hx hb dX5_noteInterview_72 (by decide) ?_
    refine callVv (As := [.int ((r_2 * 3) + group), .int 1]) (rest := []) (mX6_increase l D cI cC cS _ t3 a3 36 RC 3 ((r_2 * 3) + group) 1 (by decide)) ⟨hx, hb, hml, hown, hts⟩ (cwV 2 hts gX5_noteInterview_X6_increase rfl rfl rfl (by decide +kernel) ⟨Nat.le_of_ble_eq_true rfl, Nat.le_of_ble_eq_true rfl⟩) X0_blind (fun _ _ _ => trivial) hP hK hD hS hA hl [3, 6] rfl rfl 0 5 rfl rfl rfl rfl rfl (Nat.le_of_ble_eq_true rfl) dX5_noteInterview_73 ⟨Nat.zero_le _, Nat.zero_le _⟩ (fun _ => rfl) (fun u_ H locs hk16 hP hD hS => ?_)
    obtain ⟨u_16, e_u_16⟩ : ∃ z, z = u_ := ⟨_, rfl⟩
    subst e_u_16
    have hP : va_P D vwCl [(h, .inr (4, [.ref t1, .ref t2, .ref t3, .int na, .int ni, .int dy, .int vl, .int db])), (t1, .inr (5, [.ref a1, .int 10])), (t2, .inr (5, [.ref a2, .int 6])), (t3, .inr (5, [.ref a3, .int 3])), (a1, .inl (cI, 240, .inl u_10)), (a2, .inl (cI, 30, .inl u_13)), (a3, .inl (cI, 36, .inl u_16))] H := hP
    have hD : va_D Fr [(h, .inr (4, [.ref t1, .ref t2, .ref t3, .int na, .int ni, .int dy, .int vl, .int db])), (t1, .inr (5, [.ref a1, .int 10])), (t2, .inr (5, [.ref a2, .int 6])), (t3, .inr (5, [.ref a3, .int 3])), (a1, .inl (cI, 240, .inl u_10)), (a2, .inl (cI, 30, .inl u_13)), (a3, .inl (cI, 36, .inl u_16))] := hD
    refine W.eq (g2 := F0 m 76 ls []) rfl ?_
    exact endV hx hb hr hlk hP hK hD hS dX5_noteInterview_76 (u_10, u_13, u_16) rfl ((bd1_e hk2).trans ((bd1_e hk4).trans ((if_neg c18).trans ((bd1_e hk7).trans ((bd1_e hk10).trans ((bd1_e hk13).trans ((bd1_e hk16).trans rfl)))))))
  · refine lv_aload_n hx hb dX5_noteInterview_21 rfl (lv_at hl 1 rfl) ?_
    refine va_get (D := D) (ci := 4) (C := RX5) (T := TX5) (N := 8) hx hb hts w_2 hown hK hP 0 rfl rfl 0 (by decide) w_1 (fun _ h9 => h9) rfl dX5_noteInterview_22 ?_
    refine lv_iload_n hx hb dX5_noteInterview_25 rfl (lv_at hl 3 rfl) ?_
    refine lv_iconst (v := 1) hx hb dX5_noteInterview_26 (by decide) ?_
    refine lv_iconst (v := 4) hx hb dX5_noteInterview_27 (by decide) ?_
    refine callVv (As := [.int address, .int 1, .int 4]) (rest := []) (mX6_put l D cI cC cS _ t1 a1 240 RA 10 address 1 4 (by decide)) ⟨hx, hb, hml, hown, hts⟩ (cwV 3 hts gX5_noteInterview_X6_put rfl rfl rfl (by decide +kernel) ⟨Nat.le_of_ble_eq_true rfl, Nat.le_of_ble_eq_true rfl⟩) X0_blind (fun _ _ _ => trivial) hP hK hD hS hA hl [1, 4] rfl rfl 0 5 rfl rfl rfl rfl rfl (Nat.le_of_ble_eq_true rfl) dX5_noteInterview_28 ⟨Nat.zero_le _, Nat.zero_le _⟩ (fun _ => rfl) (fun u_ H locs hk19 hP hD hS => ?_)
    obtain ⟨u_19, e_u_19⟩ : ∃ z, z = u_ := ⟨_, rfl⟩
    subst e_u_19
    have hP : va_P D vwCl [(h, .inr (4, [.ref t1, .ref t2, .ref t3, .int na, .int ni, .int dy, .int vl, .int db])), (t1, .inr (5, [.ref a1, .int 10])), (t2, .inr (5, [.ref a2, .int 6])), (t3, .inr (5, [.ref a3, .int 3])), (a1, .inl (cI, 240, .inl u_19)), (a2, .inl (cI, 30, .inl RI)), (a3, .inl (cI, 36, .inl RC))] H := hP
    have hD : va_D Fr [(h, .inr (4, [.ref t1, .ref t2, .ref t3, .int na, .int ni, .int dy, .int vl, .int db])), (t1, .inr (5, [.ref a1, .int 10])), (t2, .inr (5, [.ref a2, .int 6])), (t3, .inr (5, [.ref a3, .int 3])), (a1, .inl (cI, 240, .inl u_19)), (a2, .inl (cI, 30, .inl RI)), (a3, .inl (cI, 36, .inl RC))] := hD
    refine W.eq (g2 := F0 m 31 ls []) rfl ?_
    exact endV hx hb hr hlk hP hK hD hS dX5_noteInterview_31 (u_19, RI, RC) rfl ((bd1_e hk2).trans ((bd1_e hk4).trans ((if_pos c18).trans ((bd1_e hk19).trans rfl))))

/-- the loop of X5_meetings at 4 -/
def fX5_meetings_4 (RA : Nat → Int32) (na : Int32) : Nat → Int32 → Int32 → Int32
  | 0, _, _ => default
  | fu + 1, x1, x2 =>
    (if na ≤ x2 then x1 else bd1 (fX5_isOpen RA x2) (fun (r_2 : Bool) => (if r_2 = true then bd1 (fX5_hasMeeting RA x2) (fun (r_4 : Bool) => (if r_4 = true then fX5_meetings_4 RA na fu (x1 + 1) (x2 + 1) else fX5_meetings_4 RA na fu x1 (x2 + 1))) else fX5_meetings_4 RA na fu x1 (x2 + 1))))
theorem fX5_meetings_4_s (RA : Nat → Int32) (na : Int32) (fu : Nat) (x1 : Int32) (x2 : Int32) : fX5_meetings_4 RA na (fu + 1) x1 x2 =
    (if na ≤ x2 then x1 else bd1 (fX5_isOpen RA x2) (fun (r_2 : Bool) => (if r_2 = true then bd1 (fX5_hasMeeting RA x2) (fun (r_4 : Bool) => (if r_4 = true then fX5_meetings_4 RA na fu (x1 + 1) (x2 + 1) else fX5_meetings_4 RA na fu x1 (x2 + 1))) else fX5_meetings_4 RA na fu x1 (x2 + 1)))) := rfl

/-- the value of X5_meetings, path by path -/
def fX5_meetings (RA : Nat → Int32) (na : Int32) : Int32 :=
  fX5_meetings_4 RA na ((na.toInt - (0 : Int32).toInt).toNat + 1) 0 0

set_option maxHeartbeats 4000000 in
set_option maxRecDepth 100000 in
/-- X5_meetings -/
theorem mX5_meetings (l : Launch) (D : va_G) (cI cC cS : ClassId) (sz : Nat) (h : Nat) (t1 : Nat) (t2 : Nat) (t3 : Nat) (a1 : Nat) (a2 : Nat) (a3 : Nat) (RA : Nat → Int32) (RI : Nat → Int32) (RC : Nat → Int32) (na : Int32) (ni : Int32) (dy : Int32) (vl : Int32) (db : Int32)  : Met l yX5_meetings wsX5_meetings ({ frames := 2, cells := 0, slots := 0, locals := 44 } : Jvm.Room) (va_Pc [.ref h] (wPre D (TY cI cC cS) [(h, .inr (4, [.ref t1, .ref t2, .ref t3, .int na, .int ni, .int dy, .int vl, .int db])), (t1, .inr (5, [.ref a1, .int 10])), (t2, .inr (5, [.ref a2, .int 6])), (t3, .inr (5, [.ref a3, .int 3])), (a1, .inl (cI, 240, .inl RA)), (a2, .inl (cI, 30, .inl RI)), (a3, .inl (cI, 36, .inl RC))] sz wN)) (qI D (TY cI cC cS) (fun (r : Int32) (u : Int32) => fX5_meetings RA na = u ∧ r = u) (fun u => [(h, .inr (4, [.ref t1, .ref t2, .ref t3, .int na, .int ni, .int dy, .int vl, .int db])), (t1, .inr (5, [.ref a1, .int 10])), (t2, .inr (5, [.ref a2, .int 6])), (t3, .inr (5, [.ref a3, .int 3])), (a1, .inl (cI, 240, .inl RA)), (a2, .inl (cI, 30, .inl RI)), (a3, .inl (cI, 36, .inl RC))]) (va_A [(h, .inr (4, [.ref t1, .ref t2, .ref t3, .int na, .int ni, .int dy, .int vl, .int db])), (t1, .inr (5, [.ref a1, .int 10])), (t2, .inr (5, [.ref a2, .int 6])), (t3, .inr (5, [.ref a3, .int 3])), (a1, .inl (cI, 240, .inl RA)), (a2, .inl (cI, 30, .inl RI)), (a3, .inl (cI, 36, .inl RC))] sz)) 0 0 (va_A [(h, .inr (4, [.ref t1, .ref t2, .ref t3, .int na, .int ni, .int dy, .int vl, .int db])), (t1, .inr (5, [.ref a1, .int 10])), (t2, .inr (5, [.ref a2, .int 6])), (t3, .inr (5, [.ref a3, .int 3])), (a1, .inl (cI, 240, .inl RA)), (a2, .inl (cI, 30, .inl RI)), (a3, .inl (cI, 36, .inl RC))] sz) := by
  refine mkM (fun Fr => qI D (TY cI cC cS) (fun (r : Int32) (u : Int32) => fX5_meetings RA na = u ∧ r = u) (fun u => [(h, .inr (4, [.ref t1, .ref t2, .ref t3, .int na, .int ni, .int dy, .int vl, .int db])), (t1, .inr (5, [.ref a1, .int 10])), (t2, .inr (5, [.ref a2, .int 6])), (t3, .inr (5, [.ref a3, .int 3])), (a1, .inl (cI, 240, .inl RA)), (a2, .inl (cI, 30, .inl RI)), (a3, .inl (cI, 36, .inl RC))]) Fr) (cc := cX5_meetings) (maxL := 3) (ret := (some .int)) (own := RX5) (lv := [(0, .ref h)]) (by decide) rfl rfl (Nat.le_of_ble_eq_true rfl) rfl ?_
  intro p e s m below meth c Fr ls hx hb hr hts hown hml hlk hin hP hK hD hS hA hAe hsz hX hl
  have w_1 := hts (.fieldLink RX5 41 "FieldQuotas$Survey" "addressCount" "I") (List.mem_of_getElem? (i := 1) rfl)
  have w_2 := sub_r (big := wsX5_meetings) (u_ws RX5 TX5 8) [19, 20, 21, 22, 23, 24, 25, 26] rfl
  refine lv_iconst (v := 0) hx hb dX5_meetings_0 (by decide) ?_
  refine lv_istore_n (lv' := [(1, .int 0), (0, .ref h)]) hx hb dX5_meetings_1 rfl hl (by decide) rfl (fun ls hl => ?_)
  refine lv_iconst (v := 0) hx hb dX5_meetings_2 (by decide) ?_
  refine lv_istore_n (lv' := [(2, .int 0), (1, .int 0), (0, .ref h)]) hx hb dX5_meetings_3 rfl hl (by decide) rfl (fun ls hl => ?_)
  have K_4 : ∀ (fu : Nat) (x1 : Int32) (x2 : Int32) (H : Heap) (locs : List Loc) (ls : Array Slot), va_P D vwCl [(h, .inr (4, [.ref t1, .ref t2, .ref t3, .int na, .int ni, .int dy, .int vl, .int db])), (t1, .inr (5, [.ref a1, .int 10])), (t2, .inr (5, [.ref a2, .int 6])), (t3, .inr (5, [.ref a3, .int 3])), (a1, .inl (cI, 240, .inl RA)), (a2, .inl (cI, 30, .inl RI)), (a3, .inl (cI, 36, .inl RC))] H → va_D Fr [(h, .inr (4, [.ref t1, .ref t2, .ref t3, .int na, .int ni, .int dy, .int vl, .int db])), (t1, .inr (5, [.ref a1, .int 10])), (t2, .inr (5, [.ref a2, .int 6])), (t3, .inr (5, [.ref a3, .int 3])), (a1, .inl (cI, 240, .inl RA)), (a2, .inl (cI, 30, .inl RI)), (a3, .inl (cI, 36, .inl RC))] → va_S Fr s.heap H locs → lv_has ls 3 [(0, .ref h), (1, .int x1), (2, .int x2)] → (na.toInt - x2.toInt).toNat < fu → fX5_meetings RA na = fX5_meetings_4 RA na fu x1 x2 → W p l e (headSpec wsX5_meetings ({ frames := 2, cells := 0, slots := 0, locals := 44 } : Jvm.Room)).room s m ([.ref h] : List Value).toArray below meth c H locs 0 0 (MQ below (qI D (TY cI cC cS) (fun (r : Int32) (u : Int32) => fX5_meetings RA na = u ∧ r = u) (fun u => [(h, .inr (4, [.ref t1, .ref t2, .ref t3, .int na, .int ni, .int dy, .int vl, .int db])), (t1, .inr (5, [.ref a1, .int 10])), (t2, .inr (5, [.ref a2, .int 6])), (t3, .inr (5, [.ref a3, .int 3])), (a1, .inl (cI, 240, .inl RA)), (a2, .inl (cI, 30, .inl RI)), (a3, .inl (cI, 36, .inl RC))]) Fr) ([.ref h] : List Value).toArray s 0 0 Fr) (F0 m 4 ls []) := by
    intro fu
    induction fu with
    | zero => intros; exact absurd (by assumption) (Nat.not_lt_zero _)
    | succ fu ih_4 =>
      intro x1 x2 H locs ls hP hD hS hl  hm_4 E_4
      refine lv_iload_n hx hb dX5_meetings_4 rfl (lv_at hl 2 rfl) ?_
      refine lv_aload_n hx hb dX5_meetings_5 rfl (lv_at hl 0 rfl) ?_
      refine va_get (D := D) (ci := 4) (C := RX5) (T := TX5) (N := 8) hx hb hts w_2 hown hK hP 0 rfl rfl 3 (by decide) w_1 (fun _ h9 => h9) rfl dX5_meetings_6 ?_
      refine lv_icmp_ge (tgt := 37) hx hb dX5_meetings_9 (by decide) (fun c9 => ?_) (fun c9 => ?_)
      · refine lv_iload_n hx hb dX5_meetings_37 rfl (lv_at hl 1 rfl) ?_
        exact endI hx hb hr hlk hP hK hD hS dX5_meetings_38 x1 rfl ⟨(E_4).trans ((fX5_meetings_4_s RA na fu x1 x2).trans ((if_pos c9).trans rfl)), rfl⟩
      · refine lv_aload_n hx hb dX5_meetings_12 rfl (lv_at hl 0 rfl) ?_
        refine lv_iload_n hx hb dX5_meetings_13 rfl (lv_at hl 2 rfl) ?_
        refine callVi (As := [.int x2]) (rest := []) (mX5_isOpen l D cI cC cS _ h t1 t2 t3 a1 a2 a3 RA RI RC na ni dy vl db x2) ⟨hx, hb, hml, hown, hts⟩ (cwV 1 hts gX5_meetings_X5_isOpen rfl rfl rfl (by decide +kernel) ⟨Nat.le_of_ble_eq_true rfl, Nat.le_of_ble_eq_true rfl⟩) wN_blind (fun _ _ hW => wN_warm hW hX) hP hK hD hS hA hl [0, 1, 2, 3, 4, 5, 6] rfl rfl 0 4 rfl rfl rfl rfl rfl (Nat.le_of_ble_eq_true rfl) dX5_meetings_14 ⟨Nat.zero_le _, Nat.zero_le _⟩ (fun _ => rfl) (fun u_ H locs hk2 hP hD hS => ?_)
        obtain ⟨r_2, e_r_2⟩ : ∃ z, z = u_ := ⟨_, rfl⟩
        subst e_r_2
        have hP : va_P D vwCl [(h, .inr (4, [.ref t1, .ref t2, .ref t3, .int na, .int ni, .int dy, .int vl, .int db])), (t1, .inr (5, [.ref a1, .int 10])), (t2, .inr (5, [.ref a2, .int 6])), (t3, .inr (5, [.ref a3, .int 3])), (a1, .inl (cI, 240, .inl RA)), (a2, .inl (cI, 30, .inl RI)), (a3, .inl (cI, 36, .inl RC))] H := hP
        have hD : va_D Fr [(h, .inr (4, [.ref t1, .ref t2, .ref t3, .int na, .int ni, .int dy, .int vl, .int db])), (t1, .inr (5, [.ref a1, .int 10])), (t2, .inr (5, [.ref a2, .int 6])), (t3, .inr (5, [.ref a3, .int 3])), (a1, .inl (cI, 240, .inl RA)), (a2, .inl (cI, 30, .inl RI)), (a3, .inl (cI, 36, .inl RC))] := hD
        refine W.eq (g2 := F0 m 17 ls [.int (bi r_2)]) rfl ?_
        refine lv_if_eq (tgt := 31) hx hb dX5_meetings_17 (by decide) (fun c17 => ?_) (fun c17 => ?_)
        · refine lv_iinc (v := x2 + 1) (lv' := [(2, .int (x2 + 1)), (0, .ref h), (1, .int x1)]) hx hb dX5_meetings_31 hl (k := 2) rfl (by rfl) (by decide) rfl (fun ls hl => ?_)
          refine lv_goto (tgt := 4) hx hb dX5_meetings_34 (by decide) ?_
          exact ih_4 x1 (x2 + 1) _ _ ls hP hD hS (lv_sub hl [1, 2, 0] rfl) (Nat.lt_of_lt_of_le (lp_dec c9) (Nat.le_of_lt_succ hm_4)) ((E_4).trans ((fX5_meetings_4_s RA na fu x1 x2).trans ((if_neg c9).trans ((bd1_e hk2).trans ((if_neg (bi_z c17)).trans rfl)))))
        · refine lv_aload_n hx hb dX5_meetings_20 rfl (lv_at hl 0 rfl) ?_
          refine lv_iload_n hx hb dX5_meetings_21 rfl (lv_at hl 2 rfl) ?_
          refine callVi (As := [.int x2]) (rest := []) (mX5_hasMeeting l D cI cC cS _ h t1 t2 t3 a1 a2 a3 RA RI RC na ni dy vl db x2) ⟨hx, hb, hml, hown, hts⟩ (cwV 1 hts gX5_meetings_X5_hasMeeting rfl rfl rfl (by decide +kernel) ⟨Nat.le_of_ble_eq_true rfl, Nat.le_of_ble_eq_true rfl⟩) wN_blind (fun _ _ hW => wN_warm hW hX) hP hK hD hS hA hl [0, 1, 2, 3, 4, 5, 6] rfl rfl 0 4 rfl rfl rfl rfl rfl (Nat.le_of_ble_eq_true rfl) dX5_meetings_22 ⟨Nat.zero_le _, Nat.zero_le _⟩ (fun _ => rfl) (fun u_ H locs hk4 hP hD hS => ?_)
          obtain ⟨r_4, e_r_4⟩ : ∃ z, z = u_ := ⟨_, rfl⟩
          subst e_r_4
          have hP : va_P D vwCl [(h, .inr (4, [.ref t1, .ref t2, .ref t3, .int na, .int ni, .int dy, .int vl, .int db])), (t1, .inr (5, [.ref a1, .int 10])), (t2, .inr (5, [.ref a2, .int 6])), (t3, .inr (5, [.ref a3, .int 3])), (a1, .inl (cI, 240, .inl RA)), (a2, .inl (cI, 30, .inl RI)), (a3, .inl (cI, 36, .inl RC))] H := hP
          have hD : va_D Fr [(h, .inr (4, [.ref t1, .ref t2, .ref t3, .int na, .int ni, .int dy, .int vl, .int db])), (t1, .inr (5, [.ref a1, .int 10])), (t2, .inr (5, [.ref a2, .int 6])), (t3, .inr (5, [.ref a3, .int 3])), (a1, .inl (cI, 240, .inl RA)), (a2, .inl (cI, 30, .inl RI)), (a3, .inl (cI, 36, .inl RC))] := hD
          refine W.eq (g2 := F0 m 25 ls [.int (bi r_4)]) rfl ?_
          refine lv_if_eq (tgt := 31) hx hb dX5_meetings_25 (by decide) (fun c25 => ?_) (fun c25 => ?_)
          · refine lv_iinc (v := x2 + 1) (lv' := [(2, .int (x2 + 1)), (0, .ref h), (1, .int x1)]) hx hb dX5_meetings_31 hl (k := 2) rfl (by rfl) (by decide) rfl (fun ls hl => ?_)
            refine lv_goto (tgt := 4) hx hb dX5_meetings_34 (by decide) ?_
            exact ih_4 x1 (x2 + 1) _ _ ls hP hD hS (lv_sub hl [1, 2, 0] rfl) (Nat.lt_of_lt_of_le (lp_dec c9) (Nat.le_of_lt_succ hm_4)) ((E_4).trans ((fX5_meetings_4_s RA na fu x1 x2).trans ((if_neg c9).trans ((bd1_e hk2).trans ((if_pos (bi_o c17)).trans ((bd1_e hk4).trans ((if_neg (bi_z c25)).trans rfl)))))))
          · refine lv_iinc (v := x1 + 1) (lv' := [(1, .int (x1 + 1)), (0, .ref h), (2, .int x2)]) hx hb dX5_meetings_28 hl (k := 1) rfl (by rfl) (by decide) rfl (fun ls hl => ?_)
            refine lv_iinc (v := x2 + 1) (lv' := [(2, .int (x2 + 1)), (1, .int (x1 + 1)), (0, .ref h)]) hx hb dX5_meetings_31 hl (k := 2) rfl (by rfl) (by decide) rfl (fun ls hl => ?_)
            refine lv_goto (tgt := 4) hx hb dX5_meetings_34 (by decide) ?_
            exact ih_4 (x1 + 1) (x2 + 1) _ _ ls hP hD hS (lv_sub hl [2, 1, 0] rfl) (Nat.lt_of_lt_of_le (lp_dec c9) (Nat.le_of_lt_succ hm_4)) ((E_4).trans ((fX5_meetings_4_s RA na fu x1 x2).trans ((if_neg c9).trans ((bd1_e hk2).trans ((if_pos (bi_o c17)).trans ((bd1_e hk4).trans ((if_pos (bi_o c25)).trans rfl)))))))
  exact K_4 ((na.toInt - (0 : Int32).toInt).toNat + 1) 0 0 _ _ ls hP hD hS (lv_sub hl [2, 1, 0] rfl) (Nat.lt_succ_self _) rfl

/-- the value of X5_makeCall, path by path -/
def fX5_makeCall (RA : Nat → Int32) (RI : Nat → Int32) (RC : Nat → Int32) (na : Int32) (ni : Int32) (dy : Int32) (vl : Int32) (db : Int32) (interviewer : Int32) (address : Int32) (time : Int32) (what : Int32) : Int32 × (Nat → Int32) × (Nat → Int32) × (Nat → Int32) :=
  bd1 (fX5_isCallNamed na ni interviewer address time) (fun (r_2 : Bool) => (if r_2 = true then bd1 (fX8_isWithin what 0 4) (fun (r_4 : Bool) => (if r_4 = true then bd1 (fX5_isPossible RA RI dy db interviewer address time) (fun (r_6 : Bool) => (if r_6 = true then bd2 (fX5_noteCall RA RI dy interviewer address time) (fun (u_9 : Nat → Int32) (u_10 : Nat → Int32) => (if what = 0 then bd1 (fX5_noteVain u_9 vl address) (fun (u_25 : Nat → Int32) => bd1 (fX6_get 240 u_25 10 address 1) (fun (r_27 : Int32) => (r_27, u_25, u_10, RC))) else (if what = 1 then bd1 (fX6_put 240 u_9 10 address 1 2) (fun (u_20 : Nat → Int32) => bd1 (fX6_get 240 u_20 10 address 1) (fun (r_22 : Int32) => (r_22, u_20, u_10, RC))) else bd3 (fX5_noteInterview u_9 u_10 RC interviewer address (what - 2)) (fun (u_13 : Nat → Int32) (u_14 : Nat → Int32) (u_15 : Nat → Int32) => bd1 (fX6_get 240 u_13 10 address 1) (fun (r_17 : Int32) => (r_17, u_13, u_14, u_15)))))) else ((-2), RA, RI, RC))) else ((-1), RA, RI, RC))) else ((-1), RA, RI, RC)))

set_option maxHeartbeats 4000000 in
set_option maxRecDepth 100000 in
/-- X5_makeCall -/
theorem mX5_makeCall (l : Launch) (D : va_G) (cI cC cS : ClassId) (sz : Nat) (h : Nat) (t1 : Nat) (t2 : Nat) (t3 : Nat) (a1 : Nat) (a2 : Nat) (a3 : Nat) (RA : Nat → Int32) (RI : Nat → Int32) (RC : Nat → Int32) (na : Int32) (ni : Int32) (dy : Int32) (vl : Int32) (db : Int32) (interviewer : Int32) (address : Int32) (time : Int32) (what : Int32)  : Met l yX5_makeCall wsX5_makeCall ({ frames := 3, cells := 0, slots := 0, locals := 71 } : Jvm.Room) (va_Pc [.ref h, .int interviewer, .int address, .int time, .int what] (wPre D (TY cI cC cS) [(h, .inr (4, [.ref t1, .ref t2, .ref t3, .int na, .int ni, .int dy, .int vl, .int db])), (t1, .inr (5, [.ref a1, .int 10])), (t2, .inr (5, [.ref a2, .int 6])), (t3, .inr (5, [.ref a3, .int 3])), (a1, .inl (cI, 240, .inl RA)), (a2, .inl (cI, 30, .inl RI)), (a3, .inl (cI, 36, .inl RC))] sz wN)) (qI D (TY cI cC cS) (fun (r : Int32) (u : Int32 × (Nat → Int32) × (Nat → Int32) × (Nat → Int32)) => fX5_makeCall RA RI RC na ni dy vl db interviewer address time what = u ∧ r = u.1) (fun u => [(h, .inr (4, [.ref t1, .ref t2, .ref t3, .int na, .int ni, .int dy, .int vl, .int db])), (t1, .inr (5, [.ref a1, .int 10])), (t2, .inr (5, [.ref a2, .int 6])), (t3, .inr (5, [.ref a3, .int 3])), (a1, .inl (cI, 240, .inl u.2.1)), (a2, .inl (cI, 30, .inl u.2.2.1)), (a3, .inl (cI, 36, .inl u.2.2.2))]) (va_A [(h, .inr (4, [.ref t1, .ref t2, .ref t3, .int na, .int ni, .int dy, .int vl, .int db])), (t1, .inr (5, [.ref a1, .int 10])), (t2, .inr (5, [.ref a2, .int 6])), (t3, .inr (5, [.ref a3, .int 3])), (a1, .inl (cI, 240, .inl RA)), (a2, .inl (cI, 30, .inl RI)), (a3, .inl (cI, 36, .inl RC))] sz)) 0 0 (va_A [(h, .inr (4, [.ref t1, .ref t2, .ref t3, .int na, .int ni, .int dy, .int vl, .int db])), (t1, .inr (5, [.ref a1, .int 10])), (t2, .inr (5, [.ref a2, .int 6])), (t3, .inr (5, [.ref a3, .int 3])), (a1, .inl (cI, 240, .inl RA)), (a2, .inl (cI, 30, .inl RI)), (a3, .inl (cI, 36, .inl RC))] sz) := by
  refine mkM (fun Fr => qI D (TY cI cC cS) (fun (r : Int32) (u : Int32 × (Nat → Int32) × (Nat → Int32) × (Nat → Int32)) => fX5_makeCall RA RI RC na ni dy vl db interviewer address time what = u ∧ r = u.1) (fun u => [(h, .inr (4, [.ref t1, .ref t2, .ref t3, .int na, .int ni, .int dy, .int vl, .int db])), (t1, .inr (5, [.ref a1, .int 10])), (t2, .inr (5, [.ref a2, .int 6])), (t3, .inr (5, [.ref a3, .int 3])), (a1, .inl (cI, 240, .inl u.2.1)), (a2, .inl (cI, 30, .inl u.2.2.1)), (a3, .inl (cI, 36, .inl u.2.2.2))]) Fr) (cc := cX5_makeCall) (maxL := 5) (ret := (some .int)) (own := RX5) (lv := [(0, .ref h), (1, .int interviewer), (2, .int address), (3, .int time), (4, .int what)]) (by decide) rfl rfl (Nat.le_of_ble_eq_true rfl) rfl ?_
  intro p e s m below meth c Fr ls hx hb hr hts hown hml hlk hin hP hK hD hS hA hAe hsz hX hl
  have w_1 := hts (.fieldLink RX5 14 "FieldQuotas$Survey" "addressRows" "LFieldQuotas$Table;") (List.mem_of_getElem? (i := 1) rfl)
  have w_2 := sub_r (big := wsX5_makeCall) (u_ws RX5 TX5 8) [73, 74, 75, 76, 77, 78, 79, 80] rfl
  refine lv_aload_n hx hb dX5_makeCall_0 rfl (lv_at hl 0 rfl) ?_
  refine lv_iload_n hx hb dX5_makeCall_1 rfl (lv_at hl 1 rfl) ?_
  refine lv_iload_n hx hb dX5_makeCall_2 rfl (lv_at hl 2 rfl) ?_
  refine lv_iload_n hx hb dX5_makeCall_3 rfl (lv_at hl 3 rfl) ?_
  refine callVi (As := [.int interviewer, .int address, .int time]) (rest := []) (mX5_isCallNamed l D cI cC cS _ h t1 t2 t3 a1 a2 a3 RA RI RC na ni dy vl db interviewer address time) ⟨hx, hb, hml, hown, hts⟩ (cwV 3 hts gX5_makeCall_X5_isCallNamed rfl rfl rfl (by decide +kernel) ⟨Nat.le_of_ble_eq_true rfl, Nat.le_of_ble_eq_true rfl⟩) wN_blind (fun _ _ hW => wN_warm hW hX) hP hK hD hS hA hl [0, 1, 2, 3, 4, 5, 6] rfl rfl 0 4 rfl rfl rfl rfl rfl (Nat.le_of_ble_eq_true rfl) dX5_makeCall_4 ⟨Nat.zero_le _, Nat.zero_le _⟩ (fun _ => rfl) (fun u_ H locs hk2 hP hD hS => ?_)
  obtain ⟨r_2, e_r_2⟩ : ∃ z, z = u_ := ⟨_, rfl⟩
  subst e_r_2
  have hP : va_P D vwCl [(h, .inr (4, [.ref t1, .ref t2, .ref t3, .int na, .int ni, .int dy, .int vl, .int db])), (t1, .inr (5, [.ref a1, .int 10])), (t2, .inr (5, [.ref a2, .int 6])), (t3, .inr (5, [.ref a3, .int 3])), (a1, .inl (cI, 240, .inl RA)), (a2, .inl (cI, 30, .inl RI)), (a3, .inl (cI, 36, .inl RC))] H := hP
  have hD : va_D Fr [(h, .inr (4, [.ref t1, .ref t2, .ref t3, .int na, .int ni, .int dy, .int vl, .int db])), (t1, .inr (5, [.ref a1, .int 10])), (t2, .inr (5, [.ref a2, .int 6])), (t3, .inr (5, [.ref a3, .int 3])), (a1, .inl (cI, 240, .inl RA)), (a2, .inl (cI, 30, .inl RI)), (a3, .inl (cI, 36, .inl RC))] := hD
  refine W.eq (g2 := F0 m 7 ls [.int (bi r_2)]) rfl ?_
  refine lv_if_eq (tgt := 20) hx hb dX5_makeCall_7 (by decide) (fun c7 => ?_) (fun c7 => ?_)
  · refine lv_iconst (v := (-1)) hx hb dX5_makeCall_20 (by decide) ?_
    exact endI hx hb hr hlk hP hK hD hS dX5_makeCall_21 ((-1), RA, RI, RC) rfl ⟨(bd1_e hk2).trans ((if_neg (bi_z c7)).trans rfl), rfl⟩
  · refine lv_iload hx hb dX5_makeCall_10 (lv_at hl 4 rfl) ?_
    refine lv_iconst (v := 0) hx hb dX5_makeCall_12 (by decide) ?_
    refine lv_iconst (v := 4) hx hb dX5_makeCall_13 (by decide) ?_
    refine callNi (As := [.int what, .int 0, .int 4]) (rest := []) (mX8_isWithin l D cI cC cS _ what 0 4) ⟨hx, hb, hml, hown, hts⟩ (⟨va_cnB 3 hts gX5_makeCall_X8_isWithin_n50 rfl rfl rfl hX.2.1 (hts (.initialized RX8) (List.mem_of_getElem? (i := 13) rfl)) (by decide +kernel) ⟨Nat.le_of_ble_eq_true rfl, Nat.le_of_ble_eq_true rfl⟩, hts (.static yX8_isWithin) (List.mem_of_getElem? (i := 12) rfl), trivial⟩) hP hK hD hS hA hl rfl rfl (Nat.le_of_ble_eq_true rfl) dX5_makeCall_14 ⟨Nat.zero_le _, Nat.zero_le _⟩ (fun u_ H locs hk4 hP hS => ?_)
    obtain ⟨r_4, e_r_4⟩ : ∃ z, z = u_ := ⟨_, rfl⟩
    subst e_r_4
    refine W.eq (g2 := F0 m 17 ls [.int (bi r_4)]) rfl ?_
    refine lv_if_ne (tgt := 22) hx hb dX5_makeCall_17 (by decide) (fun c17 => ?_) (fun c17 => ?_)
    · refine lv_aload_n hx hb dX5_makeCall_22 rfl (lv_at hl 0 rfl) ?_
      refine lv_iload_n hx hb dX5_makeCall_23 rfl (lv_at hl 1 rfl) ?_
      refine lv_iload_n hx hb dX5_makeCall_24 rfl (lv_at hl 2 rfl) ?_
      refine lv_iload_n hx hb dX5_makeCall_25 rfl (lv_at hl 3 rfl) ?_
      refine callVi (As := [.int interviewer, .int address, .int time]) (rest := []) (mX5_isPossible l D cI cC cS _ h t1 t2 t3 a1 a2 a3 RA RI RC na ni dy vl db interviewer address time) ⟨hx, hb, hml, hown, hts⟩ (cwV 3 hts gX5_makeCall_X5_isPossible rfl rfl rfl (by decide +kernel) ⟨Nat.le_of_ble_eq_true rfl, Nat.le_of_ble_eq_true rfl⟩) wN_blind (fun _ _ hW => wN_warm hW hX) hP hK hD hS hA hl [0, 1, 2, 3, 4, 5, 6] rfl rfl 0 4 rfl rfl rfl rfl rfl (Nat.le_of_ble_eq_true rfl) dX5_makeCall_26 ⟨Nat.zero_le _, Nat.zero_le _⟩ (fun _ => rfl) (fun u_ H locs hk6 hP hD hS => ?_)
      obtain ⟨r_6, e_r_6⟩ : ∃ z, z = u_ := ⟨_, rfl⟩
      subst e_r_6
      have hP : va_P D vwCl [(h, .inr (4, [.ref t1, .ref t2, .ref t3, .int na, .int ni, .int dy, .int vl, .int db])), (t1, .inr (5, [.ref a1, .int 10])), (t2, .inr (5, [.ref a2, .int 6])), (t3, .inr (5, [.ref a3, .int 3])), (a1, .inl (cI, 240, .inl RA)), (a2, .inl (cI, 30, .inl RI)), (a3, .inl (cI, 36, .inl RC))] H := hP
      have hD : va_D Fr [(h, .inr (4, [.ref t1, .ref t2, .ref t3, .int na, .int ni, .int dy, .int vl, .int db])), (t1, .inr (5, [.ref a1, .int 10])), (t2, .inr (5, [.ref a2, .int 6])), (t3, .inr (5, [.ref a3, .int 3])), (a1, .inl (cI, 240, .inl RA)), (a2, .inl (cI, 30, .inl RI)), (a3, .inl (cI, 36, .inl RC))] := hD
      refine W.eq (g2 := F0 m 29 ls [.int (bi r_6)]) rfl ?_
      refine lv_if_ne (tgt := 35) hx hb dX5_makeCall_29 (by decide) (fun c29 => ?_) (fun c29 => ?_)
      · refine lv_aload_n hx hb dX5_makeCall_35 rfl (lv_at hl 0 rfl) ?_
        refine lv_iload_n hx hb dX5_makeCall_36 rfl (lv_at hl 1 rfl) ?_
        refine lv_iload_n hx hb dX5_makeCall_37 rfl (lv_at hl 2 rfl) ?_
        refine lv_iload_n hx hb dX5_makeCall_38 rfl (lv_at hl 3 rfl) ?_
        refine callVv (As := [.int interviewer, .int address, .int time]) (rest := []) (mX5_noteCall l D cI cC cS _ h t1 t2 t3 a1 a2 a3 RA RI RC na ni dy vl db interviewer address time) ⟨hx, hb, hml, hown, hts⟩ (cwV 3 hts gX5_makeCall_X5_noteCall rfl rfl rfl (by decide +kernel) ⟨Nat.le_of_ble_eq_true rfl, Nat.le_of_ble_eq_true rfl⟩) wN_blind (fun _ _ hW => wN_warm hW hX) hP hK hD hS hA hl [0, 1, 2, 3, 4, 5, 6] rfl rfl 0 4 rfl rfl rfl rfl rfl (Nat.le_of_ble_eq_true rfl) dX5_makeCall_39 ⟨Nat.zero_le _, Nat.zero_le _⟩ (fun _ => rfl) (fun u_ H locs hk10 hP hD hS => ?_)
        obtain ⟨u_9, u_10⟩ := u_
        have hP : va_P D vwCl [(h, .inr (4, [.ref t1, .ref t2, .ref t3, .int na, .int ni, .int dy, .int vl, .int db])), (t1, .inr (5, [.ref a1, .int 10])), (t2, .inr (5, [.ref a2, .int 6])), (t3, .inr (5, [.ref a3, .int 3])), (a1, .inl (cI, 240, .inl u_9)), (a2, .inl (cI, 30, .inl u_10)), (a3, .inl (cI, 36, .inl RC))] H := hP
        have hD : va_D Fr [(h, .inr (4, [.ref t1, .ref t2, .ref t3, .int na, .int ni, .int dy, .int vl, .int db])), (t1, .inr (5, [.ref a1, .int 10])), (t2, .inr (5, [.ref a2, .int 6])), (t3, .inr (5, [.ref a3, .int 3])), (a1, .inl (cI, 240, .inl u_9)), (a2, .inl (cI, 30, .inl u_10)), (a3, .inl (cI, 36, .inl RC))] := hD
        refine W.eq (g2 := F0 m 42 ls []) rfl ?_
        refine lv_iload hx hb dX5_makeCall_42 (lv_at hl 4 rfl) ?_
        refine lv_if_ne (tgt := 55) hx hb dX5_makeCall_44 (by decide) (fun c44 => ?_) (fun c44 => ?_)
        · refine lv_iload hx hb dX5_makeCall_55 (lv_at hl 4 rfl) ?_
          refine lv_iconst (v := 1) hx hb dX5_makeCall_57 (by decide) ?_
          refine lv_icmp_ne (tgt := 74) hx hb dX5_makeCall_58 (by decide) (fun c58 => ?_) (fun c58 => ?_)
          · refine lv_aload_n hx hb dX5_makeCall_74 rfl (lv_at hl 0 rfl) ?_
            refine lv_iload_n hx hb dX5_makeCall_75 rfl (lv_at hl 1 rfl) ?_
            refine lv_iload_n hx hb dX5_makeCall_76 rfl (lv_at hl 2 rfl) ?_
            refine lv_iload hx hb dX5_makeCall_77 (lv_at hl 4 rfl) ?_
            refine lv_iconst (v := 2) hx hb dX5_makeCall_79 (by decide) ?_
            refine lv_isub hx hb dX5_makeCall_80 ?_
            refine callVv (As := [.int interviewer, .int address, .int (what - 2)]) (rest := []) (mX5_noteInterview l D cI cC cS _ h t1 t2 t3 a1 a2 a3 u_9 u_10 RC na ni dy vl db interviewer address (what - 2)) ⟨hx, hb, hml, hown, hts⟩ (cwV 3 hts gX5_makeCall_X5_noteInterview rfl rfl rfl (by decide +kernel) ⟨Nat.le_of_ble_eq_true rfl, Nat.le_of_ble_eq_true rfl⟩) wN_blind (fun _ _ hW => wN_warm hW hX) hP hK hD hS hA hl [0, 1, 2, 3, 4, 5, 6] rfl rfl 0 4 rfl rfl rfl rfl rfl (Nat.le_of_ble_eq_true rfl) dX5_makeCall_81 ⟨Nat.zero_le _, Nat.zero_le _⟩ (fun _ => rfl) (fun u_ H locs hk15 hP hD hS => ?_)
            obtain ⟨u_13, u_14, u_15⟩ := u_
            have hP : va_P D vwCl [(h, .inr (4, [.ref t1, .ref t2, .ref t3, .int na, .int ni, .int dy, .int vl, .int db])), (t1, .inr (5, [.ref a1, .int 10])), (t2, .inr (5, [.ref a2, .int 6])), (t3, .inr (5, [.ref a3, .int 3])), (a1, .inl (cI, 240, .inl u_13)), (a2, .inl (cI, 30, .inl u_14)), (a3, .inl (cI, 36, .inl u_15))] H := hP
            have hD : va_D Fr [(h, .inr (4, [.ref t1, .ref t2, .ref t3, .int na, .int ni, .int dy, .int vl, .int db])), (t1, .inr (5, [.ref a1, .int 10])), (t2, .inr (5, [.ref a2, .int 6])), (t3, .inr (5, [.ref a3, .int 3])), (a1, .inl (cI, 240, .inl u_13)), (a2, .inl (cI, 30, .inl u_14)), (a3, .inl (cI, 36, .inl u_15))] := hD
            refine W.eq (g2 := F0 m 84 ls []) rfl ?_
            refine lv_aload_n hx hb dX5_makeCall_84 rfl (lv_at hl 0 rfl) ?_
            refine va_get (D := D) (ci := 4) (C := RX5) (T := TX5) (N := 8) hx hb hts w_2 hown hK hP 0 rfl rfl 0 (by decide) w_1 (fun _ h9 => h9) rfl dX5_makeCall_85 ?_
            refine lv_iload_n hx hb dX5_makeCall_88 rfl (lv_at hl 2 rfl) ?_
            refine lv_iconst (v := 1) hx hb dX5_makeCall_89 (by decide) ?_
            refine callVi (As := [.int address, .int 1]) (rest := []) (mX6_get l D cI cC cS _ t1 a1 240 u_13 10 address 1 (by decide)) ⟨hx, hb, hml, hown, hts⟩ (cwV 2 hts gX5_makeCall_X6_get rfl rfl rfl (by decide +kernel) ⟨Nat.le_of_ble_eq_true rfl, Nat.le_of_ble_eq_true rfl⟩) X0_blind (fun _ _ _ => trivial) hP hK hD hS hA hl [1, 4] rfl rfl 0 5 rfl rfl rfl rfl rfl (Nat.le_of_ble_eq_true rfl) dX5_makeCall_90 ⟨Nat.zero_le _, Nat.zero_le _⟩ (fun _ => rfl) (fun u_ H locs hk17 hP hD hS => ?_)
            obtain ⟨r_17, e_r_17⟩ : ∃ z, z = u_ := ⟨_, rfl⟩
            subst e_r_17
            have hP : va_P D vwCl [(h, .inr (4, [.ref t1, .ref t2, .ref t3, .int na, .int ni, .int dy, .int vl, .int db])), (t1, .inr (5, [.ref a1, .int 10])), (t2, .inr (5, [.ref a2, .int 6])), (t3, .inr (5, [.ref a3, .int 3])), (a1, .inl (cI, 240, .inl u_13)), (a2, .inl (cI, 30, .inl u_14)), (a3, .inl (cI, 36, .inl u_15))] H := hP
            have hD : va_D Fr [(h, .inr (4, [.ref t1, .ref t2, .ref t3, .int na, .int ni, .int dy, .int vl, .int db])), (t1, .inr (5, [.ref a1, .int 10])), (t2, .inr (5, [.ref a2, .int 6])), (t3, .inr (5, [.ref a3, .int 3])), (a1, .inl (cI, 240, .inl u_13)), (a2, .inl (cI, 30, .inl u_14)), (a3, .inl (cI, 36, .inl u_15))] := hD
            refine W.eq (g2 := F0 m 93 ls [.int r_17]) rfl ?_
            exact endI hx hb hr hlk hP hK hD hS dX5_makeCall_93 (r_17, u_13, u_14, u_15) rfl ⟨(bd1_e hk2).trans ((if_pos (bi_o c7)).trans ((bd1_e hk4).trans ((if_pos (bi_o c17)).trans ((bd1_e hk6).trans ((if_pos (bi_o c29)).trans ((bd2_e hk10).trans ((if_neg c44).trans ((if_neg c58).trans ((bd3_e hk15).trans ((bd1_e hk17).trans rfl)))))))))), rfl⟩
          · refine lv_aload_n hx hb dX5_makeCall_61 rfl (lv_at hl 0 rfl) ?_
            refine va_get (D := D) (ci := 4) (C := RX5) (T := TX5) (N := 8) hx hb hts w_2 hown hK hP 0 rfl rfl 0 (by decide) w_1 (fun _ h9 => h9) rfl dX5_makeCall_62 ?_
            refine lv_iload_n hx hb dX5_makeCall_65 rfl (lv_at hl 2 rfl) ?_
            refine lv_iconst (v := 1) hx hb dX5_makeCall_66 (by decide) ?_
            refine lv_iconst (v := 2) hx hb dX5_makeCall_67 (by decide) ?_
            refine callVv (As := [.int address, .int 1, .int 2]) (rest := []) (mX6_put l D cI cC cS _ t1 a1 240 u_9 10 address 1 2 (by decide)) ⟨hx, hb, hml, hown, hts⟩ (cwV 3 hts gX5_makeCall_X6_put rfl rfl rfl (by decide +kernel) ⟨Nat.le_of_ble_eq_true rfl, Nat.le_of_ble_eq_true rfl⟩) X0_blind (fun _ _ _ => trivial) hP hK hD hS hA hl [1, 4] rfl rfl 0 5 rfl rfl rfl rfl rfl (Nat.le_of_ble_eq_true rfl) dX5_makeCall_68 ⟨Nat.zero_le _, Nat.zero_le _⟩ (fun _ => rfl) (fun u_ H locs hk20 hP hD hS => ?_)
            obtain ⟨u_20, e_u_20⟩ : ∃ z, z = u_ := ⟨_, rfl⟩
            subst e_u_20
            have hP : va_P D vwCl [(h, .inr (4, [.ref t1, .ref t2, .ref t3, .int na, .int ni, .int dy, .int vl, .int db])), (t1, .inr (5, [.ref a1, .int 10])), (t2, .inr (5, [.ref a2, .int 6])), (t3, .inr (5, [.ref a3, .int 3])), (a1, .inl (cI, 240, .inl u_20)), (a2, .inl (cI, 30, .inl u_10)), (a3, .inl (cI, 36, .inl RC))] H := hP
            have hD : va_D Fr [(h, .inr (4, [.ref t1, .ref t2, .ref t3, .int na, .int ni, .int dy, .int vl, .int db])), (t1, .inr (5, [.ref a1, .int 10])), (t2, .inr (5, [.ref a2, .int 6])), (t3, .inr (5, [.ref a3, .int 3])), (a1, .inl (cI, 240, .inl u_20)), (a2, .inl (cI, 30, .inl u_10)), (a3, .inl (cI, 36, .inl RC))] := hD
            refine W.eq (g2 := F0 m 71 ls []) rfl ?_
            refine lv_goto (tgt := 84) hx hb dX5_makeCall_71 (by decide) ?_
            refine lv_aload_n hx hb dX5_makeCall_84 rfl (lv_at hl 0 rfl) ?_
            refine va_get (D := D) (ci := 4) (C := RX5) (T := TX5) (N := 8) hx hb hts w_2 hown hK hP 0 rfl rfl 0 (by decide) w_1 (fun _ h9 => h9) rfl dX5_makeCall_85 ?_
            refine lv_iload_n hx hb dX5_makeCall_88 rfl (lv_at hl 2 rfl) ?_
            refine lv_iconst (v := 1) hx hb dX5_makeCall_89 (by decide) ?_
            refine callVi (As := [.int address, .int 1]) (rest := []) (mX6_get l D cI cC cS _ t1 a1 240 u_20 10 address 1 (by decide)) ⟨hx, hb, hml, hown, hts⟩ (cwV 2 hts gX5_makeCall_X6_get rfl rfl rfl (by decide +kernel) ⟨Nat.le_of_ble_eq_true rfl, Nat.le_of_ble_eq_true rfl⟩) X0_blind (fun _ _ _ => trivial) hP hK hD hS hA hl [1, 4] rfl rfl 0 5 rfl rfl rfl rfl rfl (Nat.le_of_ble_eq_true rfl) dX5_makeCall_90 ⟨Nat.zero_le _, Nat.zero_le _⟩ (fun _ => rfl) (fun u_ H locs hk22 hP hD hS => ?_)
            obtain ⟨r_22, e_r_22⟩ : ∃ z, z = u_ := ⟨_, rfl⟩
            subst e_r_22
            have hP : va_P D vwCl [(h, .inr (4, [.ref t1, .ref t2, .ref t3, .int na, .int ni, .int dy, .int vl, .int db])), (t1, .inr (5, [.ref a1, .int 10])), (t2, .inr (5, [.ref a2, .int 6])), (t3, .inr (5, [.ref a3, .int 3])), (a1, .inl (cI, 240, .inl u_20)), (a2, .inl (cI, 30, .inl u_10)), (a3, .inl (cI, 36, .inl RC))] H := hP
            have hD : va_D Fr [(h, .inr (4, [.ref t1, .ref t2, .ref t3, .int na, .int ni, .int dy, .int vl, .int db])), (t1, .inr (5, [.ref a1, .int 10])), (t2, .inr (5, [.ref a2, .int 6])), (t3, .inr (5, [.ref a3, .int 3])), (a1, .inl (cI, 240, .inl u_20)), (a2, .inl (cI, 30, .inl u_10)), (a3, .inl (cI, 36, .inl RC))] := hD
            refine W.eq (g2 := F0 m 93 ls [.int r_22]) rfl ?_
            exact endI hx hb hr hlk hP hK hD hS dX5_makeCall_93 (r_22, u_20, u_10, RC) rfl ⟨(bd1_e hk2).trans ((if_pos (bi_o c7)).trans ((bd1_e hk4).trans ((if_pos (bi_o c17)).trans ((bd1_e hk6).trans ((if_pos (bi_o c29)).trans ((bd2_e hk10).trans ((if_neg c44).trans ((if_pos c58).trans ((bd1_e hk20).trans ((bd1_e hk22).trans rfl)))))))))), rfl⟩
        · refine lv_aload_n hx hb dX5_makeCall_47 rfl (lv_at hl 0 rfl) ?_
          refine lv_iload_n hx hb dX5_makeCall_48 rfl (lv_at hl 2 rfl) ?_
          refine callVv (As := [.int address]) (rest := []) (mX5_noteVain l D cI cC cS _ h t1 t2 t3 a1 a2 a3 u_9 u_10 RC na ni dy vl db address) ⟨hx, hb, hml, hown, hts⟩ (cwV 1 hts gX5_makeCall_X5_noteVain rfl rfl rfl (by decide +kernel) ⟨Nat.le_of_ble_eq_true rfl, Nat.le_of_ble_eq_true rfl⟩) wN_blind (fun _ _ hW => wN_warm hW hX) hP hK hD hS hA hl [0, 1, 2, 3, 4, 5, 6] rfl rfl 0 4 rfl rfl rfl rfl rfl (Nat.le_of_ble_eq_true rfl) dX5_makeCall_49 ⟨Nat.zero_le _, Nat.zero_le _⟩ (fun _ => rfl) (fun u_ H locs hk25 hP hD hS => ?_)
          obtain ⟨u_25, e_u_25⟩ : ∃ z, z = u_ := ⟨_, rfl⟩
          subst e_u_25
          have hP : va_P D vwCl [(h, .inr (4, [.ref t1, .ref t2, .ref t3, .int na, .int ni, .int dy, .int vl, .int db])), (t1, .inr (5, [.ref a1, .int 10])), (t2, .inr (5, [.ref a2, .int 6])), (t3, .inr (5, [.ref a3, .int 3])), (a1, .inl (cI, 240, .inl u_25)), (a2, .inl (cI, 30, .inl u_10)), (a3, .inl (cI, 36, .inl RC))] H := hP
          have hD : va_D Fr [(h, .inr (4, [.ref t1, .ref t2, .ref t3, .int na, .int ni, .int dy, .int vl, .int db])), (t1, .inr (5, [.ref a1, .int 10])), (t2, .inr (5, [.ref a2, .int 6])), (t3, .inr (5, [.ref a3, .int 3])), (a1, .inl (cI, 240, .inl u_25)), (a2, .inl (cI, 30, .inl u_10)), (a3, .inl (cI, 36, .inl RC))] := hD
          refine W.eq (g2 := F0 m 52 ls []) rfl ?_
          refine lv_goto (tgt := 84) hx hb dX5_makeCall_52 (by decide) ?_
          refine lv_aload_n hx hb dX5_makeCall_84 rfl (lv_at hl 0 rfl) ?_
          refine va_get (D := D) (ci := 4) (C := RX5) (T := TX5) (N := 8) hx hb hts w_2 hown hK hP 0 rfl rfl 0 (by decide) w_1 (fun _ h9 => h9) rfl dX5_makeCall_85 ?_
          refine lv_iload_n hx hb dX5_makeCall_88 rfl (lv_at hl 2 rfl) ?_
          refine lv_iconst (v := 1) hx hb dX5_makeCall_89 (by decide) ?_
          refine callVi (As := [.int address, .int 1]) (rest := []) (mX6_get l D cI cC cS _ t1 a1 240 u_25 10 address 1 (by decide)) ⟨hx, hb, hml, hown, hts⟩ (cwV 2 hts gX5_makeCall_X6_get rfl rfl rfl (by decide +kernel) ⟨Nat.le_of_ble_eq_true rfl, Nat.le_of_ble_eq_true rfl⟩) X0_blind (fun _ _ _ => trivial) hP hK hD hS hA hl [1, 4] rfl rfl 0 5 rfl rfl rfl rfl rfl (Nat.le_of_ble_eq_true rfl) dX5_makeCall_90 ⟨Nat.zero_le _, Nat.zero_le _⟩ (fun _ => rfl) (fun u_ H locs hk27 hP hD hS => ?_)
          obtain ⟨r_27, e_r_27⟩ : ∃ z, z = u_ := ⟨_, rfl⟩
          subst e_r_27
          have hP : va_P D vwCl [(h, .inr (4, [.ref t1, .ref t2, .ref t3, .int na, .int ni, .int dy, .int vl, .int db])), (t1, .inr (5, [.ref a1, .int 10])), (t2, .inr (5, [.ref a2, .int 6])), (t3, .inr (5, [.ref a3, .int 3])), (a1, .inl (cI, 240, .inl u_25)), (a2, .inl (cI, 30, .inl u_10)), (a3, .inl (cI, 36, .inl RC))] H := hP
          have hD : va_D Fr [(h, .inr (4, [.ref t1, .ref t2, .ref t3, .int na, .int ni, .int dy, .int vl, .int db])), (t1, .inr (5, [.ref a1, .int 10])), (t2, .inr (5, [.ref a2, .int 6])), (t3, .inr (5, [.ref a3, .int 3])), (a1, .inl (cI, 240, .inl u_25)), (a2, .inl (cI, 30, .inl u_10)), (a3, .inl (cI, 36, .inl RC))] := hD
          refine W.eq (g2 := F0 m 93 ls [.int r_27]) rfl ?_
          exact endI hx hb hr hlk hP hK hD hS dX5_makeCall_93 (r_27, u_25, u_10, RC) rfl ⟨(bd1_e hk2).trans ((if_pos (bi_o c7)).trans ((bd1_e hk4).trans ((if_pos (bi_o c17)).trans ((bd1_e hk6).trans ((if_pos (bi_o c29)).trans ((bd2_e hk10).trans ((if_pos c44).trans ((bd1_e hk25).trans ((bd1_e hk27).trans rfl))))))))), rfl⟩
      · refine lv_bipush (v := (-2)) hx hb dX5_makeCall_32 (by decide) ?_
        exact endI hx hb hr hlk hP hK hD hS dX5_makeCall_34 ((-2), RA, RI, RC) rfl ⟨(bd1_e hk2).trans ((if_pos (bi_o c7)).trans ((bd1_e hk4).trans ((if_pos (bi_o c17)).trans ((bd1_e hk6).trans ((if_neg (bi_z c29)).trans rfl))))), rfl⟩
    · refine lv_iconst (v := (-1)) hx hb dX5_makeCall_20 (by decide) ?_
      exact endI hx hb hr hlk hP hK hD hS dX5_makeCall_21 ((-1), RA, RI, RC) rfl ⟨(bd1_e hk2).trans ((if_pos (bi_o c7)).trans ((bd1_e hk4).trans ((if_neg (bi_z c17)).trans rfl))), rfl⟩

/-- the value of X5_makeMeeting, path by path -/
def fX5_makeMeeting (RA : Nat → Int32) (RI : Nat → Int32) (na : Int32) (ni : Int32) (dy : Int32) (db : Int32) (interviewer : Int32) (address : Int32) (time : Int32) (meetingDay : Int32) (meetingTime : Int32) : Int32 × (Nat → Int32) × (Nat → Int32) :=
  bd1 (fX5_isCallNamed na ni interviewer address time) (fun (r_2 : Bool) => (if r_2 = true then bd1 (fX8_isWithin meetingDay 0 999) (fun (r_4 : Bool) => (if r_4 = true then bd1 (fX8_isTime meetingTime) (fun (r_6 : Bool) => (if r_6 = true then (if meetingDay ≤ dy then ((-2), RA, RI) else bd1 (fX5_isPossible RA RI dy db interviewer address time) (fun (r_8 : Bool) => (if r_8 = true then bd2 (fX5_noteCall RA RI dy interviewer address time) (fun (u_11 : Nat → Int32) (u_12 : Nat → Int32) => bd1 (fX6_put 240 u_11 10 address 6 meetingDay) (fun (u_15 : Nat → Int32) => bd1 (fX6_put 240 u_15 10 address 7 meetingTime) (fun (u_18 : Nat → Int32) => bd1 (fX5_meetings u_18 na) (fun (r_20 : Int32) => (r_20, u_18, u_12))))) else ((-2), RA, RI)))) else ((-1), RA, RI))) else ((-1), RA, RI))) else ((-1), RA, RI)))

set_option maxHeartbeats 4000000 in
set_option maxRecDepth 100000 in
/-- X5_makeMeeting -/
theorem mX5_makeMeeting (l : Launch) (D : va_G) (cI cC cS : ClassId) (sz : Nat) (h : Nat) (t1 : Nat) (t2 : Nat) (t3 : Nat) (a1 : Nat) (a2 : Nat) (a3 : Nat) (RA : Nat → Int32) (RI : Nat → Int32) (RC : Nat → Int32) (na : Int32) (ni : Int32) (dy : Int32) (vl : Int32) (db : Int32) (interviewer : Int32) (address : Int32) (time : Int32) (meetingDay : Int32) (meetingTime : Int32)  : Met l yX5_makeMeeting wsX5_makeMeeting ({ frames := 3, cells := 0, slots := 0, locals := 71 } : Jvm.Room) (va_Pc [.ref h, .int interviewer, .int address, .int time, .int meetingDay, .int meetingTime] (wPre D (TY cI cC cS) [(h, .inr (4, [.ref t1, .ref t2, .ref t3, .int na, .int ni, .int dy, .int vl, .int db])), (t1, .inr (5, [.ref a1, .int 10])), (t2, .inr (5, [.ref a2, .int 6])), (t3, .inr (5, [.ref a3, .int 3])), (a1, .inl (cI, 240, .inl RA)), (a2, .inl (cI, 30, .inl RI)), (a3, .inl (cI, 36, .inl RC))] sz wN)) (qI D (TY cI cC cS) (fun (r : Int32) (u : Int32 × (Nat → Int32) × (Nat → Int32)) => fX5_makeMeeting RA RI na ni dy db interviewer address time meetingDay meetingTime = u ∧ r = u.1) (fun u => [(h, .inr (4, [.ref t1, .ref t2, .ref t3, .int na, .int ni, .int dy, .int vl, .int db])), (t1, .inr (5, [.ref a1, .int 10])), (t2, .inr (5, [.ref a2, .int 6])), (t3, .inr (5, [.ref a3, .int 3])), (a1, .inl (cI, 240, .inl u.2.1)), (a2, .inl (cI, 30, .inl u.2.2)), (a3, .inl (cI, 36, .inl RC))]) (va_A [(h, .inr (4, [.ref t1, .ref t2, .ref t3, .int na, .int ni, .int dy, .int vl, .int db])), (t1, .inr (5, [.ref a1, .int 10])), (t2, .inr (5, [.ref a2, .int 6])), (t3, .inr (5, [.ref a3, .int 3])), (a1, .inl (cI, 240, .inl RA)), (a2, .inl (cI, 30, .inl RI)), (a3, .inl (cI, 36, .inl RC))] sz)) 0 0 (va_A [(h, .inr (4, [.ref t1, .ref t2, .ref t3, .int na, .int ni, .int dy, .int vl, .int db])), (t1, .inr (5, [.ref a1, .int 10])), (t2, .inr (5, [.ref a2, .int 6])), (t3, .inr (5, [.ref a3, .int 3])), (a1, .inl (cI, 240, .inl RA)), (a2, .inl (cI, 30, .inl RI)), (a3, .inl (cI, 36, .inl RC))] sz) := by
  refine mkM (fun Fr => qI D (TY cI cC cS) (fun (r : Int32) (u : Int32 × (Nat → Int32) × (Nat → Int32)) => fX5_makeMeeting RA RI na ni dy db interviewer address time meetingDay meetingTime = u ∧ r = u.1) (fun u => [(h, .inr (4, [.ref t1, .ref t2, .ref t3, .int na, .int ni, .int dy, .int vl, .int db])), (t1, .inr (5, [.ref a1, .int 10])), (t2, .inr (5, [.ref a2, .int 6])), (t3, .inr (5, [.ref a3, .int 3])), (a1, .inl (cI, 240, .inl u.2.1)), (a2, .inl (cI, 30, .inl u.2.2)), (a3, .inl (cI, 36, .inl RC))]) Fr) (cc := cX5_makeMeeting) (maxL := 6) (ret := (some .int)) (own := RX5) (lv := [(0, .ref h), (1, .int interviewer), (2, .int address), (3, .int time), (4, .int meetingDay), (5, .int meetingTime)]) (by decide) rfl rfl (Nat.le_of_ble_eq_true rfl) rfl ?_
  intro p e s m below meth c Fr ls hx hb hr hts hown hml hlk hin hP hK hD hS hA hAe hsz hX hl
  have w_1 := hts (.fieldLink RX5 47 "FieldQuotas$Survey" "day" "I") (List.mem_of_getElem? (i := 1) rfl)
  have w_2 := sub_r (big := wsX5_makeMeeting) (u_ws RX5 TX5 8) [67, 68, 69, 70, 71, 72, 73, 74] rfl
  have w_3 := hts (.fieldLink RX5 14 "FieldQuotas$Survey" "addressRows" "LFieldQuotas$Table;") (List.mem_of_getElem? (i := 2) rfl)
  refine lv_aload_n hx hb dX5_makeMeeting_0 rfl (lv_at hl 0 rfl) ?_
  refine lv_iload_n hx hb dX5_makeMeeting_1 rfl (lv_at hl 1 rfl) ?_
  refine lv_iload_n hx hb dX5_makeMeeting_2 rfl (lv_at hl 2 rfl) ?_
  refine lv_iload_n hx hb dX5_makeMeeting_3 rfl (lv_at hl 3 rfl) ?_
  refine callVi (As := [.int interviewer, .int address, .int time]) (rest := []) (mX5_isCallNamed l D cI cC cS _ h t1 t2 t3 a1 a2 a3 RA RI RC na ni dy vl db interviewer address time) ⟨hx, hb, hml, hown, hts⟩ (cwV 3 hts gX5_makeMeeting_X5_isCallNamed rfl rfl rfl (by decide +kernel) ⟨Nat.le_of_ble_eq_true rfl, Nat.le_of_ble_eq_true rfl⟩) wN_blind (fun _ _ hW => wN_warm hW hX) hP hK hD hS hA hl [0, 1, 2, 3, 4, 5, 6] rfl rfl 0 4 rfl rfl rfl rfl rfl (Nat.le_of_ble_eq_true rfl) dX5_makeMeeting_4 ⟨Nat.zero_le _, Nat.zero_le _⟩ (fun _ => rfl) (fun u_ H locs hk2 hP hD hS => ?_)
  obtain ⟨r_2, e_r_2⟩ : ∃ z, z = u_ := ⟨_, rfl⟩
  subst e_r_2
  have hP : va_P D vwCl [(h, .inr (4, [.ref t1, .ref t2, .ref t3, .int na, .int ni, .int dy, .int vl, .int db])), (t1, .inr (5, [.ref a1, .int 10])), (t2, .inr (5, [.ref a2, .int 6])), (t3, .inr (5, [.ref a3, .int 3])), (a1, .inl (cI, 240, .inl RA)), (a2, .inl (cI, 30, .inl RI)), (a3, .inl (cI, 36, .inl RC))] H := hP
  have hD : va_D Fr [(h, .inr (4, [.ref t1, .ref t2, .ref t3, .int na, .int ni, .int dy, .int vl, .int db])), (t1, .inr (5, [.ref a1, .int 10])), (t2, .inr (5, [.ref a2, .int 6])), (t3, .inr (5, [.ref a3, .int 3])), (a1, .inl (cI, 240, .inl RA)), (a2, .inl (cI, 30, .inl RI)), (a3, .inl (cI, 36, .inl RC))] := hD
  refine W.eq (g2 := F0 m 7 ls [.int (bi r_2)]) rfl ?_
  refine lv_if_eq (tgt := 30) hx hb dX5_makeMeeting_7 (by decide) (fun c7 => ?_) (fun c7 => ?_)
  · refine lv_iconst (v := (-1)) hx hb dX5_makeMeeting_30 (by decide) ?_
    exact endI hx hb hr hlk hP hK hD hS dX5_makeMeeting_31 ((-1), RA, RI) rfl ⟨(bd1_e hk2).trans ((if_neg (bi_z c7)).trans rfl), rfl⟩
  · refine lv_iload hx hb dX5_makeMeeting_10 (lv_at hl 4 rfl) ?_
    refine lv_iconst (v := 0) hx hb dX5_makeMeeting_12 (by decide) ?_
    refine lv_sipush (v := 999) hx hb dX5_makeMeeting_13 (by decide) ?_
    refine callNi (As := [.int meetingDay, .int 0, .int 999]) (rest := []) (mX8_isWithin l D cI cC cS _ meetingDay 0 999) ⟨hx, hb, hml, hown, hts⟩ (⟨va_cnB 3 hts gX5_makeMeeting_X8_isWithin_n50 rfl rfl rfl hX.2.1 (hts (.initialized RX8) (List.mem_of_getElem? (i := 14) rfl)) (by decide +kernel) ⟨Nat.le_of_ble_eq_true rfl, Nat.le_of_ble_eq_true rfl⟩, hts (.static yX8_isWithin) (List.mem_of_getElem? (i := 13) rfl), trivial⟩) hP hK hD hS hA hl rfl rfl (Nat.le_of_ble_eq_true rfl) dX5_makeMeeting_16 ⟨Nat.zero_le _, Nat.zero_le _⟩ (fun u_ H locs hk4 hP hS => ?_)
    obtain ⟨r_4, e_r_4⟩ : ∃ z, z = u_ := ⟨_, rfl⟩
    subst e_r_4
    refine W.eq (g2 := F0 m 19 ls [.int (bi r_4)]) rfl ?_
    refine lv_if_eq (tgt := 30) hx hb dX5_makeMeeting_19 (by decide) (fun c19 => ?_) (fun c19 => ?_)
    · refine lv_iconst (v := (-1)) hx hb dX5_makeMeeting_30 (by decide) ?_
      exact endI hx hb hr hlk hP hK hD hS dX5_makeMeeting_31 ((-1), RA, RI) rfl ⟨(bd1_e hk2).trans ((if_pos (bi_o c7)).trans ((bd1_e hk4).trans ((if_neg (bi_z c19)).trans rfl))), rfl⟩
    · refine lv_iload hx hb dX5_makeMeeting_22 (lv_at hl 5 rfl) ?_
      refine callNi (As := [.int meetingTime]) (rest := []) (mX8_isTime l D cI cC cS _ meetingTime) ⟨hx, hb, hml, hown, hts⟩ (⟨va_cnB 1 hts gX5_makeMeeting_X8_isTime_n89 rfl rfl rfl hX.2.2.2.1 (hts (.initialized RX8) (List.mem_of_getElem? (i := 14) rfl)) (by decide +kernel) ⟨Nat.le_of_ble_eq_true rfl, Nat.le_of_ble_eq_true rfl⟩, hts (.static yX8_isTime) (List.mem_of_getElem? (i := 21) rfl), trivial⟩) hP hK hD hS hA hl rfl rfl (Nat.le_of_ble_eq_true rfl) dX5_makeMeeting_24 ⟨Nat.zero_le _, Nat.zero_le _⟩ (fun u_ H locs hk6 hP hS => ?_)
      obtain ⟨r_6, e_r_6⟩ : ∃ z, z = u_ := ⟨_, rfl⟩
      subst e_r_6
      refine W.eq (g2 := F0 m 27 ls [.int (bi r_6)]) rfl ?_
      refine lv_if_ne (tgt := 32) hx hb dX5_makeMeeting_27 (by decide) (fun c27 => ?_) (fun c27 => ?_)
      · refine lv_iload hx hb dX5_makeMeeting_32 (lv_at hl 4 rfl) ?_
        refine lv_aload_n hx hb dX5_makeMeeting_34 rfl (lv_at hl 0 rfl) ?_
        refine va_get (D := D) (ci := 4) (C := RX5) (T := TX5) (N := 8) hx hb hts w_2 hown hK hP 0 rfl rfl 5 (by decide) w_1 (fun _ h9 => h9) rfl dX5_makeMeeting_35 ?_
        refine lv_icmp_le (tgt := 51) hx hb dX5_makeMeeting_38 (by decide) (fun c38 => ?_) (fun c38 => ?_)
        · refine lv_bipush (v := (-2)) hx hb dX5_makeMeeting_51 (by decide) ?_
          exact endI hx hb hr hlk hP hK hD hS dX5_makeMeeting_53 ((-2), RA, RI) rfl ⟨(bd1_e hk2).trans ((if_pos (bi_o c7)).trans ((bd1_e hk4).trans ((if_pos (bi_o c19)).trans ((bd1_e hk6).trans ((if_pos (bi_o c27)).trans ((if_pos c38).trans rfl)))))), rfl⟩
        · refine lv_aload_n hx hb dX5_makeMeeting_41 rfl (lv_at hl 0 rfl) ?_
          refine lv_iload_n hx hb dX5_makeMeeting_42 rfl (lv_at hl 1 rfl) ?_
          refine lv_iload_n hx hb dX5_makeMeeting_43 rfl (lv_at hl 2 rfl) ?_
          refine lv_iload_n hx hb dX5_makeMeeting_44 rfl (lv_at hl 3 rfl) ?_
          refine callVi (As := [.int interviewer, .int address, .int time]) (rest := []) (mX5_isPossible l D cI cC cS _ h t1 t2 t3 a1 a2 a3 RA RI RC na ni dy vl db interviewer address time) ⟨hx, hb, hml, hown, hts⟩ (cwV 3 hts gX5_makeMeeting_X5_isPossible rfl rfl rfl (by decide +kernel) ⟨Nat.le_of_ble_eq_true rfl, Nat.le_of_ble_eq_true rfl⟩) wN_blind (fun _ _ hW => wN_warm hW hX) hP hK hD hS hA hl [0, 1, 2, 3, 4, 5, 6] rfl rfl 0 4 rfl rfl rfl rfl rfl (Nat.le_of_ble_eq_true rfl) dX5_makeMeeting_45 ⟨Nat.zero_le _, Nat.zero_le _⟩ (fun _ => rfl) (fun u_ H locs hk8 hP hD hS => ?_)
          obtain ⟨r_8, e_r_8⟩ : ∃ z, z = u_ := ⟨_, rfl⟩
          subst e_r_8
          have hP : va_P D vwCl [(h, .inr (4, [.ref t1, .ref t2, .ref t3, .int na, .int ni, .int dy, .int vl, .int db])), (t1, .inr (5, [.ref a1, .int 10])), (t2, .inr (5, [.ref a2, .int 6])), (t3, .inr (5, [.ref a3, .int 3])), (a1, .inl (cI, 240, .inl RA)), (a2, .inl (cI, 30, .inl RI)), (a3, .inl (cI, 36, .inl RC))] H := hP
          have hD : va_D Fr [(h, .inr (4, [.ref t1, .ref t2, .ref t3, .int na, .int ni, .int dy, .int vl, .int db])), (t1, .inr (5, [.ref a1, .int 10])), (t2, .inr (5, [.ref a2, .int 6])), (t3, .inr (5, [.ref a3, .int 3])), (a1, .inl (cI, 240, .inl RA)), (a2, .inl (cI, 30, .inl RI)), (a3, .inl (cI, 36, .inl RC))] := hD
          refine W.eq (g2 := F0 m 48 ls [.int (bi r_8)]) rfl ?_
          refine lv_if_ne (tgt := 54) hx hb dX5_makeMeeting_48 (by decide) (fun c48 => ?_) (fun c48 => ?_)
          · refine lv_aload_n hx hb dX5_makeMeeting_54 rfl (lv_at hl 0 rfl) ?_
            refine lv_iload_n hx hb dX5_makeMeeting_55 rfl (lv_at hl 1 rfl) ?_
            refine lv_iload_n hx hb dX5_makeMeeting_56 rfl (lv_at hl 2 rfl) ?_
            refine lv_iload_n hx hb dX5_makeMeeting_57 rfl (lv_at hl 3 rfl) ?_
            refine callVv (As := [.int interviewer, .int address, .int time]) (rest := []) (mX5_noteCall l D cI cC cS _ h t1 t2 t3 a1 a2 a3 RA RI RC na ni dy vl db interviewer address time) ⟨hx, hb, hml, hown, hts⟩ (cwV 3 hts gX5_makeMeeting_X5_noteCall rfl rfl rfl (by decide +kernel) ⟨Nat.le_of_ble_eq_true rfl, Nat.le_of_ble_eq_true rfl⟩) wN_blind (fun _ _ hW => wN_warm hW hX) hP hK hD hS hA hl [0, 1, 2, 3, 4, 5, 6] rfl rfl 0 4 rfl rfl rfl rfl rfl (Nat.le_of_ble_eq_true rfl) dX5_makeMeeting_58 ⟨Nat.zero_le _, Nat.zero_le _⟩ (fun _ => rfl) (fun u_ H locs hk12 hP hD hS => ?_)
            obtain ⟨u_11, u_12⟩ := u_
            have hP : va_P D vwCl [(h, .inr (4, [.ref t1, .ref t2, .ref t3, .int na, .int ni, .int dy, .int vl, .int db])), (t1, .inr (5, [.ref a1, .int 10])), (t2, .inr (5, [.ref a2, .int 6])), (t3, .inr (5, [.ref a3, .int 3])), (a1, .inl (cI, 240, .inl u_11)), (a2, .inl (cI, 30, .inl u_12)), (a3, .inl (cI, 36, .inl RC))] H := hP
            have hD : va_D Fr [(h, .inr (4, [.ref t1, .ref t2, .ref t3, .int na, .int ni, .int dy, .int vl, .int db])), (t1, .inr (5, [.ref a1, .int 10])), (t2, .inr (5, [.ref a2, .int 6])), (t3, .inr (5, [.ref a3, .int 3])), (a1, .inl (cI, 240, .inl u_11)), (a2, .inl (cI, 30, .inl u_12)), (a3, .inl (cI, 36, .inl RC))] := hD
            refine W.eq (g2 := F0 m 61 ls []) rfl ?_
            refine lv_aload_n hx hb dX5_makeMeeting_61 rfl (lv_at hl 0 rfl) ?_
            refine va_get (D := D) (ci := 4) (C := RX5) (T := TX5) (N := 8) hx hb hts w_2 hown hK hP 0 rfl rfl 0 (by decide) w_3 (fun _ h9 => h9) rfl dX5_makeMeeting_62 ?_
            refine lv_iload_n hx hb dX5_makeMeeting_65 rfl (lv_at hl 2 rfl) ?_
            refine lv_bipush (v := 6) hx hb dX5_makeMeeting_66 (by decide) ?_
            refine lv_iload hx hb dX5_makeMeeting_68 (lv_at hl 4 rfl) ?_
            refine callVv (As := [.int address, .int 6, .int meetingDay]) (rest := []) (mX6_put l D cI cC cS _ t1 a1 240 u_11 10 address 6 meetingDay (by decide)) ⟨hx, hb, hml, hown, hts⟩ (cwV 3 hts gX5_makeMeeting_X6_put rfl rfl rfl (by decide +kernel) ⟨Nat.le_of_ble_eq_true rfl, Nat.le_of_ble_eq_true rfl⟩) X0_blind (fun _ _ _ => trivial) hP hK hD hS hA hl [1, 4] rfl rfl 0 5 rfl rfl rfl rfl rfl (Nat.le_of_ble_eq_true rfl) dX5_makeMeeting_70 ⟨Nat.zero_le _, Nat.zero_le _⟩ (fun _ => rfl) (fun u_ H locs hk15 hP hD hS => ?_)
            obtain ⟨u_15, e_u_15⟩ : ∃ z, z = u_ := ⟨_, rfl⟩
            subst e_u_15
            have hP : va_P D vwCl [(h, .inr (4, [.ref t1, .ref t2, .ref t3, .int na, .int ni, .int dy, .int vl, .int db])), (t1, .inr (5, [.ref a1, .int 10])), (t2, .inr (5, [.ref a2, .int 6])), (t3, .inr (5, [.ref a3, .int 3])), (a1, .inl (cI, 240, .inl u_15)), (a2, .inl (cI, 30, .inl u_12)), (a3, .inl (cI, 36, .inl RC))] H := hP
            have hD : va_D Fr [(h, .inr (4, [.ref t1, .ref t2, .ref t3, .int na, .int ni, .int dy, .int vl, .int db])), (t1, .inr (5, [.ref a1, .int 10])), (t2, .inr (5, [.ref a2, .int 6])), (t3, .inr (5, [.ref a3, .int 3])), (a1, .inl (cI, 240, .inl u_15)), (a2, .inl (cI, 30, .inl u_12)), (a3, .inl (cI, 36, .inl RC))] := hD
            refine W.eq (g2 := F0 m 73 ls []) rfl ?_
            refine lv_aload_n hx hb dX5_makeMeeting_73 rfl (lv_at hl 0 rfl) ?_
            refine va_get (D := D) (ci := 4) (C := RX5) (T := TX5) (N := 8) hx hb hts w_2 hown hK hP 0 rfl rfl 0 (by decide) w_3 (fun _ h9 => h9) rfl dX5_makeMeeting_74 ?_
            refine lv_iload_n hx hb dX5_makeMeeting_77 rfl (lv_at hl 2 rfl) ?_
            refine lv_bipush (v := 7) hx hb dX5_makeMeeting_78 (by decide) ?_
            refine lv_iload hx hb dX5_makeMeeting_80 (lv_at hl 5 rfl) ?_
            refine callVv (As := [.int address, .int 7, .int meetingTime]) (rest := []) (mX6_put l D cI cC cS _ t1 a1 240 u_15 10 address 7 meetingTime (by decide)) ⟨hx, hb, hml, hown, hts⟩ (cwV 3 hts gX5_makeMeeting_X6_put rfl rfl rfl (by decide +kernel) ⟨Nat.le_of_ble_eq_true rfl, Nat.le_of_ble_eq_true rfl⟩) X0_blind (fun _ _ _ => trivial) hP hK hD hS hA hl [1, 4] rfl rfl 0 5 rfl rfl rfl rfl rfl (Nat.le_of_ble_eq_true rfl) dX5_makeMeeting_82 ⟨Nat.zero_le _, Nat.zero_le _⟩ (fun _ => rfl) (fun u_ H locs hk18 hP hD hS => ?_)
            obtain ⟨u_18, e_u_18⟩ : ∃ z, z = u_ := ⟨_, rfl⟩
            subst e_u_18
            have hP : va_P D vwCl [(h, .inr (4, [.ref t1, .ref t2, .ref t3, .int na, .int ni, .int dy, .int vl, .int db])), (t1, .inr (5, [.ref a1, .int 10])), (t2, .inr (5, [.ref a2, .int 6])), (t3, .inr (5, [.ref a3, .int 3])), (a1, .inl (cI, 240, .inl u_18)), (a2, .inl (cI, 30, .inl u_12)), (a3, .inl (cI, 36, .inl RC))] H := hP
            have hD : va_D Fr [(h, .inr (4, [.ref t1, .ref t2, .ref t3, .int na, .int ni, .int dy, .int vl, .int db])), (t1, .inr (5, [.ref a1, .int 10])), (t2, .inr (5, [.ref a2, .int 6])), (t3, .inr (5, [.ref a3, .int 3])), (a1, .inl (cI, 240, .inl u_18)), (a2, .inl (cI, 30, .inl u_12)), (a3, .inl (cI, 36, .inl RC))] := hD
            refine W.eq (g2 := F0 m 85 ls []) rfl ?_
            refine lv_aload_n hx hb dX5_makeMeeting_85 rfl (lv_at hl 0 rfl) ?_
            refine callVi (As := []) (rest := []) (mX5_meetings l D cI cC cS _ h t1 t2 t3 a1 a2 a3 u_18 u_12 RC na ni dy vl db) ⟨hx, hb, hml, hown, hts⟩ (cwV 0 hts gX5_makeMeeting_X5_meetings rfl rfl rfl (by decide +kernel) ⟨Nat.le_of_ble_eq_true rfl, Nat.le_of_ble_eq_true rfl⟩) wN_blind (fun _ _ hW => wN_warm hW hX) hP hK hD hS hA hl [0, 1, 2, 3, 4, 5, 6] rfl rfl 0 4 rfl rfl rfl rfl rfl (Nat.le_of_ble_eq_true rfl) dX5_makeMeeting_86 ⟨Nat.zero_le _, Nat.zero_le _⟩ (fun _ => rfl) (fun u_ H locs hk20 hP hD hS => ?_)
            obtain ⟨r_20, e_r_20⟩ : ∃ z, z = u_ := ⟨_, rfl⟩
            subst e_r_20
            have hP : va_P D vwCl [(h, .inr (4, [.ref t1, .ref t2, .ref t3, .int na, .int ni, .int dy, .int vl, .int db])), (t1, .inr (5, [.ref a1, .int 10])), (t2, .inr (5, [.ref a2, .int 6])), (t3, .inr (5, [.ref a3, .int 3])), (a1, .inl (cI, 240, .inl u_18)), (a2, .inl (cI, 30, .inl u_12)), (a3, .inl (cI, 36, .inl RC))] H := hP
            have hD : va_D Fr [(h, .inr (4, [.ref t1, .ref t2, .ref t3, .int na, .int ni, .int dy, .int vl, .int db])), (t1, .inr (5, [.ref a1, .int 10])), (t2, .inr (5, [.ref a2, .int 6])), (t3, .inr (5, [.ref a3, .int 3])), (a1, .inl (cI, 240, .inl u_18)), (a2, .inl (cI, 30, .inl u_12)), (a3, .inl (cI, 36, .inl RC))] := hD
            refine W.eq (g2 := F0 m 89 ls [.int r_20]) rfl ?_
            exact endI hx hb hr hlk hP hK hD hS dX5_makeMeeting_89 (r_20, u_18, u_12) rfl ⟨(bd1_e hk2).trans ((if_pos (bi_o c7)).trans ((bd1_e hk4).trans ((if_pos (bi_o c19)).trans ((bd1_e hk6).trans ((if_pos (bi_o c27)).trans ((if_neg c38).trans ((bd1_e hk8).trans ((if_pos (bi_o c48)).trans ((bd2_e hk12).trans ((bd1_e hk15).trans ((bd1_e hk18).trans ((bd1_e hk20).trans rfl)))))))))))), rfl⟩
          · refine lv_bipush (v := (-2)) hx hb dX5_makeMeeting_51 (by decide) ?_
            exact endI hx hb hr hlk hP hK hD hS dX5_makeMeeting_53 ((-2), RA, RI) rfl ⟨(bd1_e hk2).trans ((if_pos (bi_o c7)).trans ((bd1_e hk4).trans ((if_pos (bi_o c19)).trans ((bd1_e hk6).trans ((if_pos (bi_o c27)).trans ((if_neg c38).trans ((bd1_e hk8).trans ((if_neg (bi_z c48)).trans rfl)))))))), rfl⟩
      · refine lv_iconst (v := (-1)) hx hb dX5_makeMeeting_30 (by decide) ?_
        exact endI hx hb hr hlk hP hK hD hS dX5_makeMeeting_31 ((-1), RA, RI) rfl ⟨(bd1_e hk2).trans ((if_pos (bi_o c7)).trans ((bd1_e hk4).trans ((if_pos (bi_o c19)).trans ((bd1_e hk6).trans ((if_neg (bi_z c27)).trans rfl))))), rfl⟩

