/-- the value of X8_isWithin, path by path -/
def fX8_isWithin (number : Int32) (least : Int32) (most : Int32) : Bool :=
  (if number < least then false else (if most < number then false else true))

set_option maxHeartbeats 4000000 in
set_option maxRecDepth 100000 in
/-- X8_isWithin -/
theorem mX8_isWithin (l : Launch) (D : va_G) (cI cC cS : ClassId) (sz : Nat) (number : Int32) (least : Int32) (most : Int32)  : Met l yX8_isWithin wsX8_isWithin ({ frames := 0, cells := 0, slots := 0, locals := 0 } : Jvm.Room) (va_Pc [.int number, .int least, .int most] (wPre D (TY cI cC cS) [] sz X0)) (qI D (TY cI cC cS) (fun (r : Int32) (u : Bool) => fX8_isWithin number least most = u ∧ r = bi u) (fun u => []) (va_A [] sz)) 0 0 (va_A [] sz) := by
  refine mkM (fun Fr => qI D (TY cI cC cS) (fun (r : Int32) (u : Bool) => fX8_isWithin number least most = u ∧ r = bi u) (fun u => []) Fr) (cc := cX8_isWithin) (maxL := 3) (ret := (some .boolean)) (own := RX8) (lv := [(0, .int number), (1, .int least), (2, .int most)]) (by decide) rfl rfl (Nat.le_of_ble_eq_true rfl) rfl ?_
  intro p e s m below meth c Fr ls hx hb hr hts hown hml hlk hin hP hK hD hS hA hAe hsz hX hl
  refine lv_iload_n hx hb dX8_isWithin_0 rfl (lv_at hl 0 rfl) ?_
  refine lv_iload_n hx hb dX8_isWithin_1 rfl (lv_at hl 1 rfl) ?_
  refine lv_icmp_lt (tgt := 14) hx hb dX8_isWithin_2 (by decide) (fun c2 => ?_) (fun c2 => ?_)
  · refine lv_iconst (v := 0) hx hb dX8_isWithin_14 (by decide) ?_
    exact endZ hx hb hr hlk hP hK hD hS dX8_isWithin_15 rfl false rfl ⟨(if_pos c2).trans rfl, rfl⟩
  · refine lv_iload_n hx hb dX8_isWithin_5 rfl (lv_at hl 0 rfl) ?_
    refine lv_iload_n hx hb dX8_isWithin_6 rfl (lv_at hl 2 rfl) ?_
    refine lv_icmp_gt (tgt := 14) hx hb dX8_isWithin_7 (by decide) (fun c7 => ?_) (fun c7 => ?_)
    · refine lv_iconst (v := 0) hx hb dX8_isWithin_14 (by decide) ?_
      exact endZ hx hb hr hlk hP hK hD hS dX8_isWithin_15 rfl false rfl ⟨(if_neg c2).trans ((if_pos c7).trans rfl), rfl⟩
    · refine lv_iconst (v := 1) hx hb dX8_isWithin_10 (by decide) ?_
      refine lv_goto (tgt := 15) hx hb dX8_isWithin_11 (by decide) ?_
      exact endZ hx hb hr hlk hP hK hD hS dX8_isWithin_15 rfl true rfl ⟨(if_neg c2).trans ((if_neg c7).trans rfl), rfl⟩

/-- the value of X8_isCell, path by path -/
def fX8_isCell (area : Int32) (group : Int32) : Bool :=
  bd1 (fX8_isWithin area 0 3) (fun (r_2 : Bool) => (if r_2 = true then bd1 (fX8_isWithin group 0 2) (fun (r_4 : Bool) => (if r_4 = true then true else false)) else false))

set_option maxHeartbeats 4000000 in
set_option maxRecDepth 100000 in
/-- X8_isCell -/
theorem mX8_isCell (l : Launch) (D : va_G) (cI cC cS : ClassId) (sz : Nat) (area : Int32) (group : Int32)  : Met l yX8_isCell wsX8_isCell ({ frames := 1, cells := 0, slots := 0, locals := 22 } : Jvm.Room) (va_Pc [.int area, .int group] (wPre D (TY cI cC cS) [] sz X0)) (qI D (TY cI cC cS) (fun (r : Int32) (u : Bool) => fX8_isCell area group = u ∧ r = bi u) (fun u => []) (va_A [] sz)) 0 0 (va_A [] sz) := by
  refine mkM (fun Fr => qI D (TY cI cC cS) (fun (r : Int32) (u : Bool) => fX8_isCell area group = u ∧ r = bi u) (fun u => []) Fr) (cc := cX8_isCell) (maxL := 2) (ret := (some .boolean)) (own := RX8) (lv := [(0, .int area), (1, .int group)]) (by decide) rfl rfl (Nat.le_of_ble_eq_true rfl) rfl ?_
  intro p e s m below meth c Fr ls hx hb hr hts hown hml hlk hin hP hK hD hS hA hAe hsz hX hl
  refine lv_iload_n hx hb dX8_isCell_0 rfl (lv_at hl 0 rfl) ?_
  refine lv_iconst (v := 0) hx hb dX8_isCell_1 (by decide) ?_
  refine lv_iconst (v := 3) hx hb dX8_isCell_2 (by decide) ?_
  refine callSi (As := [.int area, .int 0, .int 3]) (rest := []) (mX8_isWithin l D cI cC cS _ area 0 3) ⟨hx, hb, hml, hown, hts⟩ (va_cwS 3 hts gX8_isCell_X8_isWithin rfl rfl rfl (by decide +kernel) ⟨Nat.le_of_ble_eq_true rfl, Nat.le_of_ble_eq_true rfl⟩) hP hK hD hS hA hl rfl rfl (Nat.le_of_ble_eq_true rfl) dX8_isCell_3 ⟨Nat.zero_le _, Nat.zero_le _⟩ (fun u_ H locs hk2 hP hS => ?_)
  obtain ⟨r_2, e_r_2⟩ : ∃ z, z = u_ := ⟨_, rfl⟩
  subst e_r_2
  refine W.eq (g2 := F0 m 6 ls [.int (bi r_2)]) rfl ?_
  refine lv_if_eq (tgt := 22) hx hb dX8_isCell_6 (by decide) (fun c6 => ?_) (fun c6 => ?_)
  · refine lv_iconst (v := 0) hx hb dX8_isCell_22 (by decide) ?_
    exact endZ hx hb hr hlk hP hK hD hS dX8_isCell_23 rfl false rfl ⟨(bd1_e hk2).trans ((if_neg (bi_z c6)).trans rfl), rfl⟩
  · refine lv_iload_n hx hb dX8_isCell_9 rfl (lv_at hl 1 rfl) ?_
    refine lv_iconst (v := 0) hx hb dX8_isCell_10 (by decide) ?_
    refine lv_iconst (v := 2) hx hb dX8_isCell_11 (by decide) ?_
    refine callSi (As := [.int group, .int 0, .int 2]) (rest := []) (mX8_isWithin l D cI cC cS _ group 0 2) ⟨hx, hb, hml, hown, hts⟩ (va_cwS 3 hts gX8_isCell_X8_isWithin rfl rfl rfl (by decide +kernel) ⟨Nat.le_of_ble_eq_true rfl, Nat.le_of_ble_eq_true rfl⟩) hP hK hD hS hA hl rfl rfl (Nat.le_of_ble_eq_true rfl) dX8_isCell_12 ⟨Nat.zero_le _, Nat.zero_le _⟩ (fun u_ H locs hk4 hP hS => ?_)
    obtain ⟨r_4, e_r_4⟩ : ∃ z, z = u_ := ⟨_, rfl⟩
    subst e_r_4
    refine W.eq (g2 := F0 m 15 ls [.int (bi r_4)]) rfl ?_
    refine lv_if_eq (tgt := 22) hx hb dX8_isCell_15 (by decide) (fun c15 => ?_) (fun c15 => ?_)
    · refine lv_iconst (v := 0) hx hb dX8_isCell_22 (by decide) ?_
      exact endZ hx hb hr hlk hP hK hD hS dX8_isCell_23 rfl false rfl ⟨(bd1_e hk2).trans ((if_pos (bi_o c6)).trans ((bd1_e hk4).trans ((if_neg (bi_z c15)).trans rfl))), rfl⟩
    · refine lv_iconst (v := 1) hx hb dX8_isCell_18 (by decide) ?_
      refine lv_goto (tgt := 23) hx hb dX8_isCell_19 (by decide) ?_
      exact endZ hx hb hr hlk hP hK hD hS dX8_isCell_23 rfl true rfl ⟨(bd1_e hk2).trans ((if_pos (bi_o c6)).trans ((bd1_e hk4).trans ((if_pos (bi_o c15)).trans rfl))), rfl⟩

/-- the value of X8_isTime, path by path -/
def fX8_isTime (time : Int32) : Bool :=
  bd1 (fX8_isWithin time 0 2) (fun (r_2 : Bool) => r_2)

set_option maxHeartbeats 4000000 in
set_option maxRecDepth 100000 in
/-- X8_isTime -/
theorem mX8_isTime (l : Launch) (D : va_G) (cI cC cS : ClassId) (sz : Nat) (time : Int32)  : Met l yX8_isTime wsX8_isTime ({ frames := 1, cells := 0, slots := 0, locals := 22 } : Jvm.Room) (va_Pc [.int time] (wPre D (TY cI cC cS) [] sz X0)) (qI D (TY cI cC cS) (fun (r : Int32) (u : Bool) => fX8_isTime time = u ∧ r = bi u) (fun u => []) (va_A [] sz)) 0 0 (va_A [] sz) := by
  refine mkM (fun Fr => qI D (TY cI cC cS) (fun (r : Int32) (u : Bool) => fX8_isTime time = u ∧ r = bi u) (fun u => []) Fr) (cc := cX8_isTime) (maxL := 1) (ret := (some .boolean)) (own := RX8) (lv := [(0, .int time)]) (by decide) rfl rfl (Nat.le_of_ble_eq_true rfl) rfl ?_
  intro p e s m below meth c Fr ls hx hb hr hts hown hml hlk hin hP hK hD hS hA hAe hsz hX hl
  refine lv_iload_n hx hb dX8_isTime_0 rfl (lv_at hl 0 rfl) ?_
  refine lv_iconst (v := 0) hx hb dX8_isTime_1 (by decide) ?_
  refine lv_iconst (v := 2) hx hb dX8_isTime_2 (by decide) ?_
  refine callSi (As := [.int time, .int 0, .int 2]) (rest := []) (mX8_isWithin l D cI cC cS _ time 0 2) ⟨hx, hb, hml, hown, hts⟩ (va_cwS 3 hts gX8_isTime_X8_isWithin rfl rfl rfl (by decide +kernel) ⟨Nat.le_of_ble_eq_true rfl, Nat.le_of_ble_eq_true rfl⟩) hP hK hD hS hA hl rfl rfl (Nat.le_of_ble_eq_true rfl) dX8_isTime_3 ⟨Nat.zero_le _, Nat.zero_le _⟩ (fun u_ H locs hk2 hP hS => ?_)
  obtain ⟨r_2, e_r_2⟩ : ∃ z, z = u_ := ⟨_, rfl⟩
  subst e_r_2
  refine W.eq (g2 := F0 m 6 ls [.int (bi r_2)]) rfl ?_
  exact endZ hx hb hr hlk hP hK hD hS dX8_isTime_6 (bi_nar _) r_2 rfl ⟨(bd1_e hk2).trans rfl, rfl⟩

/-- the value of X6_get, path by path -/
def fX6_get (n : Nat) (A : Nat → Int32) (cols : Int32) (row : Int32) (column : Int32) : Int32 :=
  bd1 ((row * cols) + column) (fun (y_1 : Int32) => (if y_1 < 0 then 0 else (if Int32.ofNat n ≤ y_1 then 0 else A y_1.toNatClampNeg)))

set_option maxHeartbeats 4000000 in
set_option maxRecDepth 100000 in
/-- X6_get -/
theorem mX6_get (l : Launch) (D : va_G) (cI cC cS : ClassId) (sz : Nat) (h : Nat) (a : Nat) (n : Nat) (A : Nat → Int32) (cols : Int32) (row : Int32) (column : Int32) (hn : n < 2 ^ 31) : Met l yX6_get wsX6_get ({ frames := 0, cells := 0, slots := 0, locals := 0 } : Jvm.Room) (va_Pc [.ref h, .int row, .int column] (wPre D (TY cI cC cS) [(h, .inr (5, [.ref a, .int cols])), (a, .inl (cI, n, .inl A))] sz X0)) (qI D (TY cI cC cS) (fun (r : Int32) (u : Int32) => fX6_get n A cols row column = u ∧ r = u) (fun u => [(h, .inr (5, [.ref a, .int cols])), (a, .inl (cI, n, .inl A))]) (va_A [(h, .inr (5, [.ref a, .int cols])), (a, .inl (cI, n, .inl A))] sz)) 0 0 (va_A [(h, .inr (5, [.ref a, .int cols])), (a, .inl (cI, n, .inl A))] sz) := by
  refine mkM (fun Fr => qI D (TY cI cC cS) (fun (r : Int32) (u : Int32) => fX6_get n A cols row column = u ∧ r = u) (fun u => [(h, .inr (5, [.ref a, .int cols])), (a, .inl (cI, n, .inl A))]) Fr) (cc := cX6_get) (maxL := 4) (ret := (some .int)) (own := RX6) (lv := [(0, .ref h), (1, .int row), (2, .int column)]) (by decide) rfl rfl (Nat.le_of_ble_eq_true rfl) rfl ?_
  intro p e s m below meth c Fr ls hx hb hr hts hown hml hlk hin hP hK hD hS hA hAe hsz hX hl
  have w_1 := hts (.fieldLink RX6 13 "FieldQuotas$Table" "columns" "I") (List.mem_of_getElem? (i := 1) rfl)
  have w_2 := sub_r (big := wsX6_get) (u_ws RX6 TX6 2) [3, 4] rfl
  have w_3 := hts (.fieldLink RX6 7 "FieldQuotas$Table" "numbers" "[I") (List.mem_of_getElem? (i := 2) rfl)
  refine lv_iload_n hx hb dX6_get_0 rfl (lv_at hl 1 rfl) ?_
  refine lv_aload_n hx hb dX6_get_1 rfl (lv_at hl 0 rfl) ?_
  refine va_get (D := D) (ci := 5) (C := RX6) (T := TX6) (N := 2) hx hb hts w_2 hown hK hP 0 rfl rfl 1 (by decide) w_1 (fun _ h9 => h9) rfl dX6_get_2 ?_
  refine lv_imul hx hb dX6_get_5 ?_
  refine lv_iload_n hx hb dX6_get_6 rfl (lv_at hl 2 rfl) ?_
  refine lv_iadd hx hb dX6_get_7 ?_
  refine lv_topi (fun y_1 ey_1 => ?_)
  refine lv_istore_n (lv' := [(3, .int y_1), (0, .ref h), (1, .int row), (2, .int column)]) hx hb dX6_get_8 rfl hl (by decide) rfl (fun ls hl => ?_)
  refine lv_iload_n hx hb dX6_get_9 rfl (lv_at hl 0 rfl) ?_
  refine lv_if_lt (tgt := 31) hx hb dX6_get_10 (by decide) (fun c10 => ?_) (fun c10 => ?_)
  · refine lv_iconst (v := 0) hx hb dX6_get_31 (by decide) ?_
    exact endI hx hb hr hlk hP hK hD hS dX6_get_32 0 rfl ⟨(bd1_n ey_1).trans ((if_pos c10).trans rfl), rfl⟩
  · refine lv_iload_n hx hb dX6_get_13 rfl (lv_at hl 0 rfl) ?_
    refine lv_aload_n hx hb dX6_get_14 rfl (lv_at hl 1 rfl) ?_
    refine va_get (D := D) (ci := 5) (C := RX6) (T := TX6) (N := 2) hx hb hts w_2 hown hK hP 0 rfl rfl 0 (by decide) w_3 (fun _ h9 => h9) rfl dX6_get_15 ?_
    refine va_alen hx hb hK hP 1 0 rfl rfl rfl dX6_get_18 ?_
    refine lv_icmp_ge (tgt := 31) hx hb dX6_get_19 (by decide) (fun c19 => ?_) (fun c19 => ?_)
    · refine lv_iconst (v := 0) hx hb dX6_get_31 (by decide) ?_
      exact endI hx hb hr hlk hP hK hD hS dX6_get_32 0 rfl ⟨(bd1_n ey_1).trans ((if_neg c10).trans ((if_pos c19).trans rfl)), rfl⟩
    · refine lv_aload_n hx hb dX6_get_22 rfl (lv_at hl 1 rfl) ?_
      refine va_get (D := D) (ci := 5) (C := RX6) (T := TX6) (N := 2) hx hb hts w_2 hown hK hP 0 rfl rfl 0 (by decide) w_3 (fun _ h9 => h9) rfl dX6_get_23 ?_
      refine lv_iload_n hx hb dX6_get_26 rfl (lv_at hl 0 rfl) ?_
      refine va_iald hx hb hK hP 1 0 rfl rfl (vp_in_of2 c10 c19 hn) dX6_get_27 ?_
      refine lv_goto (tgt := 32) hx hb dX6_get_28 (by decide) ?_
      exact endI hx hb hr hlk hP hK hD hS dX6_get_32 (A y_1.toNatClampNeg) rfl ⟨(bd1_n ey_1).trans ((if_neg c10).trans ((if_neg c19).trans rfl)), rfl⟩

/-- the value of X6_put, path by path -/
def fX6_put (n : Nat) (A : Nat → Int32) (cols : Int32) (row : Int32) (column : Int32) (number : Int32) : (Nat → Int32) :=
  bd1 ((row * cols) + column) (fun (y_1 : Int32) => (if y_1 < 0 then A else (if Int32.ofNat n ≤ y_1 then A else upd A y_1.toNatClampNeg number)))

set_option maxHeartbeats 4000000 in
set_option maxRecDepth 100000 in
/-- X6_put -/
theorem mX6_put (l : Launch) (D : va_G) (cI cC cS : ClassId) (sz : Nat) (h : Nat) (a : Nat) (n : Nat) (A : Nat → Int32) (cols : Int32) (row : Int32) (column : Int32) (number : Int32) (hn : n < 2 ^ 31) : Met l yX6_put wsX6_put ({ frames := 0, cells := 0, slots := 0, locals := 0 } : Jvm.Room) (va_Pc [.ref h, .int row, .int column, .int number] (wPre D (TY cI cC cS) [(h, .inr (5, [.ref a, .int cols])), (a, .inl (cI, n, .inl A))] sz X0)) (qV D (TY cI cC cS) (fun (u : (Nat → Int32)) => fX6_put n A cols row column number = u) (fun u => [(h, .inr (5, [.ref a, .int cols])), (a, .inl (cI, n, .inl u))]) (va_A [(h, .inr (5, [.ref a, .int cols])), (a, .inl (cI, n, .inl A))] sz)) 0 0 (va_A [(h, .inr (5, [.ref a, .int cols])), (a, .inl (cI, n, .inl A))] sz) := by
  refine mkM (fun Fr => qV D (TY cI cC cS) (fun (u : (Nat → Int32)) => fX6_put n A cols row column number = u) (fun u => [(h, .inr (5, [.ref a, .int cols])), (a, .inl (cI, n, .inl u))]) Fr) (cc := cX6_put) (maxL := 5) (ret := none) (own := RX6) (lv := [(0, .ref h), (1, .int row), (2, .int column), (3, .int number)]) (by decide) rfl rfl (Nat.le_of_ble_eq_true rfl) rfl ?_
  intro p e s m below meth c Fr ls hx hb hr hts hown hml hlk hin hP hK hD hS hA hAe hsz hX hl
  have w_1 := hts (.fieldLink RX6 13 "FieldQuotas$Table" "columns" "I") (List.mem_of_getElem? (i := 1) rfl)
  have w_2 := sub_r (big := wsX6_put) (u_ws RX6 TX6 2) [3, 4] rfl
  have w_3 := hts (.fieldLink RX6 7 "FieldQuotas$Table" "numbers" "[I") (List.mem_of_getElem? (i := 2) rfl)
  refine lv_iload_n hx hb dX6_put_0 rfl (lv_at hl 1 rfl) ?_
  refine lv_aload_n hx hb dX6_put_1 rfl (lv_at hl 0 rfl) ?_
  refine va_get (D := D) (ci := 5) (C := RX6) (T := TX6) (N := 2) hx hb hts w_2 hown hK hP 0 rfl rfl 1 (by decide) w_1 (fun _ h9 => h9) rfl dX6_put_2 ?_
  refine lv_imul hx hb dX6_put_5 ?_
  refine lv_iload_n hx hb dX6_put_6 rfl (lv_at hl 2 rfl) ?_
  refine lv_iadd hx hb dX6_put_7 ?_
  refine lv_topi (fun y_1 ey_1 => ?_)
  refine lv_istore (lv' := [(4, .int y_1), (0, .ref h), (1, .int row), (2, .int column), (3, .int number)]) hx hb dX6_put_8 hl (by decide) rfl (fun ls hl => ?_)
  refine lv_iload hx hb dX6_put_10 (lv_at hl 0 rfl) ?_
  refine lv_if_lt (tgt := 33) hx hb dX6_put_12 (by decide) (fun c12 => ?_) (fun c12 => ?_)
  · exact endV hx hb hr hlk hP hK hD hS dX6_put_33 A rfl ((bd1_n ey_1).trans ((if_pos c12).trans rfl))
  · refine lv_iload hx hb dX6_put_15 (lv_at hl 0 rfl) ?_
    refine lv_aload_n hx hb dX6_put_17 rfl (lv_at hl 1 rfl) ?_
    refine va_get (D := D) (ci := 5) (C := RX6) (T := TX6) (N := 2) hx hb hts w_2 hown hK hP 0 rfl rfl 0 (by decide) w_3 (fun _ h9 => h9) rfl dX6_put_18 ?_
    refine va_alen hx hb hK hP 1 0 rfl rfl rfl dX6_put_21 ?_
    refine lv_icmp_ge (tgt := 33) hx hb dX6_put_22 (by decide) (fun c22 => ?_) (fun c22 => ?_)
    · exact endV hx hb hr hlk hP hK hD hS dX6_put_33 A rfl ((bd1_n ey_1).trans ((if_neg c12).trans ((if_pos c22).trans rfl)))
    · refine lv_aload_n hx hb dX6_put_25 rfl (lv_at hl 1 rfl) ?_
      refine va_get (D := D) (ci := 5) (C := RX6) (T := TX6) (N := 2) hx hb hts w_2 hown hK hP 0 rfl rfl 0 (by decide) w_3 (fun _ h9 => h9) rfl dX6_put_26 ?_
      refine lv_iload hx hb dX6_put_29 (lv_at hl 0 rfl) ?_
      refine lv_iload_n hx hb dX6_put_31 rfl (lv_at hl 4 rfl) ?_
      refine va_iast hx hb hK hP hD hS 1 0 rfl rfl (vp_in_of2 c12 c22 hn) dX6_put_32 (fun H locs hP hD hS => ?_)
      have hP : va_P D vwCl [(h, .inr (5, [.ref a, .int cols])), (a, .inl (cI, n, .inl (upd A y_1.toNatClampNeg number)))] H := hP
      have hD : va_D Fr [(h, .inr (5, [.ref a, .int cols])), (a, .inl (cI, n, .inl (upd A y_1.toNatClampNeg number)))] := hD
      exact endV hx hb hr hlk hP hK hD hS dX6_put_33 (upd A y_1.toNatClampNeg number) rfl ((bd1_n ey_1).trans ((if_neg c12).trans ((if_neg c22).trans rfl)))

/-- the value of X6_increase, path by path -/
def fX6_increase (n : Nat) (A : Nat → Int32) (cols : Int32) (row : Int32) (column : Int32) : (Nat → Int32) :=
  bd1 (fX6_get n A cols row column) (fun (r_2 : Int32) => bd1 (fX6_put n A cols row column (r_2 + 1)) (fun (u_5 : Nat → Int32) => u_5))

set_option maxHeartbeats 4000000 in
set_option maxRecDepth 100000 in
/-- X6_increase -/
theorem mX6_increase (l : Launch) (D : va_G) (cI cC cS : ClassId) (sz : Nat) (h : Nat) (a : Nat) (n : Nat) (A : Nat → Int32) (cols : Int32) (row : Int32) (column : Int32) (hn : n < 2 ^ 31) : Met l yX6_increase wsX6_increase ({ frames := 1, cells := 0, slots := 0, locals := 24 } : Jvm.Room) (va_Pc [.ref h, .int row, .int column] (wPre D (TY cI cC cS) [(h, .inr (5, [.ref a, .int cols])), (a, .inl (cI, n, .inl A))] sz X0)) (qV D (TY cI cC cS) (fun (u : (Nat → Int32)) => fX6_increase n A cols row column = u) (fun u => [(h, .inr (5, [.ref a, .int cols])), (a, .inl (cI, n, .inl u))]) (va_A [(h, .inr (5, [.ref a, .int cols])), (a, .inl (cI, n, .inl A))] sz)) 0 0 (va_A [(h, .inr (5, [.ref a, .int cols])), (a, .inl (cI, n, .inl A))] sz) := by
  refine mkM (fun Fr => qV D (TY cI cC cS) (fun (u : (Nat → Int32)) => fX6_increase n A cols row column = u) (fun u => [(h, .inr (5, [.ref a, .int cols])), (a, .inl (cI, n, .inl u))]) Fr) (cc := cX6_increase) (maxL := 3) (ret := none) (own := RX6) (lv := [(0, .ref h), (1, .int row), (2, .int column)]) (by decide) rfl rfl (Nat.le_of_ble_eq_true rfl) rfl ?_
  intro p e s m below meth c Fr ls hx hb hr hts hown hml hlk hin hP hK hD hS hA hAe hsz hX hl
  refine lv_aload_n hx hb dX6_increase_0 rfl (lv_at hl 0 rfl) ?_
  refine lv_iload_n hx hb dX6_increase_1 rfl (lv_at hl 1 rfl) ?_
  refine lv_iload_n hx hb dX6_increase_2 rfl (lv_at hl 2 rfl) ?_
  refine lv_aload_n hx hb dX6_increase_3 rfl (lv_at hl 0 rfl) ?_
  refine lv_iload_n hx hb dX6_increase_4 rfl (lv_at hl 1 rfl) ?_
  refine lv_iload_n hx hb dX6_increase_5 rfl (lv_at hl 2 rfl) ?_
  refine callVi (As := [.int row, .int column]) (rest := [.int column, .int row, .ref h]) (mX6_get l D cI cC cS _ h a n A cols row column hn) ⟨hx, hb, hml, hown, hts⟩ (cwV 2 hts gX6_increase_X6_get rfl rfl rfl (by decide +kernel) ⟨Nat.le_of_ble_eq_true rfl, Nat.le_of_ble_eq_true rfl⟩) X0_blind (fun _ _ _ => trivial) hP hK hD hS hA hl [0, 1] rfl rfl 0 5 rfl rfl rfl rfl rfl (Nat.le_of_ble_eq_true rfl) dX6_increase_6 ⟨Nat.zero_le _, Nat.zero_le _⟩ (fun _ => rfl) (fun u_ H locs hk2 hP hD hS => ?_)
  obtain ⟨r_2, e_r_2⟩ : ∃ z, z = u_ := ⟨_, rfl⟩
  subst e_r_2
  have hP : va_P D vwCl [(h, .inr (5, [.ref a, .int cols])), (a, .inl (cI, n, .inl A))] H := hP
  have hD : va_D Fr [(h, .inr (5, [.ref a, .int cols])), (a, .inl (cI, n, .inl A))] := hD
  refine W.eq (g2 := F0 m 9 ls [.int r_2, .int column, .int row, .ref h]) rfl ?_
  refine lv_iconst (v := 1) hx hb dX6_increase_9 (by decide) ?_
  refine lv_iadd hx hb dX6_increase_10 ?_
  refine callVv (As := [.int row, .int column, .int (r_2 + 1)]) (rest := []) (mX6_put l D cI cC cS _ h a n A cols row column (r_2 + 1) hn) ⟨hx, hb, hml, hown, hts⟩ (cwV 3 hts gX6_increase_X6_put rfl rfl rfl (by decide +kernel) ⟨Nat.le_of_ble_eq_true rfl, Nat.le_of_ble_eq_true rfl⟩) X0_blind (fun _ _ _ => trivial) hP hK hD hS hA hl [0, 1] rfl rfl 0 5 rfl rfl rfl rfl rfl (Nat.le_of_ble_eq_true rfl) dX6_increase_11 ⟨Nat.zero_le _, Nat.zero_le _⟩ (fun _ => rfl) (fun u_ H locs hk5 hP hD hS => ?_)
  obtain ⟨u_5, e_u_5⟩ : ∃ z, z = u_ := ⟨_, rfl⟩
  subst e_u_5
  have hP : va_P D vwCl [(h, .inr (5, [.ref a, .int cols])), (a, .inl (cI, n, .inl u_5))] H := hP
  have hD : va_D Fr [(h, .inr (5, [.ref a, .int cols])), (a, .inl (cI, n, .inl u_5))] := hD
  refine W.eq (g2 := F0 m 14 ls []) rfl ?_
  exact endV hx hb hr hlk hP hK hD hS dX6_increase_14 u_5 rfl ((bd1_e hk2).trans ((bd1_e hk5).trans rfl))

/-- the loop of X6_copyFrom at 2 -/
def fX6_copyFrom_2 (n : Nat) (A : Nat → Int32) (B : Nat → Int32) : Nat → Int32 → (Nat → Int32) → (Nat → Int32)
  | 0, _, _ => default
  | fu + 1, x2, Q =>
    (if Int32.ofNat n ≤ x2 then Q else (if Int32.ofNat n ≤ x2 then Q else fX6_copyFrom_2 n A B fu (x2 + 1) (upd Q x2.toNatClampNeg (B x2.toNatClampNeg))))
theorem fX6_copyFrom_2_s (n : Nat) (A : Nat → Int32) (B : Nat → Int32) (fu : Nat) (x2 : Int32) (Q : Nat → Int32) : fX6_copyFrom_2 n A B (fu + 1) x2 Q =
    (if Int32.ofNat n ≤ x2 then Q else (if Int32.ofNat n ≤ x2 then Q else fX6_copyFrom_2 n A B fu (x2 + 1) (upd Q x2.toNatClampNeg (B x2.toNatClampNeg)))) := rfl

/-- the value of X6_copyFrom, path by path -/
def fX6_copyFrom (n : Nat) (A : Nat → Int32) (B : Nat → Int32) : (Nat → Int32) :=
  fX6_copyFrom_2 n A B (((Int32.ofNat n).toInt - (0 : Int32).toInt).toNat + 1) 0 A

set_option maxHeartbeats 4000000 in
set_option maxRecDepth 100000 in
/-- X6_copyFrom -/
theorem mX6_copyFrom (l : Launch) (D : va_G) (cI cC cS : ClassId) (sz : Nat) (h : Nat) (a : Nat) (o : Nat) (b : Nat) (n : Nat) (A : Nat → Int32) (B : Nat → Int32) (cols : Int32) (hn : n < 2 ^ 31) : Met l yX6_copyFrom wsX6_copyFrom ({ frames := 0, cells := 0, slots := 0, locals := 0 } : Jvm.Room) (va_Pc [.ref h, .ref o] (wPre D (TY cI cC cS) [(h, .inr (5, [.ref a, .int cols])), (a, .inl (cI, n, .inl A)), (o, .inr (5, [.ref b, .int cols])), (b, .inl (cI, n, .inl B))] sz X0)) (qV D (TY cI cC cS) (fun (u : (Nat → Int32)) => fX6_copyFrom n A B = u) (fun u => [(h, .inr (5, [.ref a, .int cols])), (a, .inl (cI, n, .inl u)), (o, .inr (5, [.ref b, .int cols])), (b, .inl (cI, n, .inl B))]) (va_A [(h, .inr (5, [.ref a, .int cols])), (a, .inl (cI, n, .inl A)), (o, .inr (5, [.ref b, .int cols])), (b, .inl (cI, n, .inl B))] sz)) 0 0 (va_A [(h, .inr (5, [.ref a, .int cols])), (a, .inl (cI, n, .inl A)), (o, .inr (5, [.ref b, .int cols])), (b, .inl (cI, n, .inl B))] sz) := by
  refine mkM (fun Fr => qV D (TY cI cC cS) (fun (u : (Nat → Int32)) => fX6_copyFrom n A B = u) (fun u => [(h, .inr (5, [.ref a, .int cols])), (a, .inl (cI, n, .inl u)), (o, .inr (5, [.ref b, .int cols])), (b, .inl (cI, n, .inl B))]) Fr) (cc := cX6_copyFrom) (maxL := 3) (ret := none) (own := RX6) (lv := [(0, .ref h), (1, .ref o)]) (by decide) rfl rfl (Nat.le_of_ble_eq_true rfl) rfl ?_
  intro p e s m below meth c Fr ls hx hb hr hts hown hml hlk hin hP hK hD hS hA hAe hsz hX hl
  have w_1 := hts (.fieldLink RX6 7 "FieldQuotas$Table" "numbers" "[I") (List.mem_of_getElem? (i := 1) rfl)
  have w_2 := sub_r (big := wsX6_copyFrom) (u_ws RX6 TX6 2) [2, 3] rfl
  refine lv_iconst (v := 0) hx hb dX6_copyFrom_0 (by decide) ?_
  refine lv_istore_n (lv' := [(2, .int 0), (0, .ref h), (1, .ref o)]) hx hb dX6_copyFrom_1 rfl hl (by decide) rfl (fun ls hl => ?_)
  have K_2 : ∀ (fu : Nat) (x2 : Int32) (Q : Nat → Int32) (H : Heap) (locs : List Loc) (ls : Array Slot), va_P D vwCl [(h, .inr (5, [.ref a, .int cols])), (a, .inl (cI, n, .inl Q)), (o, .inr (5, [.ref b, .int cols])), (b, .inl (cI, n, .inl B))] H → va_D Fr [(h, .inr (5, [.ref a, .int cols])), (a, .inl (cI, n, .inl Q)), (o, .inr (5, [.ref b, .int cols])), (b, .inl (cI, n, .inl B))] → va_S Fr s.heap H locs → lv_has ls 3 [(0, .ref h), (1, .ref o), (2, .int x2)] → (¬ x2 < 0) → ((Int32.ofNat n).toInt - x2.toInt).toNat < fu → fX6_copyFrom n A B = fX6_copyFrom_2 n A B fu x2 Q → W p l e (headSpec wsX6_copyFrom ({ frames := 0, cells := 0, slots := 0, locals := 0 } : Jvm.Room)).room s m ([.ref h, .ref o] : List Value).toArray below meth c H locs 0 0 (MQ below (qV D (TY cI cC cS) (fun (u : (Nat → Int32)) => fX6_copyFrom n A B = u) (fun u => [(h, .inr (5, [.ref a, .int cols])), (a, .inl (cI, n, .inl u)), (o, .inr (5, [.ref b, .int cols])), (b, .inl (cI, n, .inl B))]) Fr) ([.ref h, .ref o] : List Value).toArray s 0 0 Fr) (F0 m 2 ls []) := by
    intro fu
    induction fu with
    | zero => intros; exact absurd (by assumption) (Nat.not_lt_zero _)
    | succ fu ih_2 =>
      intro x2 Q H locs ls hP hD hS hl hi0 hm_2 E_2
      refine lv_iload_n hx hb dX6_copyFrom_2 rfl (lv_at hl 2 rfl) ?_
      refine lv_aload_n hx hb dX6_copyFrom_3 rfl (lv_at hl 0 rfl) ?_
      refine va_get (D := D) (ci := 5) (C := RX6) (T := TX6) (N := 2) hx hb hts w_2 hown hK hP 0 rfl rfl 0 (by decide) w_1 (fun _ h9 => h9) rfl dX6_copyFrom_4 ?_
      refine va_alen hx hb hK hP 1 0 rfl rfl rfl dX6_copyFrom_7 ?_
      refine lv_icmp_ge (tgt := 38) hx hb dX6_copyFrom_8 (by decide) (fun c8 => ?_) (fun c8 => ?_)
      · exact endV hx hb hr hlk hP hK hD hS dX6_copyFrom_38 Q rfl ((E_2).trans ((fX6_copyFrom_2_s n A B fu x2 Q).trans ((if_pos c8).trans rfl)))
      · refine lv_iload_n hx hb dX6_copyFrom_11 rfl (lv_at hl 2 rfl) ?_
        refine lv_aload_n hx hb dX6_copyFrom_12 rfl (lv_at hl 1 rfl) ?_
        refine va_get (D := D) (ci := 5) (C := RX6) (T := TX6) (N := 2) hx hb hts w_2 hown hK hP 2 rfl rfl 0 (by decide) w_1 (fun _ h9 => h9) rfl dX6_copyFrom_13 ?_
        refine va_alen hx hb hK hP 3 0 rfl rfl rfl dX6_copyFrom_16 ?_
        refine lv_icmp_ge (tgt := 38) hx hb dX6_copyFrom_17 (by decide) (fun c17 => ?_) (fun c17 => ?_)
        · exact endV hx hb hr hlk hP hK hD hS dX6_copyFrom_38 Q rfl ((E_2).trans ((fX6_copyFrom_2_s n A B fu x2 Q).trans ((if_neg c8).trans ((if_pos c17).trans rfl))))
        · refine lv_aload_n hx hb dX6_copyFrom_20 rfl (lv_at hl 0 rfl) ?_
          refine va_get (D := D) (ci := 5) (C := RX6) (T := TX6) (N := 2) hx hb hts w_2 hown hK hP 0 rfl rfl 0 (by decide) w_1 (fun _ h9 => h9) rfl dX6_copyFrom_21 ?_
          refine lv_iload_n hx hb dX6_copyFrom_24 rfl (lv_at hl 2 rfl) ?_
          refine lv_aload_n hx hb dX6_copyFrom_25 rfl (lv_at hl 1 rfl) ?_
          refine va_get (D := D) (ci := 5) (C := RX6) (T := TX6) (N := 2) hx hb hts w_2 hown hK hP 2 rfl rfl 0 (by decide) w_1 (fun _ h9 => h9) rfl dX6_copyFrom_26 ?_
          refine lv_iload_n hx hb dX6_copyFrom_29 rfl (lv_at hl 2 rfl) ?_
          refine va_iald hx hb hK hP 3 0 rfl rfl (vp_in_of2 hi0 c17 hn) dX6_copyFrom_30 ?_
          refine va_iast hx hb hK hP hD hS 1 0 rfl rfl (vp_in_of2 hi0 c8 hn) dX6_copyFrom_31 (fun H locs hP hD hS => ?_)
          have hP : va_P D vwCl [(h, .inr (5, [.ref a, .int cols])), (a, .inl (cI, n, .inl (upd Q x2.toNatClampNeg (B x2.toNatClampNeg)))), (o, .inr (5, [.ref b, .int cols])), (b, .inl (cI, n, .inl B))] H := hP
          have hD : va_D Fr [(h, .inr (5, [.ref a, .int cols])), (a, .inl (cI, n, .inl (upd Q x2.toNatClampNeg (B x2.toNatClampNeg)))), (o, .inr (5, [.ref b, .int cols])), (b, .inl (cI, n, .inl B))] := hD
          refine lv_iinc (v := x2 + 1) (lv' := [(2, .int (x2 + 1)), (0, .ref h), (1, .ref o)]) hx hb dX6_copyFrom_32 hl (k := 2) rfl (by rfl) (by decide) rfl (fun ls hl => ?_)
          refine lv_goto (tgt := 2) hx hb dX6_copyFrom_35 (by decide) ?_
          exact ih_2 (x2 + 1) (upd Q x2.toNatClampNeg (B x2.toNatClampNeg)) _ _ ls hP hD hS (lv_sub hl [1, 2, 0] rfl) (inc_nn hi0 c8 hn) (Nat.lt_of_lt_of_le (lp_dec c8) (Nat.le_of_lt_succ hm_2)) ((E_2).trans ((fX6_copyFrom_2_s n A B fu x2 Q).trans ((if_neg c8).trans ((if_neg c17).trans rfl))))
  exact K_2 (((Int32.ofNat n).toInt - (0 : Int32).toInt).toNat + 1) 0 A _ _ ls hP hD hS (lv_sub hl [1, 2, 0] rfl) (by decide) (Nat.lt_succ_self _) rfl

