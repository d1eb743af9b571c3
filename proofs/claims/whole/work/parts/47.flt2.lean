theorem sX2_rateOfInterviews (l : Launch) (D : va_G) (cI cC cS : ClassId) (sz : Nat) (o : Nat) (h : Nat) (t1 : Nat) (t2 : Nat) (t3 : Nat) (a1 : Nat) (a2 : Nat) (a3 : Nat) (RA : Nat → Int32) (RI : Nat → Int32) (RC : Nat → Int32) (na : Int32) (ni : Int32) (dy : Int32) (vl : Int32) (db : Int32)  : Met l yX2_rateOfInterviews wsX2_rateOfInterviews ({ frames := 3, cells := 0, slots := 0, locals := 68 } : Jvm.Room) (va_Pc [.ref o] (wPre D (TY cI cC cS) (([ovW o h, svW h t1 t2 t3 a1 a2 a3 cI RA RI RC na ni dy vl db] : List va_W).flatten) sz wN)) (qI D (TY cI cC cS) (fun (r : Int32) (u : Int32) => fX2_rateOfInterviews RA na = u ∧ r = u) (fun u => ([ovW o h, svW h t1 t2 t3 a1 a2 a3 cI RA RI RC na ni dy vl db] : List va_W).flatten) (va_A (([ovW o h, svW h t1 t2 t3 a1 a2 a3 cI RA RI RC na ni dy vl db] : List va_W).flatten) sz)) 0 0 (va_A (([ovW o h, svW h t1 t2 t3 a1 a2 a3 cI RA RI RC na ni dy vl db] : List va_W).flatten) sz) := mX2_rateOfInterviews l D cI cC cS sz o h t1 t2 t3 a1 a2 a3 RA RI RC na ni dy vl db 

theorem sX2_weightBits (l : Launch) (D : va_G) (cI cC cS : ClassId) (sz : Nat) (o : Nat) (h : Nat) (t1 : Nat) (t2 : Nat) (t3 : Nat) (a1 : Nat) (a2 : Nat) (a3 : Nat) (RA : Nat → Int32) (RI : Nat → Int32) (RC : Nat → Int32) (na : Int32) (ni : Int32) (dy : Int32) (vl : Int32) (db : Int32) (area : Int32) (group : Int32)  : Met l yX2_weightBits wsX2_weightBits ({ frames := 3, cells := 0, slots := 0, locals := 69 } : Jvm.Room) (va_Pc [.ref o, .int area, .int group] (wPre D (TY cI cC cS) (([ovW o h, svW h t1 t2 t3 a1 a2 a3 cI RA RI RC na ni dy vl db] : List va_W).flatten) sz wN)) (qI D (TY cI cC cS) (fun (r : Int32) (u : Int32) => fX2_weightBits RC area group = u ∧ r = u) (fun u => ([ovW o h, svW h t1 t2 t3 a1 a2 a3 cI RA RI RC na ni dy vl db] : List va_W).flatten) (va_A (([ovW o h, svW h t1 t2 t3 a1 a2 a3 cI RA RI RC na ni dy vl db] : List va_W).flatten) sz)) 0 0 (va_A (([ovW o h, svW h t1 t2 t3 a1 a2 a3 cI RA RI RC na ni dy vl db] : List va_W).flatten) sz) := mX2_weightBits l D cI cC cS sz o h t1 t2 t3 a1 a2 a3 RA RI RC na ni dy vl db area group 

theorem sX2_partOfGroup (l : Launch) (D : va_G) (cI cC cS : ClassId) (sz : Nat) (o : Nat) (h : Nat) (t1 : Nat) (t2 : Nat) (t3 : Nat) (a1 : Nat) (a2 : Nat) (a3 : Nat) (RA : Nat → Int32) (RI : Nat → Int32) (RC : Nat → Int32) (na : Int32) (ni : Int32) (dy : Int32) (vl : Int32) (db : Int32) (group : Int32)  : Met l yX2_partOfGroup wsX2_partOfGroup ({ frames := 4, cells := 0, slots := 0, locals := 94 } : Jvm.Room) (va_Pc [.ref o, .int group] (wPre D (TY cI cC cS) (([ovW o h, svW h t1 t2 t3 a1 a2 a3 cI RA RI RC na ni dy vl db] : List va_W).flatten) sz wN)) (qI D (TY cI cC cS) (fun (r : Int32) (u : Int32) => fX2_partOfGroup RC group = u ∧ r = u) (fun u => ([ovW o h, svW h t1 t2 t3 a1 a2 a3 cI RA RI RC na ni dy vl db] : List va_W).flatten) (va_A (([ovW o h, svW h t1 t2 t3 a1 a2 a3 cI RA RI RC na ni dy vl db] : List va_W).flatten) sz)) 0 0 (va_A (([ovW o h, svW h t1 t2 t3 a1 a2 a3 cI RA RI RC na ni dy vl db] : List va_W).flatten) sz) := mX2_partOfGroup l D cI cC cS sz o h t1 t2 t3 a1 a2 a3 RA RI RC na ni dy vl db group 

/-- the value of X8_rateBits, path by path -/
def fX8_rateBits (RA : Nat → Int32) (na : Int32) : Int32 :=
  bd1 (fX2_rateOfInterviews RA na) (fun (r_2 : Int32) => r_2)

set_option maxHeartbeats 4000000 in
set_option maxRecDepth 100000 in
/-- X8_rateBits -/
theorem mX8_rateBits (l : Launch) (D : va_G) (cI cC cS : ClassId) (sz : Nat) (fq : Nat) (o : Nat) (cs : Nat) (rh : Nat) (g : Nat) (h : Nat) (t1 : Nat) (t2 : Nat) (t3 : Nat) (a1 : Nat) (a2 : Nat) (a3 : Nat) (RA : Nat → Int32) (RI : Nat → Int32) (RC : Nat → Int32) (na : Int32) (ni : Int32) (dy : Int32) (vl : Int32) (db : Int32)  : Met l yX8_rateBits wsX8_rateBits ({ frames := 4, cells := 0, slots := 0, locals := 89 } : Jvm.Room) (va_Pc [.ref fq] (wPre D (TY cI cC cS) ([fqW fq h o g cs rh, ovW o h, svW h t1 t2 t3 a1 a2 a3 cI RA RI RC na ni dy vl db] : List va_W).flatten sz wN)) (qI D (TY cI cC cS) (fun (r : Int32) (u : Int32) => fX8_rateBits RA na = u ∧ r = u) (fun u => ([fqW fq h o g cs rh, ovW o h, svW h t1 t2 t3 a1 a2 a3 cI RA RI RC na ni dy vl db] : List va_W).flatten) (va_A ([fqW fq h o g cs rh, ovW o h, svW h t1 t2 t3 a1 a2 a3 cI RA RI RC na ni dy vl db] : List va_W).flatten sz)) 0 0 (va_A ([fqW fq h o g cs rh, ovW o h, svW h t1 t2 t3 a1 a2 a3 cI RA RI RC na ni dy vl db] : List va_W).flatten sz) := by
  refine mkM (y := yX8_rateBits) (wsl := wsX8_rateBits) (fun Fr => qI D (TY cI cC cS) (fun (r : Int32) (u : Int32) => fX8_rateBits RA na = u ∧ r = u) (fun u => ([fqW fq h o g cs rh, ovW o h, svW h t1 t2 t3 a1 a2 a3 cI RA RI RC na ni dy vl db] : List va_W).flatten) Fr) (cc := cX8_rateBits) (maxL := 1) (ret := (some .int)) (own := RX8) (lv := [(0, .ref fq)]) (by decide) rfl rfl (Nat.le_of_ble_eq_true rfl) rfl ?_
  intro p e s m below meth c Fr ls hx hb hr hts hown hml hlk hin hP hK hD hS hA hAe hsz hX hl
  have w_1 := hts (.fieldLink RX8 21 "FieldQuotas" "overview" "LFieldQuotas$Overview;") (List.mem_of_getElem? (i := 1) rfl)
  have w_2 := sub_r (big := wsX8_rateBits) (u_ws RX8 TX8 5) [35, 36, 37, 38, 39] rfl
  refine lv_aload_n hx hb dX8_rateBits_0 rfl (lv_at hl 0 rfl) ?_
  refine va_get (D := D) (ci := 6) (C := RX8) (T := TX8) (N := 5) hx hb hts w_2 hown hK hP 0 rfl rfl 1 (by decide) w_1 (fun _ h9 => h9) rfl dX8_rateBits_1 ?_
  refine scallVi (As := []) (rest := []) (sX2_rateOfInterviews l D cI cC cS _ o h t1 t2 t3 a1 a2 a3 RA RI RC na ni dy vl db) ⟨hx, hb, hml, hown, hts⟩ (cwV 0 hts gX8_rateBits_X2_rateOfInterviews rfl rfl rfl (by decide +kernel) ⟨Nat.le_of_ble_eq_true rfl, Nat.le_of_ble_eq_true rfl⟩) wN_blind (fun _ _ hW => wN_warm hW hX) hP hK hD hS hA hl [1, 2] rfl rfl 0 1 rfl rfl rfl rfl rfl (Nat.le_of_ble_eq_true rfl) dX8_rateBits_4 ⟨Nat.zero_le _, Nat.zero_le _⟩ (fun _ => rfl) (fun u_ H locs hk2 hP hD hS => ?_)
  obtain ⟨r_2, e_r_2⟩ : ∃ z, z = u_ := ⟨_, rfl⟩
  subst e_r_2
  have hP : va_P D vwCl ([fqW fq h o g cs rh, ovW o h, svW h t1 t2 t3 a1 a2 a3 cI RA RI RC na ni dy vl db] : List va_W).flatten H := hP
  have hD : va_D Fr ([fqW fq h o g cs rh, ovW o h, svW h t1 t2 t3 a1 a2 a3 cI RA RI RC na ni dy vl db] : List va_W).flatten := hD
  refine W.eq (g2 := F0 m 7 ls [.int r_2]) rfl ?_
  exact endI hx hb hr hlk hP hK hD hS dX8_rateBits_7 r_2 rfl ⟨(bd1_e hk2).trans rfl, rfl⟩

/-- the value of X8_partBits, path by path -/
def fX8_partBits (RC : Nat → Int32) (group : Int32) : Int32 :=
  bd1 (fX8_isWithin group 0 2) (fun (r_2 : Bool) => (if r_2 = true then bd1 (fX2_partOfGroup RC group) (fun (r_4 : Int32) => r_4) else (-1)))

set_option maxHeartbeats 4000000 in
set_option maxRecDepth 100000 in
/-- X8_partBits -/
theorem mX8_partBits (l : Launch) (D : va_G) (cI cC cS : ClassId) (sz : Nat) (fq : Nat) (o : Nat) (cs : Nat) (rh : Nat) (g : Nat) (h : Nat) (t1 : Nat) (t2 : Nat) (t3 : Nat) (a1 : Nat) (a2 : Nat) (a3 : Nat) (RA : Nat → Int32) (RI : Nat → Int32) (RC : Nat → Int32) (na : Int32) (ni : Int32) (dy : Int32) (vl : Int32) (db : Int32) (group : Int32)  : Met l yX8_partBits wsX8_partBits ({ frames := 5, cells := 0, slots := 0, locals := 117 } : Jvm.Room) (va_Pc [.ref fq, .int group] (wPre D (TY cI cC cS) ([fqW fq h o g cs rh, ovW o h, svW h t1 t2 t3 a1 a2 a3 cI RA RI RC na ni dy vl db] : List va_W).flatten sz wN)) (qI D (TY cI cC cS) (fun (r : Int32) (u : Int32) => fX8_partBits RC group = u ∧ r = u) (fun u => ([fqW fq h o g cs rh, ovW o h, svW h t1 t2 t3 a1 a2 a3 cI RA RI RC na ni dy vl db] : List va_W).flatten) (va_A ([fqW fq h o g cs rh, ovW o h, svW h t1 t2 t3 a1 a2 a3 cI RA RI RC na ni dy vl db] : List va_W).flatten sz)) 0 0 (va_A ([fqW fq h o g cs rh, ovW o h, svW h t1 t2 t3 a1 a2 a3 cI RA RI RC na ni dy vl db] : List va_W).flatten sz) := by
  refine mkM (y := yX8_partBits) (wsl := wsX8_partBits) (fun Fr => qI D (TY cI cC cS) (fun (r : Int32) (u : Int32) => fX8_partBits RC group = u ∧ r = u) (fun u => ([fqW fq h o g cs rh, ovW o h, svW h t1 t2 t3 a1 a2 a3 cI RA RI RC na ni dy vl db] : List va_W).flatten) Fr) (cc := cX8_partBits) (maxL := 2) (ret := (some .int)) (own := RX8) (lv := [(0, .ref fq), (1, .int group)]) (by decide) rfl rfl (Nat.le_of_ble_eq_true rfl) rfl ?_
  intro p e s m below meth c Fr ls hx hb hr hts hown hml hlk hin hP hK hD hS hA hAe hsz hX hl
  have w_1 := hts (.fieldLink RX8 21 "FieldQuotas" "overview" "LFieldQuotas$Overview;") (List.mem_of_getElem? (i := 1) rfl)
  have w_2 := sub_r (big := wsX8_partBits) (u_ws RX8 TX8 5) [38, 39, 40, 41, 42] rfl
  refine lv_iload_n hx hb dX8_partBits_0 rfl (lv_at hl 1 rfl) ?_
  refine lv_iconst (v := 0) hx hb dX8_partBits_1 (by decide) ?_
  refine lv_iconst (v := 2) hx hb dX8_partBits_2 (by decide) ?_
  refine callSi (As := [.int group, .int 0, .int 2]) (rest := []) (mX8_isWithin l D cI cC cS _ group 0 2) ⟨hx, hb, hml, hown, hts⟩ (va_cwS 3 hts gX8_partBits_X8_isWithin rfl rfl rfl (by decide +kernel) ⟨Nat.le_of_ble_eq_true rfl, Nat.le_of_ble_eq_true rfl⟩) hP hK hD hS hA hl rfl rfl (Nat.le_of_ble_eq_true rfl) dX8_partBits_3 ⟨Nat.zero_le _, Nat.zero_le _⟩ (fun u_ H locs hk2 hP hS => ?_)
  obtain ⟨r_2, e_r_2⟩ : ∃ z, z = u_ := ⟨_, rfl⟩
  subst e_r_2
  refine W.eq (g2 := F0 m 6 ls [.int (bi r_2)]) rfl ?_
  refine lv_if_ne (tgt := 11) hx hb dX8_partBits_6 (by decide) (fun c6 => ?_) (fun c6 => ?_)
  · refine lv_aload_n hx hb dX8_partBits_11 rfl (lv_at hl 0 rfl) ?_
    refine va_get (D := D) (ci := 6) (C := RX8) (T := TX8) (N := 5) hx hb hts w_2 hown hK hP 0 rfl rfl 1 (by decide) w_1 (fun _ h9 => h9) rfl dX8_partBits_12 ?_
    refine lv_iload_n hx hb dX8_partBits_15 rfl (lv_at hl 1 rfl) ?_
    refine scallVi (As := [.int group]) (rest := []) (sX2_partOfGroup l D cI cC cS _ o h t1 t2 t3 a1 a2 a3 RA RI RC na ni dy vl db group) ⟨hx, hb, hml, hown, hts⟩ (cwV 1 hts gX8_partBits_X2_partOfGroup rfl rfl rfl (by decide +kernel) ⟨Nat.le_of_ble_eq_true rfl, Nat.le_of_ble_eq_true rfl⟩) wN_blind (fun _ _ hW => wN_warm hW hX) hP hK hD hS hA hl [1, 2] rfl rfl 0 1 rfl rfl rfl rfl rfl (Nat.le_of_ble_eq_true rfl) dX8_partBits_16 ⟨Nat.zero_le _, Nat.zero_le _⟩ (fun _ => rfl) (fun u_ H locs hk4 hP hD hS => ?_)
    obtain ⟨r_4, e_r_4⟩ : ∃ z, z = u_ := ⟨_, rfl⟩
    subst e_r_4
    have hP : va_P D vwCl ([fqW fq h o g cs rh, ovW o h, svW h t1 t2 t3 a1 a2 a3 cI RA RI RC na ni dy vl db] : List va_W).flatten H := hP
    have hD : va_D Fr ([fqW fq h o g cs rh, ovW o h, svW h t1 t2 t3 a1 a2 a3 cI RA RI RC na ni dy vl db] : List va_W).flatten := hD
    refine W.eq (g2 := F0 m 19 ls [.int r_4]) rfl ?_
    exact endI hx hb hr hlk hP hK hD hS dX8_partBits_19 r_4 rfl ⟨(bd1_e hk2).trans ((if_pos (bi_o c6)).trans ((bd1_e hk4).trans rfl)), rfl⟩
  · refine lv_iconst (v := (-1)) hx hb dX8_partBits_9 (by decide) ?_
    exact endI hx hb hr hlk hP hK hD hS dX8_partBits_10 (-1) rfl ⟨(bd1_e hk2).trans ((if_neg (bi_z c6)).trans rfl), rfl⟩

/-- the value of X8_cellOf, path by path -/
def fX8_cellOf (RC : Nat → Int32) (area : Int32) (group : Int32) (what : Int32) : Int32 :=
  bd1 (fX8_isCell area group) (fun (r_2 : Bool) => (if r_2 = true then (if what = 0 then bd1 (fX5_ofCell RC area group 0) (fun (r_4 : Int32) => r_4) else if what = 1 then bd1 (fX5_ofCell RC area group 1) (fun (r_6 : Int32) => r_6) else if what = 2 then bd1 (fX5_wantedIn RC area group) (fun (r_8 : Int32) => r_8) else if what = 3 then bd1 (fX5_ofCell RC area group 2) (fun (r_10 : Int32) => r_10) else if what = 4 then bd1 (fX2_weightBits RC area group) (fun (r_12 : Int32) => r_12) else (-1)) else (-1)))

set_option maxHeartbeats 4000000 in
set_option maxRecDepth 100000 in
/-- X8_cellOf -/
theorem mX8_cellOf (l : Launch) (D : va_G) (cI cC cS : ClassId) (sz : Nat) (fq : Nat) (o : Nat) (cs : Nat) (rh : Nat) (g : Nat) (h : Nat) (t1 : Nat) (t2 : Nat) (t3 : Nat) (a1 : Nat) (a2 : Nat) (a3 : Nat) (RA : Nat → Int32) (RI : Nat → Int32) (RC : Nat → Int32) (na : Int32) (ni : Int32) (dy : Int32) (vl : Int32) (db : Int32) (area : Int32) (group : Int32) (what : Int32)  : Met l yX8_cellOf wsX8_cellOf ({ frames := 4, cells := 0, slots := 0, locals := 91 } : Jvm.Room) (va_Pc [.ref fq, .int area, .int group, .int what] (wPre D (TY cI cC cS) ([fqW fq h o g cs rh, ovW o h, svW h t1 t2 t3 a1 a2 a3 cI RA RI RC na ni dy vl db] : List va_W).flatten sz wN)) (qI D (TY cI cC cS) (fun (r : Int32) (u : Int32) => fX8_cellOf RC area group what = u ∧ r = u) (fun u => ([fqW fq h o g cs rh, ovW o h, svW h t1 t2 t3 a1 a2 a3 cI RA RI RC na ni dy vl db] : List va_W).flatten) (va_A ([fqW fq h o g cs rh, ovW o h, svW h t1 t2 t3 a1 a2 a3 cI RA RI RC na ni dy vl db] : List va_W).flatten sz)) 0 0 (va_A ([fqW fq h o g cs rh, ovW o h, svW h t1 t2 t3 a1 a2 a3 cI RA RI RC na ni dy vl db] : List va_W).flatten sz) := by
  refine mkM (y := yX8_cellOf) (wsl := wsX8_cellOf) (fun Fr => qI D (TY cI cC cS) (fun (r : Int32) (u : Int32) => fX8_cellOf RC area group what = u ∧ r = u) (fun u => ([fqW fq h o g cs rh, ovW o h, svW h t1 t2 t3 a1 a2 a3 cI RA RI RC na ni dy vl db] : List va_W).flatten) Fr) (cc := cX8_cellOf) (maxL := 4) (ret := (some .int)) (own := RX8) (lv := [(0, .ref fq), (1, .int area), (2, .int group), (3, .int what)]) (by decide) rfl rfl (Nat.le_of_ble_eq_true rfl) rfl ?_
  intro p e s m below meth c Fr ls hx hb hr hts hown hml hlk hin hP hK hD hS hA hAe hsz hX hl
  have w_1 := hts (.fieldLink RX8 10 "FieldQuotas" "survey" "LFieldQuotas$Survey;") (List.mem_of_getElem? (i := 1) rfl)
  have w_2 := sub_r (big := wsX8_cellOf) (u_ws RX8 TX8 5) [43, 44, 45, 46, 47] rfl
  have w_3 := hts (.fieldLink RX8 21 "FieldQuotas" "overview" "LFieldQuotas$Overview;") (List.mem_of_getElem? (i := 2) rfl)
  refine lv_iload_n hx hb dX8_cellOf_0 rfl (lv_at hl 1 rfl) ?_
  refine lv_iload_n hx hb dX8_cellOf_1 rfl (lv_at hl 2 rfl) ?_
  refine callSi (As := [.int area, .int group]) (rest := []) (mX8_isCell l D cI cC cS _ area group) ⟨hx, hb, hml, hown, hts⟩ (va_cwS 2 hts gX8_cellOf_X8_isCell rfl rfl rfl (by decide +kernel) ⟨Nat.le_of_ble_eq_true rfl, Nat.le_of_ble_eq_true rfl⟩) hP hK hD hS hA hl rfl rfl (Nat.le_of_ble_eq_true rfl) dX8_cellOf_2 ⟨Nat.zero_le _, Nat.zero_le _⟩ (fun u_ H locs hk2 hP hS => ?_)
  obtain ⟨r_2, e_r_2⟩ : ∃ z, z = u_ := ⟨_, rfl⟩
  subst e_r_2
  refine W.eq (g2 := F0 m 5 ls [.int (bi r_2)]) rfl ?_
  refine lv_if_ne (tgt := 10) hx hb dX8_cellOf_5 (by decide) (fun c5 => ?_) (fun c5 => ?_)
  · refine lv_iload_n hx hb dX8_cellOf_10 rfl (lv_at hl 3 rfl) ?_
    by_cases c11_0 : what = 0
    · refine lv_tableIn (tgt := 44) hx hb dX8_cellOf_11 (by rw [c11_0]; decide) (by rw [c11_0]; decide) (by rw [c11_0]; rfl) (by decide) ?_
      refine lv_aload_n hx hb dX8_cellOf_44 rfl (lv_at hl 0 rfl) ?_
      refine va_get (D := D) (ci := 6) (C := RX8) (T := TX8) (N := 5) hx hb hts w_2 hown hK hP 0 rfl rfl 0 (by decide) w_1 (fun _ h9 => h9) rfl dX8_cellOf_45 ?_
      refine lv_iload_n hx hb dX8_cellOf_48 rfl (lv_at hl 1 rfl) ?_
      refine lv_iload_n hx hb dX8_cellOf_49 rfl (lv_at hl 2 rfl) ?_
      refine lv_iconst (v := 0) hx hb dX8_cellOf_50 (by decide) ?_
      refine scallVi (As := [.int area, .int group, .int 0]) (rest := []) (sX5_ofCell l D cI cC cS _ h t1 t2 t3 a1 a2 a3 RA RI RC na ni dy vl db area group 0) ⟨hx, hb, hml, hown, hts⟩ (cwV 3 hts gX8_cellOf_X5_ofCell rfl rfl rfl (by decide +kernel) ⟨Nat.le_of_ble_eq_true rfl, Nat.le_of_ble_eq_true rfl⟩) wN_blind (fun _ _ hW => wN_warm hW hX) hP hK hD hS hA hl [2] rfl rfl 0 4 rfl rfl rfl rfl rfl (Nat.le_of_ble_eq_true rfl) dX8_cellOf_51 ⟨Nat.zero_le _, Nat.zero_le _⟩ (fun _ => rfl) (fun u_ H locs hk4 hP hD hS => ?_)
      obtain ⟨r_4, e_r_4⟩ : ∃ z, z = u_ := ⟨_, rfl⟩
      subst e_r_4
      have hP : va_P D vwCl ([fqW fq h o g cs rh, ovW o h, svW h t1 t2 t3 a1 a2 a3 cI RA RI RC na ni dy vl db] : List va_W).flatten H := hP
      have hD : va_D Fr ([fqW fq h o g cs rh, ovW o h, svW h t1 t2 t3 a1 a2 a3 cI RA RI RC na ni dy vl db] : List va_W).flatten := hD
      refine W.eq (g2 := F0 m 54 ls [.int r_4]) rfl ?_
      exact endI hx hb hr hlk hP hK hD hS dX8_cellOf_54 r_4 rfl ⟨(bd1_e hk2).trans ((if_pos (bi_o c5)).trans ((if_pos c11_0).trans ((bd1_e hk4).trans rfl))), rfl⟩
    by_cases c11_1 : what = 1
    · refine lv_tableIn (tgt := 55) hx hb dX8_cellOf_11 (by rw [c11_1]; decide) (by rw [c11_1]; decide) (by rw [c11_1]; rfl) (by decide) ?_
      refine lv_aload_n hx hb dX8_cellOf_55 rfl (lv_at hl 0 rfl) ?_
      refine va_get (D := D) (ci := 6) (C := RX8) (T := TX8) (N := 5) hx hb hts w_2 hown hK hP 0 rfl rfl 0 (by decide) w_1 (fun _ h9 => h9) rfl dX8_cellOf_56 ?_
      refine lv_iload_n hx hb dX8_cellOf_59 rfl (lv_at hl 1 rfl) ?_
      refine lv_iload_n hx hb dX8_cellOf_60 rfl (lv_at hl 2 rfl) ?_
      refine lv_iconst (v := 1) hx hb dX8_cellOf_61 (by decide) ?_
      refine scallVi (As := [.int area, .int group, .int 1]) (rest := []) (sX5_ofCell l D cI cC cS _ h t1 t2 t3 a1 a2 a3 RA RI RC na ni dy vl db area group 1) ⟨hx, hb, hml, hown, hts⟩ (cwV 3 hts gX8_cellOf_X5_ofCell rfl rfl rfl (by decide +kernel) ⟨Nat.le_of_ble_eq_true rfl, Nat.le_of_ble_eq_true rfl⟩) wN_blind (fun _ _ hW => wN_warm hW hX) hP hK hD hS hA hl [2] rfl rfl 0 4 rfl rfl rfl rfl rfl (Nat.le_of_ble_eq_true rfl) dX8_cellOf_62 ⟨Nat.zero_le _, Nat.zero_le _⟩ (fun _ => rfl) (fun u_ H locs hk6 hP hD hS => ?_)
      obtain ⟨r_6, e_r_6⟩ : ∃ z, z = u_ := ⟨_, rfl⟩
      subst e_r_6
      have hP : va_P D vwCl ([fqW fq h o g cs rh, ovW o h, svW h t1 t2 t3 a1 a2 a3 cI RA RI RC na ni dy vl db] : List va_W).flatten H := hP
      have hD : va_D Fr ([fqW fq h o g cs rh, ovW o h, svW h t1 t2 t3 a1 a2 a3 cI RA RI RC na ni dy vl db] : List va_W).flatten := hD
      refine W.eq (g2 := F0 m 65 ls [.int r_6]) rfl ?_
      exact endI hx hb hr hlk hP hK hD hS dX8_cellOf_65 r_6 rfl ⟨(bd1_e hk2).trans ((if_pos (bi_o c5)).trans ((if_neg c11_0).trans ((if_pos c11_1).trans ((bd1_e hk6).trans rfl)))), rfl⟩
    by_cases c11_2 : what = 2
    · refine lv_tableIn (tgt := 66) hx hb dX8_cellOf_11 (by rw [c11_2]; decide) (by rw [c11_2]; decide) (by rw [c11_2]; rfl) (by decide) ?_
      refine lv_aload_n hx hb dX8_cellOf_66 rfl (lv_at hl 0 rfl) ?_
      refine va_get (D := D) (ci := 6) (C := RX8) (T := TX8) (N := 5) hx hb hts w_2 hown hK hP 0 rfl rfl 0 (by decide) w_1 (fun _ h9 => h9) rfl dX8_cellOf_67 ?_
      refine lv_iload_n hx hb dX8_cellOf_70 rfl (lv_at hl 1 rfl) ?_
      refine lv_iload_n hx hb dX8_cellOf_71 rfl (lv_at hl 2 rfl) ?_
      refine scallVi (As := [.int area, .int group]) (rest := []) (sX5_wantedIn l D cI cC cS _ h t1 t2 t3 a1 a2 a3 RA RI RC na ni dy vl db area group) ⟨hx, hb, hml, hown, hts⟩ (cwV 2 hts gX8_cellOf_X5_wantedIn rfl rfl rfl (by decide +kernel) ⟨Nat.le_of_ble_eq_true rfl, Nat.le_of_ble_eq_true rfl⟩) wN_blind (fun _ _ hW => wN_warm hW hX) hP hK hD hS hA hl [2] rfl rfl 0 4 rfl rfl rfl rfl rfl (Nat.le_of_ble_eq_true rfl) dX8_cellOf_72 ⟨Nat.zero_le _, Nat.zero_le _⟩ (fun _ => rfl) (fun u_ H locs hk8 hP hD hS => ?_)
      obtain ⟨r_8, e_r_8⟩ : ∃ z, z = u_ := ⟨_, rfl⟩
      subst e_r_8
      have hP : va_P D vwCl ([fqW fq h o g cs rh, ovW o h, svW h t1 t2 t3 a1 a2 a3 cI RA RI RC na ni dy vl db] : List va_W).flatten H := hP
      have hD : va_D Fr ([fqW fq h o g cs rh, ovW o h, svW h t1 t2 t3 a1 a2 a3 cI RA RI RC na ni dy vl db] : List va_W).flatten := hD
      refine W.eq (g2 := F0 m 75 ls [.int r_8]) rfl ?_
      exact endI hx hb hr hlk hP hK hD hS dX8_cellOf_75 r_8 rfl ⟨(bd1_e hk2).trans ((if_pos (bi_o c5)).trans ((if_neg c11_0).trans ((if_neg c11_1).trans ((if_pos c11_2).trans ((bd1_e hk8).trans rfl))))), rfl⟩
    by_cases c11_3 : what = 3
    · refine lv_tableIn (tgt := 76) hx hb dX8_cellOf_11 (by rw [c11_3]; decide) (by rw [c11_3]; decide) (by rw [c11_3]; rfl) (by decide) ?_
      refine lv_aload_n hx hb dX8_cellOf_76 rfl (lv_at hl 0 rfl) ?_
      refine va_get (D := D) (ci := 6) (C := RX8) (T := TX8) (N := 5) hx hb hts w_2 hown hK hP 0 rfl rfl 0 (by decide) w_1 (fun _ h9 => h9) rfl dX8_cellOf_77 ?_
      refine lv_iload_n hx hb dX8_cellOf_80 rfl (lv_at hl 1 rfl) ?_
      refine lv_iload_n hx hb dX8_cellOf_81 rfl (lv_at hl 2 rfl) ?_
      refine lv_iconst (v := 2) hx hb dX8_cellOf_82 (by decide) ?_
      refine scallVi (As := [.int area, .int group, .int 2]) (rest := []) (sX5_ofCell l D cI cC cS _ h t1 t2 t3 a1 a2 a3 RA RI RC na ni dy vl db area group 2) ⟨hx, hb, hml, hown, hts⟩ (cwV 3 hts gX8_cellOf_X5_ofCell rfl rfl rfl (by decide +kernel) ⟨Nat.le_of_ble_eq_true rfl, Nat.le_of_ble_eq_true rfl⟩) wN_blind (fun _ _ hW => wN_warm hW hX) hP hK hD hS hA hl [2] rfl rfl 0 4 rfl rfl rfl rfl rfl (Nat.le_of_ble_eq_true rfl) dX8_cellOf_83 ⟨Nat.zero_le _, Nat.zero_le _⟩ (fun _ => rfl) (fun u_ H locs hk10 hP hD hS => ?_)
      obtain ⟨r_10, e_r_10⟩ : ∃ z, z = u_ := ⟨_, rfl⟩
      subst e_r_10
      have hP : va_P D vwCl ([fqW fq h o g cs rh, ovW o h, svW h t1 t2 t3 a1 a2 a3 cI RA RI RC na ni dy vl db] : List va_W).flatten H := hP
      have hD : va_D Fr ([fqW fq h o g cs rh, ovW o h, svW h t1 t2 t3 a1 a2 a3 cI RA RI RC na ni dy vl db] : List va_W).flatten := hD
      refine W.eq (g2 := F0 m 86 ls [.int r_10]) rfl ?_
      exact endI hx hb hr hlk hP hK hD hS dX8_cellOf_86 r_10 rfl ⟨(bd1_e hk2).trans ((if_pos (bi_o c5)).trans ((if_neg c11_0).trans ((if_neg c11_1).trans ((if_neg c11_2).trans ((if_pos c11_3).trans ((bd1_e hk10).trans rfl)))))), rfl⟩
    by_cases c11_4 : what = 4
    · refine lv_tableIn (tgt := 87) hx hb dX8_cellOf_11 (by rw [c11_4]; decide) (by rw [c11_4]; decide) (by rw [c11_4]; rfl) (by decide) ?_
      refine lv_aload_n hx hb dX8_cellOf_87 rfl (lv_at hl 0 rfl) ?_
      refine va_get (D := D) (ci := 6) (C := RX8) (T := TX8) (N := 5) hx hb hts w_2 hown hK hP 0 rfl rfl 1 (by decide) w_3 (fun _ h9 => h9) rfl dX8_cellOf_88 ?_
      refine lv_iload_n hx hb dX8_cellOf_91 rfl (lv_at hl 1 rfl) ?_
      refine lv_iload_n hx hb dX8_cellOf_92 rfl (lv_at hl 2 rfl) ?_
      refine scallVi (As := [.int area, .int group]) (rest := []) (sX2_weightBits l D cI cC cS _ o h t1 t2 t3 a1 a2 a3 RA RI RC na ni dy vl db area group) ⟨hx, hb, hml, hown, hts⟩ (cwV 2 hts gX8_cellOf_X2_weightBits rfl rfl rfl (by decide +kernel) ⟨Nat.le_of_ble_eq_true rfl, Nat.le_of_ble_eq_true rfl⟩) wN_blind (fun _ _ hW => wN_warm hW hX) hP hK hD hS hA hl [1, 2] rfl rfl 0 1 rfl rfl rfl rfl rfl (Nat.le_of_ble_eq_true rfl) dX8_cellOf_93 ⟨Nat.zero_le _, Nat.zero_le _⟩ (fun _ => rfl) (fun u_ H locs hk12 hP hD hS => ?_)
      obtain ⟨r_12, e_r_12⟩ : ∃ z, z = u_ := ⟨_, rfl⟩
      subst e_r_12
      have hP : va_P D vwCl ([fqW fq h o g cs rh, ovW o h, svW h t1 t2 t3 a1 a2 a3 cI RA RI RC na ni dy vl db] : List va_W).flatten H := hP
      have hD : va_D Fr ([fqW fq h o g cs rh, ovW o h, svW h t1 t2 t3 a1 a2 a3 cI RA RI RC na ni dy vl db] : List va_W).flatten := hD
      refine W.eq (g2 := F0 m 96 ls [.int r_12]) rfl ?_
      exact endI hx hb hr hlk hP hK hD hS dX8_cellOf_96 r_12 rfl ⟨(bd1_e hk2).trans ((if_pos (bi_o c5)).trans ((if_neg c11_0).trans ((if_neg c11_1).trans ((if_neg c11_2).trans ((if_neg c11_3).trans ((if_pos c11_4).trans ((bd1_e hk12).trans rfl))))))), rfl⟩
    refine lv_tableOut (tgt := 97) hx hb dX8_cellOf_11 (tab_out (lo := 0) (hi := 4) (by decide) (fun k kk1 kk2 => ?_)) (by decide) ?_
    · rcases (show k = 0 ∨ k = 1 ∨ k = 2 ∨ k = 3 ∨ k = 4 by omega) with rfl | rfl | rfl | rfl | rfl
      · exact ne_ti c11_0 (by decide)
      · exact ne_ti c11_1 (by decide)
      · exact ne_ti c11_2 (by decide)
      · exact ne_ti c11_3 (by decide)
      · exact ne_ti c11_4 (by decide)
    refine lv_iconst (v := (-1)) hx hb dX8_cellOf_97 (by decide) ?_
    exact endI hx hb hr hlk hP hK hD hS dX8_cellOf_98 (-1) rfl ⟨(bd1_e hk2).trans ((if_pos (bi_o c5)).trans ((if_neg c11_0).trans ((if_neg c11_1).trans ((if_neg c11_2).trans ((if_neg c11_3).trans ((if_neg c11_4).trans rfl)))))), rfl⟩
  · refine lv_iconst (v := (-1)) hx hb dX8_cellOf_8 (by decide) ?_
    exact endI hx hb hr hlk hP hK hD hS dX8_cellOf_9 (-1) rfl ⟨(bd1_e hk2).trans ((if_neg (bi_z c5)).trans rfl), rfl⟩

